/-! ThirtyThreeBelowModel.hard -/
def f_X12_hard (s0 : SS) (a0 : Int32) (a1 : Int32) : Option (Int32 × SS) := (b1 (f_X12_isCell a0) fun r1 => (if r1 = (0 : Int32) then some ((-1), s0) else (b1 (f_X12_in a1 (1 : Int32) (9 : Int32)) fun r3 => (if r3 = (0 : Int32) then some ((-1), s0) else (b1 (f_X12_placeOf a0) fun r5 => (gd (inB r5 1952) (vl (((3 : Int32) + (zI s0 60 (r5.toInt.toNat)))) fun v7 => (b1 (f_X12_placeOf a0) fun r8 => (vl ((a1 - (3 : Int32))) fun v9 => (gd (inB r8 1952) (st (pI s0 60 (r8.toInt.toNat) v9) fun s11 => some (v7, s11))))))))))))
set_option maxRecDepth 4000 in
theorem t_X12_hard {r9 : Int32} {s0 s9 : SS} {h0 : List aE} {a0 : Int32} {a1 : Int32} (H0 : HH s0 h0) (hf : f_X12_hard s0 a0 a1 = some (r9, s9)) : AM mX12_hard (2) [.ref 67, .int a0, .int a1] h0 0 0 (PI fun r' h' => r9 = r' ∧ HH s9 h' ∧ Mo s0 s9) := by
  unfold f_X12_hard at hf
  refine am_of (lv := [some (.ref 67), some (.int a0), some (.int a1), none]) rfl (Nat.le_of_ble_eq_true rfl) rfl ?_
  refine aw_iload_n (pc' := 1) dX12_hard_0 rfl rfl ?_
  obtain ⟨r1, ec1, hf⟩ := b1_e hf
  refine aw_callSi (M' := mX12_isCell) (nc' := 0) (ns' := 0) (pc' := 4) dX12_hard_1 rfl ml_RX12_234 kX12_isCell (t_X12_isCell ec1) rfl rfl (Nat.le_of_ble_eq_true rfl) (rokD (by omega) (Nat.le_of_ble_eq_true rfl) (Nat.le_of_ble_eq_true rfl) (Nat.le_of_ble_eq_true rfl)) rfl rfl (fun _ h1 q1 => ?_)
  obtain ⟨rfl, rfl, zb1⟩ := q1
  refine aw_if_eq (tgt := 17) (pc' := 7) dX12_hard_4 (by decide) rfl (fun c2 => ?_) (fun c2 => ?_)
  · replace hf := ifp c2 hf
    refine aw_iconst (v := (-1)) (pc' := 18) dX12_hard_17 rfl (by decide) ?_
    obtain ⟨rfl, rfl⟩ := so2 hf
    exact aw_ri dX12_hard_18 rfl rfl (Nat.le_of_ble_eq_true rfl) (Nat.le_of_ble_eq_true rfl) ⟨rfl, H0, (Mo.rf _)⟩
  · replace hf := ifn c2 hf
    refine aw_iload_n (pc' := 8) dX12_hard_7 rfl rfl ?_
    refine aw_iconst (v := 1) (pc' := 9) dX12_hard_8 rfl (by decide) ?_
    refine aw_bipush (v := 9) (pc' := 11) dX12_hard_9 rfl (by decide) ?_
    obtain ⟨r3, ec3, hf⟩ := b1_e hf
    refine aw_callSi (M' := mX12_in) (nc' := 0) (ns' := 0) (pc' := 14) dX12_hard_11 rfl ml_RX12_230 kX12_in (t_X12_in ec3) rfl rfl (Nat.le_of_ble_eq_true rfl) (rokD (by omega) (Nat.le_of_ble_eq_true rfl) (Nat.le_of_ble_eq_true rfl) (Nat.le_of_ble_eq_true rfl)) rfl rfl (fun _ h3 q3 => ?_)
    obtain ⟨rfl, rfl, zb3⟩ := q3
    refine aw_if_ne (tgt := 19) (pc' := 17) dX12_hard_14 (by decide) rfl (fun c4 => ?_) (fun c4 => ?_)
    · replace hf := ifn c4 hf
      refine aw_iconst (v := 3) (pc' := 20) dX12_hard_19 rfl (by decide) ?_
      refine aw_aload_n (pc' := 21) dX12_hard_20 rfl rfl rfl ?_
      refine aw_gr (q := 59) (e := 3) (v := .ref 68) (pc' := 24) H0 (H0.fo rfl rfl) (by decide) rfl rfl dX12_hard_21 rfl fl_RX12_7 ?_
      refine aw_iload_n (pc' := 25) dX12_hard_24 rfl rfl ?_
      obtain ⟨r5, ec5, hf⟩ := b1_e hf
      refine aw_callSi (M' := mX12_placeOf) (nc' := 0) (ns' := 0) (pc' := 28) dX12_hard_25 rfl ml_RX12_238 kX12_placeOf (t_X12_placeOf ec5) rfl rfl (Nat.le_of_ble_eq_true rfl) (rokD (by omega) (Nat.le_of_ble_eq_true rfl) (Nat.le_of_ble_eq_true rfl) (Nat.le_of_ble_eq_true rfl)) rfl rfl (fun _ h5 q5 => ?_)
      obtain ⟨rfl, rfl⟩ := q5
      obtain ⟨g6, hf⟩ := gd_e hf
      refine aw_ia (q := 60) (pc' := 29) H0 (H0.fa rfl rfl rfl) g6 dX12_hard_28 rfl ?_
      refine aw_iadd (pc' := 30) dX12_hard_29 rfl ?_
      obtain ⟨v7, ev7, hf⟩ := vl_e hf
      refine aw_topi ev7 ?_
      refine aw_istore_n (lv' := [_, _, _, _]) (pc' := 31) dX12_hard_30 rfl (Nat.le_of_ble_eq_true rfl) rfl ?_
      refine aw_aload_n (pc' := 32) dX12_hard_31 rfl rfl rfl ?_
      refine aw_gr (q := 59) (e := 3) (v := .ref 68) (pc' := 35) H0 (H0.fo rfl rfl) (by decide) rfl rfl dX12_hard_32 rfl fl_RX12_7 ?_
      refine aw_iload_n (pc' := 36) dX12_hard_35 rfl rfl ?_
      obtain ⟨r8, ec8, hf⟩ := b1_e hf
      refine aw_callSi (M' := mX12_placeOf) (nc' := 0) (ns' := 0) (pc' := 39) dX12_hard_36 rfl ml_RX12_238 kX12_placeOf (t_X12_placeOf ec8) rfl rfl (Nat.le_of_ble_eq_true rfl) (rokD (by omega) (Nat.le_of_ble_eq_true rfl) (Nat.le_of_ble_eq_true rfl) (Nat.le_of_ble_eq_true rfl)) rfl rfl (fun _ h8 q8 => ?_)
      obtain ⟨rfl, rfl⟩ := q8
      refine aw_iload_n (pc' := 40) dX12_hard_39 rfl rfl ?_
      refine aw_iconst (v := 3) (pc' := 41) dX12_hard_40 rfl (by decide) ?_
      refine aw_isub (pc' := 42) dX12_hard_41 rfl ?_
      obtain ⟨v9, ev9, hf⟩ := vl_e hf
      refine aw_topi ev9 ?_
      obtain ⟨g10, hf⟩ := gd_e hf
      obtain ⟨s11, es11, hf⟩ := st_e hf
      refine aw_is (q := 60) (pc' := 43) es11 H0 (H0.fa rfl rfl rfl) g10 dX12_hard_42 rfl (fun h11 H11 => ?_)
      have m11 := Mo.ofI es11
      refine aw_iload_n (pc' := 44) dX12_hard_43 rfl rfl ?_
      obtain ⟨rfl, rfl⟩ := so2 hf
      exact aw_ri dX12_hard_44 rfl rfl (Nat.le_of_ble_eq_true rfl) (Nat.le_of_ble_eq_true rfl) ⟨rfl, H11, m11⟩
    · replace hf := ifp c4 hf
      refine aw_iconst (v := (-1)) (pc' := 18) dX12_hard_17 rfl (by decide) ?_
      obtain ⟨rfl, rfl⟩ := so2 hf
      exact aw_ri dX12_hard_18 rfl rfl (Nat.le_of_ble_eq_true rfl) (Nat.le_of_ble_eq_true rfl) ⟨rfl, H0, (Mo.rf _)⟩
/-! ThirtyThreeBelowModel.open -/
def f_X12_open (s0 : SS) (a0 : Int32) (a1 : Int32) : Option (Int32 × SS) := (b1 (f_X12_isCell a0) fun r1 => (if r1 = (0 : Int32) then some ((-1), s0) else (b1 (f_X12_in a1 (0 : Int32) (1 : Int32)) fun r3 => (if r3 = (0 : Int32) then some ((-1), s0) else (b1 (f_X12_placeOf a0) fun r5 => (gd (inB r5 1952) (jn (fun (t7_0 : Int32) => (b1 (f_X12_placeOf a0) fun r8 => (jn (fun (t9_0 : Int32) => (gd (inB r8 1952) (st (pI s0 61 (r8.toInt.toNat) (t9_0 &&& 1)) fun s11 => some (t7_0, s11)))) fun k9 => (if a1 = (1 : Int32) then (k9 1) else (k9 0))))) fun k7 => (if (zI s0 61 (r5.toInt.toNat)) = (0 : Int32) then (k7 0) else (k7 1)))))))))
set_option maxRecDepth 4000 in
theorem t_X12_open {r9 : Int32} {s0 s9 : SS} {h0 : List aE} {a0 : Int32} {a1 : Int32} (H0 : HH s0 h0) (hf : f_X12_open s0 a0 a1 = some (r9, s9)) : AM mX12_open (2) [.ref 67, .int a0, .int a1] h0 0 0 (PI fun r' h' => r9 = r' ∧ HH s9 h' ∧ Mo s0 s9) := by
  unfold f_X12_open at hf
  refine am_of (lv := [some (.ref 67), some (.int a0), some (.int a1), none]) rfl (Nat.le_of_ble_eq_true rfl) rfl ?_
  refine aw_iload_n (pc' := 1) dX12_open_0 rfl rfl ?_
  obtain ⟨r1, ec1, hf⟩ := b1_e hf
  refine aw_callSi (M' := mX12_isCell) (nc' := 0) (ns' := 0) (pc' := 4) dX12_open_1 rfl ml_RX12_234 kX12_isCell (t_X12_isCell ec1) rfl rfl (Nat.le_of_ble_eq_true rfl) (rokD (by omega) (Nat.le_of_ble_eq_true rfl) (Nat.le_of_ble_eq_true rfl) (Nat.le_of_ble_eq_true rfl)) rfl rfl (fun _ h1 q1 => ?_)
  obtain ⟨rfl, rfl, zb1⟩ := q1
  refine aw_if_eq (tgt := 16) (pc' := 7) dX12_open_4 (by decide) rfl (fun c2 => ?_) (fun c2 => ?_)
  · replace hf := ifp c2 hf
    refine aw_iconst (v := (-1)) (pc' := 17) dX12_open_16 rfl (by decide) ?_
    obtain ⟨rfl, rfl⟩ := so2 hf
    exact aw_ri dX12_open_17 rfl rfl (Nat.le_of_ble_eq_true rfl) (Nat.le_of_ble_eq_true rfl) ⟨rfl, H0, (Mo.rf _)⟩
  · replace hf := ifn c2 hf
    refine aw_iload_n (pc' := 8) dX12_open_7 rfl rfl ?_
    refine aw_iconst (v := 0) (pc' := 9) dX12_open_8 rfl (by decide) ?_
    refine aw_iconst (v := 1) (pc' := 10) dX12_open_9 rfl (by decide) ?_
    obtain ⟨r3, ec3, hf⟩ := b1_e hf
    refine aw_callSi (M' := mX12_in) (nc' := 0) (ns' := 0) (pc' := 13) dX12_open_10 rfl ml_RX12_230 kX12_in (t_X12_in ec3) rfl rfl (Nat.le_of_ble_eq_true rfl) (rokD (by omega) (Nat.le_of_ble_eq_true rfl) (Nat.le_of_ble_eq_true rfl) (Nat.le_of_ble_eq_true rfl)) rfl rfl (fun _ h3 q3 => ?_)
    obtain ⟨rfl, rfl, zb3⟩ := q3
    refine aw_if_ne (tgt := 18) (pc' := 16) dX12_open_13 (by decide) rfl (fun c4 => ?_) (fun c4 => ?_)
    · replace hf := ifn c4 hf
      refine aw_aload_n (pc' := 19) dX12_open_18 rfl rfl rfl ?_
      refine aw_gr (q := 59) (e := 5) (v := .ref 69) (pc' := 22) H0 (H0.fo rfl rfl) (by decide) rfl rfl dX12_open_19 rfl fl_RX12_13 ?_
      refine aw_iload_n (pc' := 23) dX12_open_22 rfl rfl ?_
      obtain ⟨r5, ec5, hf⟩ := b1_e hf
      refine aw_callSi (M' := mX12_placeOf) (nc' := 0) (ns' := 0) (pc' := 26) dX12_open_23 rfl ml_RX12_238 kX12_placeOf (t_X12_placeOf ec5) rfl rfl (Nat.le_of_ble_eq_true rfl) (rokD (by omega) (Nat.le_of_ble_eq_true rfl) (Nat.le_of_ble_eq_true rfl) (Nat.le_of_ble_eq_true rfl)) rfl rfl (fun _ h5 q5 => ?_)
      obtain ⟨rfl, rfl⟩ := q5
      obtain ⟨g6, hf⟩ := gd_e hf
      refine aw_za (q := 61) (pc' := 27) H0 (H0.fa rfl rfl rfl) g6 dX12_open_26 rfl ?_
      obtain ⟨k7, ek7, hf⟩ := jn_e hf
      have hk7 : ∀ (t7_0 : Int32), k7 t7_0 = some (r9, s9) → AW mX12_open (rmD (2) 0 0) (fin (PI fun r' h' => r9 = r' ∧ HH s9 h' ∧ Mo s0 s9) 0 0) 35 [some (.ref 67), some (.int a0), some (.int a1), none] [.int t7_0] h0 0 0 := by
        intro t7_0 hf
        subst ek7
        refine aw_istore_n (lv' := [_, _, _, _]) (pc' := 36) dX12_open_35 rfl (Nat.le_of_ble_eq_true rfl) rfl ?_
        refine aw_aload_n (pc' := 37) dX12_open_36 rfl rfl rfl ?_
        refine aw_gr (q := 59) (e := 5) (v := .ref 69) (pc' := 40) H0 (H0.fo rfl rfl) (by decide) rfl rfl dX12_open_37 rfl fl_RX12_13 ?_
        refine aw_iload_n (pc' := 41) dX12_open_40 rfl rfl ?_
        obtain ⟨r8, ec8, hf⟩ := b1_e hf
        refine aw_callSi (M' := mX12_placeOf) (nc' := 0) (ns' := 0) (pc' := 44) dX12_open_41 rfl ml_RX12_238 kX12_placeOf (t_X12_placeOf ec8) rfl rfl (Nat.le_of_ble_eq_true rfl) (rokD (by omega) (Nat.le_of_ble_eq_true rfl) (Nat.le_of_ble_eq_true rfl) (Nat.le_of_ble_eq_true rfl)) rfl rfl (fun _ h8 q8 => ?_)
        obtain ⟨rfl, rfl⟩ := q8
        refine aw_iload_n (pc' := 45) dX12_open_44 rfl rfl ?_
        refine aw_iconst (v := 1) (pc' := 46) dX12_open_45 rfl (by decide) ?_
        obtain ⟨k9, ek9, hf⟩ := jn_e hf
        have hk9 : ∀ (t9_0 : Int32), k9 t9_0 = some (r9, s9) → AW mX12_open (rmD (2) 0 0) (fin (PI fun r' h' => r9 = r' ∧ HH s9 h' ∧ Mo s0 s9) 0 0) 54 [none, none, none, some (.int t7_0)] [.int t9_0, .int r8, .ref 69] h0 0 0 := by
          intro t9_0 hf
          subst ek9
          obtain ⟨g10, hf⟩ := gd_e hf
          obtain ⟨s11, es11, hf⟩ := st_e hf
          refine aw_zs (q := 61) (pc' := 55) es11 H0 (H0.fa rfl rfl rfl) g10 dX12_open_54 rfl (fun h11 H11 => ?_)
          have m11 := Mo.ofI es11
          refine aw_iload_n (pc' := 56) dX12_open_55 rfl rfl ?_
          obtain ⟨rfl, rfl⟩ := so2 hf
          exact aw_ri dX12_open_56 rfl rfl (Nat.le_of_ble_eq_true rfl) (Nat.le_of_ble_eq_true rfl) ⟨rfl, H11, m11⟩
        clear ek9
        refine aw_icmp_ne (tgt := 53) (pc' := 49) dX12_open_46 (by decide) rfl (fun c12 => ?_) (fun c12 => ?_)
        · replace hf := ifn c12 hf
          refine aw_iconst (v := 0) (pc' := 54) dX12_open_53 rfl (by decide) ?_
          refine AW.lv_le (lz_d (lz_d (lz_d (lz_k lz_0)))) ?_
          exact hk9 _ hf
        · replace hf := ifp c12 hf
          refine aw_iconst (v := 1) (pc' := 50) dX12_open_49 rfl (by decide) ?_
          refine aw_goto (tgt := 54) dX12_open_50 (by decide) ?_
          refine AW.lv_le (lz_d (lz_d (lz_d (lz_k lz_0)))) ?_
          exact hk9 _ hf
      clear ek7
      refine aw_if_eq (tgt := 34) (pc' := 30) dX12_open_27 (by decide) rfl (fun c13 => ?_) (fun c13 => ?_)
      · replace hf := ifp c13 hf
        refine aw_iconst (v := 0) (pc' := 35) dX12_open_34 rfl (by decide) ?_
        exact hk7 _ hf
      · replace hf := ifn c13 hf
        refine aw_iconst (v := 1) (pc' := 31) dX12_open_30 rfl (by decide) ?_
        refine aw_goto (tgt := 35) dX12_open_31 (by decide) ?_
        exact hk7 _ hf
    · replace hf := ifp c4 hf
      refine aw_iconst (v := (-1)) (pc' := 17) dX12_open_16 rfl (by decide) ?_
      obtain ⟨rfl, rfl⟩ := so2 hf
      exact aw_ri dX12_open_17 rfl rfl (Nat.le_of_ble_eq_true rfl) (Nat.le_of_ble_eq_true rfl) ⟨rfl, H0, (Mo.rf _)⟩
/-! ThirtyThreeBelowModel.ofCell -/
def f_X12_ofCell (s0 : SS) (a0 : Int32) (a1 : Int32) : Option Int32 := (b1 (f_X12_isCell a0) fun r1 => (if r1 = (0 : Int32) then some (-1) else (b1 (f_X12_in a1 (0 : Int32) (1 : Int32)) fun r3 => (if r3 = (0 : Int32) then some (-1) else (if a1 = (0 : Int32) then (b1 (f_X12_placeOf a0) fun r9 => (gd (inB r9 1952) some ((3 : Int32) + (zI s0 60 (r9.toInt.toNat))))) else (b1 (f_X12_placeOf a0) fun r6 => (gd (inB r6 1952) (if (zI s0 61 (r6.toInt.toNat)) = (0 : Int32) then some 0 else some 1))))))))
set_option maxRecDepth 4000 in
theorem t_X12_ofCell {r9 : Int32} {s0 : SS} {h0 : List aE} {a0 : Int32} {a1 : Int32} (H0 : HH s0 h0) (hf : f_X12_ofCell s0 a0 a1 = some r9) : AM mX12_ofCell (2) [.ref 67, .int a0, .int a1] h0 0 0 (PI fun r' h' => r9 = r' ∧ h0 = h') := by
  unfold f_X12_ofCell at hf
  refine am_of (lv := [some (.ref 67), some (.int a0), some (.int a1)]) rfl (Nat.le_of_ble_eq_true rfl) rfl ?_
  refine aw_iload_n (pc' := 1) dX12_ofCell_0 rfl rfl ?_
  obtain ⟨r1, ec1, hf⟩ := b1_e hf
  refine aw_callSi (M' := mX12_isCell) (nc' := 0) (ns' := 0) (pc' := 4) dX12_ofCell_1 rfl ml_RX12_234 kX12_isCell (t_X12_isCell ec1) rfl rfl (Nat.le_of_ble_eq_true rfl) (rokD (by omega) (Nat.le_of_ble_eq_true rfl) (Nat.le_of_ble_eq_true rfl) (Nat.le_of_ble_eq_true rfl)) rfl rfl (fun _ h1 q1 => ?_)
  obtain ⟨rfl, rfl, zb1⟩ := q1
  refine aw_if_eq (tgt := 16) (pc' := 7) dX12_ofCell_4 (by decide) rfl (fun c2 => ?_) (fun c2 => ?_)
  · replace hf := ifp c2 hf
    refine aw_iconst (v := (-1)) (pc' := 17) dX12_ofCell_16 rfl (by decide) ?_
    refine aw_goto (tgt := 55) dX12_ofCell_17 (by decide) ?_
    obtain rfl := Option.some.inj hf
    exact aw_ri dX12_ofCell_55 rfl rfl (Nat.le_of_ble_eq_true rfl) (Nat.le_of_ble_eq_true rfl) ⟨rfl, rfl⟩
  · replace hf := ifn c2 hf
    refine aw_iload_n (pc' := 8) dX12_ofCell_7 rfl rfl ?_
    refine aw_iconst (v := 0) (pc' := 9) dX12_ofCell_8 rfl (by decide) ?_
    refine aw_iconst (v := 1) (pc' := 10) dX12_ofCell_9 rfl (by decide) ?_
    obtain ⟨r3, ec3, hf⟩ := b1_e hf
    refine aw_callSi (M' := mX12_in) (nc' := 0) (ns' := 0) (pc' := 13) dX12_ofCell_10 rfl ml_RX12_230 kX12_in (t_X12_in ec3) rfl rfl (Nat.le_of_ble_eq_true rfl) (rokD (by omega) (Nat.le_of_ble_eq_true rfl) (Nat.le_of_ble_eq_true rfl) (Nat.le_of_ble_eq_true rfl)) rfl rfl (fun _ h3 q3 => ?_)
    obtain ⟨rfl, rfl, zb3⟩ := q3
    refine aw_if_ne (tgt := 20) (pc' := 16) dX12_ofCell_13 (by decide) rfl (fun c4 => ?_) (fun c4 => ?_)
    · replace hf := ifn c4 hf
      refine aw_iload_n (pc' := 21) dX12_ofCell_20 rfl rfl ?_
      refine aw_if_ne (tgt := 38) (pc' := 24) dX12_ofCell_21 (by decide) rfl (fun c5 => ?_) (fun c5 => ?_)
      · replace hf := ifn c5 hf
        refine aw_aload_n (pc' := 39) dX12_ofCell_38 rfl rfl rfl ?_
        refine aw_gr (q := 59) (e := 5) (v := .ref 69) (pc' := 42) H0 (H0.fo rfl rfl) (by decide) rfl rfl dX12_ofCell_39 rfl fl_RX12_13 ?_
        refine aw_iload_n (pc' := 43) dX12_ofCell_42 rfl rfl ?_
        obtain ⟨r6, ec6, hf⟩ := b1_e hf
        refine aw_callSi (M' := mX12_placeOf) (nc' := 0) (ns' := 0) (pc' := 46) dX12_ofCell_43 rfl ml_RX12_238 kX12_placeOf (t_X12_placeOf ec6) rfl rfl (Nat.le_of_ble_eq_true rfl) (rokD (by omega) (Nat.le_of_ble_eq_true rfl) (Nat.le_of_ble_eq_true rfl) (Nat.le_of_ble_eq_true rfl)) rfl rfl (fun _ h6 q6 => ?_)
        obtain ⟨rfl, rfl⟩ := q6
        obtain ⟨g7, hf⟩ := gd_e hf
        refine aw_za (q := 61) (pc' := 47) H0 (H0.fa rfl rfl rfl) g7 dX12_ofCell_46 rfl ?_
        refine aw_if_eq (tgt := 54) (pc' := 50) dX12_ofCell_47 (by decide) rfl (fun c8 => ?_) (fun c8 => ?_)
        · replace hf := ifp c8 hf
          refine aw_iconst (v := 0) (pc' := 55) dX12_ofCell_54 rfl (by decide) ?_
          obtain rfl := Option.some.inj hf
          exact aw_ri dX12_ofCell_55 rfl rfl (Nat.le_of_ble_eq_true rfl) (Nat.le_of_ble_eq_true rfl) ⟨rfl, rfl⟩
        · replace hf := ifn c8 hf
          refine aw_iconst (v := 1) (pc' := 51) dX12_ofCell_50 rfl (by decide) ?_
          refine aw_goto (tgt := 55) dX12_ofCell_51 (by decide) ?_
          obtain rfl := Option.some.inj hf
          exact aw_ri dX12_ofCell_55 rfl rfl (Nat.le_of_ble_eq_true rfl) (Nat.le_of_ble_eq_true rfl) ⟨rfl, rfl⟩
      · replace hf := ifp c5 hf
        refine aw_iconst (v := 3) (pc' := 25) dX12_ofCell_24 rfl (by decide) ?_
        refine aw_aload_n (pc' := 26) dX12_ofCell_25 rfl rfl rfl ?_
        refine aw_gr (q := 59) (e := 3) (v := .ref 68) (pc' := 29) H0 (H0.fo rfl rfl) (by decide) rfl rfl dX12_ofCell_26 rfl fl_RX12_7 ?_
        refine aw_iload_n (pc' := 30) dX12_ofCell_29 rfl rfl ?_
        obtain ⟨r9, ec9, hf⟩ := b1_e hf
        refine aw_callSi (M' := mX12_placeOf) (nc' := 0) (ns' := 0) (pc' := 33) dX12_ofCell_30 rfl ml_RX12_238 kX12_placeOf (t_X12_placeOf ec9) rfl rfl (Nat.le_of_ble_eq_true rfl) (rokD (by omega) (Nat.le_of_ble_eq_true rfl) (Nat.le_of_ble_eq_true rfl) (Nat.le_of_ble_eq_true rfl)) rfl rfl (fun _ h9 q9 => ?_)
        obtain ⟨rfl, rfl⟩ := q9
        obtain ⟨g10, hf⟩ := gd_e hf
        refine aw_ia (q := 60) (pc' := 34) H0 (H0.fa rfl rfl rfl) g10 dX12_ofCell_33 rfl ?_
        refine aw_iadd (pc' := 35) dX12_ofCell_34 rfl ?_
        refine aw_goto (tgt := 55) dX12_ofCell_35 (by decide) ?_
        obtain rfl := Option.some.inj hf
        exact aw_ri dX12_ofCell_55 rfl rfl (Nat.le_of_ble_eq_true rfl) (Nat.le_of_ble_eq_true rfl) ⟨rfl, rfl⟩
    · replace hf := ifp c4 hf
      refine aw_iconst (v := (-1)) (pc' := 17) dX12_ofCell_16 rfl (by decide) ?_
      refine aw_goto (tgt := 55) dX12_ofCell_17 (by decide) ?_
      obtain rfl := Option.some.inj hf
      exact aw_ri dX12_ofCell_55 rfl rfl (Nat.le_of_ble_eq_true rfl) (Nat.le_of_ble_eq_true rfl) ⟨rfl, rfl⟩
/-! ThirtyThreeBelowModel.isBody -/
def f_X12_isBody (s0 : SS) (a0 : Int32) : Option Int32 := (b1 (f_X12_in a0 (0 : Int32) ((zS s0 59 4) - (1 : Int32))) fun r1 => some r1)
set_option maxRecDepth 4000 in
theorem t_X12_isBody {r9 : Int32} {s0 : SS} {h0 : List aE} {a0 : Int32} (H0 : HH s0 h0) (hf : f_X12_isBody s0 a0 = some r9) : AM mX12_isBody (1) [.ref 67, .int a0] h0 0 0 (PI fun r' h' => r9 = r' ∧ h0 = h' ∧ (r9 = 0 ∨ r9 = 1)) := by
  unfold f_X12_isBody at hf
  refine am_of (lv := [some (.ref 67), some (.int a0)]) rfl (Nat.le_of_ble_eq_true rfl) rfl ?_
  refine aw_iload_n (pc' := 1) dX12_isBody_0 rfl rfl ?_
  refine aw_iconst (v := 0) (pc' := 2) dX12_isBody_1 rfl (by decide) ?_
  refine aw_aload_n (pc' := 3) dX12_isBody_2 rfl rfl rfl ?_
  refine aw_gi (q := 59) (pc' := 6) H0 (H0.fo rfl rfl) (by decide) rfl dX12_isBody_3 rfl fl_RX12_242 ?_
  refine aw_iconst (v := 1) (pc' := 7) dX12_isBody_6 rfl (by decide) ?_
  refine aw_isub (pc' := 8) dX12_isBody_7 rfl ?_
  obtain ⟨r1, ec1, hf⟩ := b1_e hf
  refine aw_callSi (M' := mX12_in) (nc' := 0) (ns' := 0) (pc' := 11) dX12_isBody_8 rfl ml_RX12_230 kX12_in (t_X12_in ec1) rfl rfl (Nat.le_of_ble_eq_true rfl) (rokD (by omega) (Nat.le_of_ble_eq_true rfl) (Nat.le_of_ble_eq_true rfl) (Nat.le_of_ble_eq_true rfl)) rfl rfl (fun _ h1 q1 => ?_)
  obtain ⟨rfl, rfl, zb1⟩ := q1
  obtain rfl := Option.some.inj hf
  exact aw_ri dX12_isBody_11 rfl (nz zb1) (Nat.le_of_ble_eq_true rfl) (Nat.le_of_ble_eq_true rfl) ⟨rfl, rfl, zb1⟩
/-! ThirtyThreeBelowModel.isUnder -/
def f_X12_isUnder (a0 : Int32) (a1 : Int32) : Option Int32 := (if a1 = (0 : Int32) then some 1 else (if a0 = a1 then some 1 else (if a1 = (1 : Int32) then (if a0 = (2 : Int32) then some 1 else (if a0 = (3 : Int32) then some 1 else (if a0 = (4 : Int32) then some 1 else (if a0 = (5 : Int32) then some 1 else (if a0 = (6 : Int32) then some 1 else some 0))))) else (if a1 = (2 : Int32) then (if a0 = (3 : Int32) then some 1 else (if a0 = (4 : Int32) then some 1 else (if a0 = (5 : Int32) then some 1 else some 0))) else (if a1 = (4 : Int32) then (if a0 = (5 : Int32) then some 1 else some 0) else some 0)))))
set_option maxRecDepth 4000 in
theorem t_X12_isUnder {r9 : Int32} {h0 : List aE} {a0 : Int32} {a1 : Int32}  (hf : f_X12_isUnder a0 a1 = some r9) : AM mX12_isUnder (0) [.int a0, .int a1] h0 0 0 (PI fun r' h' => r9 = r' ∧ h0 = h' ∧ (r9 = 0 ∨ r9 = 1)) := by
  unfold f_X12_isUnder at hf
  refine am_of (lv := [some (.int a0), some (.int a1)]) rfl (Nat.le_of_ble_eq_true rfl) rfl ?_
  refine aw_iload_n (pc' := 1) dX12_isUnder_0 rfl rfl ?_
  refine aw_if_eq (tgt := 9) (pc' := 4) dX12_isUnder_1 (by decide) rfl (fun c1 => ?_) (fun c1 => ?_)
  · replace hf := ifp c1 hf
    refine aw_iconst (v := 1) (pc' := 10) dX12_isUnder_9 rfl (by decide) ?_
    obtain rfl := Option.some.inj hf
    exact aw_ri dX12_isUnder_10 rfl (by decide) (Nat.le_of_ble_eq_true rfl) (Nat.le_of_ble_eq_true rfl) ⟨rfl, rfl, Or.inr rfl⟩
  · replace hf := ifn c1 hf
    refine aw_iload_n (pc' := 5) dX12_isUnder_4 rfl rfl ?_
    refine aw_iload_n (pc' := 6) dX12_isUnder_5 rfl rfl ?_
    refine aw_icmp_ne (tgt := 11) (pc' := 9) dX12_isUnder_6 (by decide) rfl (fun c2 => ?_) (fun c2 => ?_)
    · replace hf := ifn c2 hf
      refine aw_iload_n (pc' := 12) dX12_isUnder_11 rfl rfl ?_
      refine aw_iconst (v := 1) (pc' := 13) dX12_isUnder_12 rfl (by decide) ?_
      refine aw_icmp_ne (tgt := 48) (pc' := 16) dX12_isUnder_13 (by decide) rfl (fun c3 => ?_) (fun c3 => ?_)
      · replace hf := ifn c3 hf
        refine aw_iload_n (pc' := 49) dX12_isUnder_48 rfl rfl ?_
        refine aw_iconst (v := 2) (pc' := 50) dX12_isUnder_49 rfl (by decide) ?_
        refine aw_icmp_ne (tgt := 74) (pc' := 53) dX12_isUnder_50 (by decide) rfl (fun c4 => ?_) (fun c4 => ?_)
        · replace hf := ifn c4 hf
          refine aw_iload_n (pc' := 75) dX12_isUnder_74 rfl rfl ?_
          refine aw_iconst (v := 4) (pc' := 76) dX12_isUnder_75 rfl (by decide) ?_
          refine aw_icmp_ne (tgt := 88) (pc' := 79) dX12_isUnder_76 (by decide) rfl (fun c5 => ?_) (fun c5 => ?_)
          · replace hf := ifn c5 hf
            refine aw_iconst (v := 0) (pc' := 89) dX12_isUnder_88 rfl (by decide) ?_
            obtain rfl := Option.some.inj hf
            exact aw_ri dX12_isUnder_89 rfl (by decide) (Nat.le_of_ble_eq_true rfl) (Nat.le_of_ble_eq_true rfl) ⟨rfl, rfl, Or.inl rfl⟩
          · replace hf := ifp c5 hf
            refine aw_iload_n (pc' := 80) dX12_isUnder_79 rfl rfl ?_
            refine aw_iconst (v := 5) (pc' := 81) dX12_isUnder_80 rfl (by decide) ?_
            refine aw_icmp_ne (tgt := 88) (pc' := 84) dX12_isUnder_81 (by decide) rfl (fun c6 => ?_) (fun c6 => ?_)
            · replace hf := ifn c6 hf
              refine aw_iconst (v := 0) (pc' := 89) dX12_isUnder_88 rfl (by decide) ?_
              obtain rfl := Option.some.inj hf
              exact aw_ri dX12_isUnder_89 rfl (by decide) (Nat.le_of_ble_eq_true rfl) (Nat.le_of_ble_eq_true rfl) ⟨rfl, rfl, Or.inl rfl⟩
            · replace hf := ifp c6 hf
              refine aw_iconst (v := 1) (pc' := 85) dX12_isUnder_84 rfl (by decide) ?_
              refine aw_goto (tgt := 89) dX12_isUnder_85 (by decide) ?_
              obtain rfl := Option.some.inj hf
              exact aw_ri dX12_isUnder_89 rfl (by decide) (Nat.le_of_ble_eq_true rfl) (Nat.le_of_ble_eq_true rfl) ⟨rfl, rfl, Or.inr rfl⟩
        · replace hf := ifp c4 hf
          refine aw_iload_n (pc' := 54) dX12_isUnder_53 rfl rfl ?_
          refine aw_iconst (v := 3) (pc' := 55) dX12_isUnder_54 rfl (by decide) ?_
          refine aw_icmp_eq (tgt := 68) (pc' := 58) dX12_isUnder_55 (by decide) rfl (fun c7 => ?_) (fun c7 => ?_)
          · replace hf := ifp c7 hf
            refine aw_iconst (v := 1) (pc' := 69) dX12_isUnder_68 rfl (by decide) ?_
            refine aw_goto (tgt := 73) dX12_isUnder_69 (by decide) ?_
            obtain rfl := Option.some.inj hf
            exact aw_ri dX12_isUnder_73 rfl (by decide) (Nat.le_of_ble_eq_true rfl) (Nat.le_of_ble_eq_true rfl) ⟨rfl, rfl, Or.inr rfl⟩
          · replace hf := ifn c7 hf
            refine aw_iload_n (pc' := 59) dX12_isUnder_58 rfl rfl ?_
            refine aw_iconst (v := 4) (pc' := 60) dX12_isUnder_59 rfl (by decide) ?_
            refine aw_icmp_eq (tgt := 68) (pc' := 63) dX12_isUnder_60 (by decide) rfl (fun c8 => ?_) (fun c8 => ?_)
            · replace hf := ifp c8 hf
              refine aw_iconst (v := 1) (pc' := 69) dX12_isUnder_68 rfl (by decide) ?_
              refine aw_goto (tgt := 73) dX12_isUnder_69 (by decide) ?_
              obtain rfl := Option.some.inj hf
              exact aw_ri dX12_isUnder_73 rfl (by decide) (Nat.le_of_ble_eq_true rfl) (Nat.le_of_ble_eq_true rfl) ⟨rfl, rfl, Or.inr rfl⟩
            · replace hf := ifn c8 hf
              refine aw_iload_n (pc' := 64) dX12_isUnder_63 rfl rfl ?_
              refine aw_iconst (v := 5) (pc' := 65) dX12_isUnder_64 rfl (by decide) ?_
              refine aw_icmp_ne (tgt := 72) (pc' := 68) dX12_isUnder_65 (by decide) rfl (fun c9 => ?_) (fun c9 => ?_)
              · replace hf := ifn c9 hf
                refine aw_iconst (v := 0) (pc' := 73) dX12_isUnder_72 rfl (by decide) ?_
                obtain rfl := Option.some.inj hf
                exact aw_ri dX12_isUnder_73 rfl (by decide) (Nat.le_of_ble_eq_true rfl) (Nat.le_of_ble_eq_true rfl) ⟨rfl, rfl, Or.inl rfl⟩
              · replace hf := ifp c9 hf
                refine aw_iconst (v := 1) (pc' := 69) dX12_isUnder_68 rfl (by decide) ?_
                refine aw_goto (tgt := 73) dX12_isUnder_69 (by decide) ?_
                obtain rfl := Option.some.inj hf
                exact aw_ri dX12_isUnder_73 rfl (by decide) (Nat.le_of_ble_eq_true rfl) (Nat.le_of_ble_eq_true rfl) ⟨rfl, rfl, Or.inr rfl⟩
      · replace hf := ifp c3 hf
        refine aw_iload_n (pc' := 17) dX12_isUnder_16 rfl rfl ?_
        refine aw_iconst (v := 2) (pc' := 18) dX12_isUnder_17 rfl (by decide) ?_
        refine aw_icmp_eq (tgt := 42) (pc' := 21) dX12_isUnder_18 (by decide) rfl (fun c10 => ?_) (fun c10 => ?_)
        · replace hf := ifp c10 hf
          refine aw_iconst (v := 1) (pc' := 43) dX12_isUnder_42 rfl (by decide) ?_
          refine aw_goto (tgt := 47) dX12_isUnder_43 (by decide) ?_
          obtain rfl := Option.some.inj hf
          exact aw_ri dX12_isUnder_47 rfl (by decide) (Nat.le_of_ble_eq_true rfl) (Nat.le_of_ble_eq_true rfl) ⟨rfl, rfl, Or.inr rfl⟩
        · replace hf := ifn c10 hf
          refine aw_iload_n (pc' := 22) dX12_isUnder_21 rfl rfl ?_
          refine aw_iconst (v := 3) (pc' := 23) dX12_isUnder_22 rfl (by decide) ?_
          refine aw_icmp_eq (tgt := 42) (pc' := 26) dX12_isUnder_23 (by decide) rfl (fun c11 => ?_) (fun c11 => ?_)
          · replace hf := ifp c11 hf
            refine aw_iconst (v := 1) (pc' := 43) dX12_isUnder_42 rfl (by decide) ?_
            refine aw_goto (tgt := 47) dX12_isUnder_43 (by decide) ?_
            obtain rfl := Option.some.inj hf
            exact aw_ri dX12_isUnder_47 rfl (by decide) (Nat.le_of_ble_eq_true rfl) (Nat.le_of_ble_eq_true rfl) ⟨rfl, rfl, Or.inr rfl⟩
          · replace hf := ifn c11 hf
            refine aw_iload_n (pc' := 27) dX12_isUnder_26 rfl rfl ?_
            refine aw_iconst (v := 4) (pc' := 28) dX12_isUnder_27 rfl (by decide) ?_
            refine aw_icmp_eq (tgt := 42) (pc' := 31) dX12_isUnder_28 (by decide) rfl (fun c12 => ?_) (fun c12 => ?_)
            · replace hf := ifp c12 hf
              refine aw_iconst (v := 1) (pc' := 43) dX12_isUnder_42 rfl (by decide) ?_
              refine aw_goto (tgt := 47) dX12_isUnder_43 (by decide) ?_
              obtain rfl := Option.some.inj hf
              exact aw_ri dX12_isUnder_47 rfl (by decide) (Nat.le_of_ble_eq_true rfl) (Nat.le_of_ble_eq_true rfl) ⟨rfl, rfl, Or.inr rfl⟩
            · replace hf := ifn c12 hf
              refine aw_iload_n (pc' := 32) dX12_isUnder_31 rfl rfl ?_
              refine aw_iconst (v := 5) (pc' := 33) dX12_isUnder_32 rfl (by decide) ?_
              refine aw_icmp_eq (tgt := 42) (pc' := 36) dX12_isUnder_33 (by decide) rfl (fun c13 => ?_) (fun c13 => ?_)
              · replace hf := ifp c13 hf
                refine aw_iconst (v := 1) (pc' := 43) dX12_isUnder_42 rfl (by decide) ?_
                refine aw_goto (tgt := 47) dX12_isUnder_43 (by decide) ?_
                obtain rfl := Option.some.inj hf
                exact aw_ri dX12_isUnder_47 rfl (by decide) (Nat.le_of_ble_eq_true rfl) (Nat.le_of_ble_eq_true rfl) ⟨rfl, rfl, Or.inr rfl⟩
              · replace hf := ifn c13 hf
                refine aw_iload_n (pc' := 37) dX12_isUnder_36 rfl rfl ?_
                refine aw_bipush (v := 6) (pc' := 39) dX12_isUnder_37 rfl (by decide) ?_
                refine aw_icmp_ne (tgt := 46) (pc' := 42) dX12_isUnder_39 (by decide) rfl (fun c14 => ?_) (fun c14 => ?_)
                · replace hf := ifn c14 hf
                  refine aw_iconst (v := 0) (pc' := 47) dX12_isUnder_46 rfl (by decide) ?_
                  obtain rfl := Option.some.inj hf
                  exact aw_ri dX12_isUnder_47 rfl (by decide) (Nat.le_of_ble_eq_true rfl) (Nat.le_of_ble_eq_true rfl) ⟨rfl, rfl, Or.inl rfl⟩
                · replace hf := ifp c14 hf
                  refine aw_iconst (v := 1) (pc' := 43) dX12_isUnder_42 rfl (by decide) ?_
                  refine aw_goto (tgt := 47) dX12_isUnder_43 (by decide) ?_
                  obtain rfl := Option.some.inj hf
                  exact aw_ri dX12_isUnder_47 rfl (by decide) (Nat.le_of_ble_eq_true rfl) (Nat.le_of_ble_eq_true rfl) ⟨rfl, rfl, Or.inr rfl⟩
    · replace hf := ifp c2 hf
      refine aw_iconst (v := 1) (pc' := 10) dX12_isUnder_9 rfl (by decide) ?_
      obtain rfl := Option.some.inj hf
      exact aw_ri dX12_isUnder_10 rfl (by decide) (Nat.le_of_ble_eq_true rfl) (Nat.le_of_ble_eq_true rfl) ⟨rfl, rfl, Or.inr rfl⟩
/-! ThirtyThreeBelowModel.isHole -/
def f_X12_isHole (s0 : SS) (a0 : Int32) : Option Int32 := (b1 (f_X12_isBody s0 a0) fun r1 => (if r1 = (0 : Int32) then some 0 else (gd (inB a0 120) (b1 (f_X12_isUnder (zI s0 62 (a0.toInt.toNat)) (2 : Int32)) fun r4 => (if r4 = (0 : Int32) then some 0 else some 1)))))
set_option maxRecDepth 4000 in
theorem t_X12_isHole {r9 : Int32} {s0 : SS} {h0 : List aE} {a0 : Int32} (H0 : HH s0 h0) (hf : f_X12_isHole s0 a0 = some r9) : AM mX12_isHole (2) [.ref 67, .int a0] h0 0 0 (PI fun r' h' => r9 = r' ∧ h0 = h' ∧ (r9 = 0 ∨ r9 = 1)) := by
  unfold f_X12_isHole at hf
  refine am_of (lv := [some (.ref 67), some (.int a0)]) rfl (Nat.le_of_ble_eq_true rfl) rfl ?_
  refine aw_aload_n (pc' := 1) dX12_isHole_0 rfl rfl rfl ?_
  refine aw_iload_n (pc' := 2) dX12_isHole_1 rfl rfl ?_
  obtain ⟨r1, ec1, hf⟩ := b1_e hf
  refine aw_callVi (M' := mX12_isBody) (nc' := 0) (ns' := 0) (pc' := 5) dX12_isHole_2 rfl ml_RX12_245 kX12_isBody (t_X12_isBody H0 ec1) (H0.ob (H0.fo rfl rfl) (by decide)) rfl rfl rfl (Nat.le_of_ble_eq_true rfl) (rokD (by omega) (Nat.le_of_ble_eq_true rfl) (Nat.le_of_ble_eq_true rfl) (Nat.le_of_ble_eq_true rfl)) rfl rfl (fun _ h1 q1 => ?_)
  obtain ⟨rfl, rfl, zb1⟩ := q1
  refine aw_if_eq (tgt := 25) (pc' := 8) dX12_isHole_5 (by decide) rfl (fun c2 => ?_) (fun c2 => ?_)
  · replace hf := ifp c2 hf
    refine aw_iconst (v := 0) (pc' := 26) dX12_isHole_25 rfl (by decide) ?_
    obtain rfl := Option.some.inj hf
    exact aw_ri dX12_isHole_26 rfl (by decide) (Nat.le_of_ble_eq_true rfl) (Nat.le_of_ble_eq_true rfl) ⟨rfl, rfl, Or.inl rfl⟩
  · replace hf := ifn c2 hf
    refine aw_aload_n (pc' := 9) dX12_isHole_8 rfl rfl rfl ?_
    refine aw_gr (q := 59) (e := 7) (v := .ref 70) (pc' := 12) H0 (H0.fo rfl rfl) (by decide) rfl rfl dX12_isHole_9 rfl fl_RX12_17 ?_
    refine aw_iload_n (pc' := 13) dX12_isHole_12 rfl rfl ?_
    obtain ⟨g3, hf⟩ := gd_e hf
    refine aw_ia (q := 62) (pc' := 14) H0 (H0.fa rfl rfl rfl) g3 dX12_isHole_13 rfl ?_
    refine aw_iconst (v := 2) (pc' := 15) dX12_isHole_14 rfl (by decide) ?_
    obtain ⟨r4, ec4, hf⟩ := b1_e hf
    refine aw_callSi (M' := mX12_isUnder) (nc' := 0) (ns' := 0) (pc' := 18) dX12_isHole_15 rfl ml_RX12_248 kX12_isUnder (t_X12_isUnder ec4) rfl rfl (Nat.le_of_ble_eq_true rfl) (rokD (by omega) (Nat.le_of_ble_eq_true rfl) (Nat.le_of_ble_eq_true rfl) (Nat.le_of_ble_eq_true rfl)) rfl rfl (fun _ h4 q4 => ?_)
    obtain ⟨rfl, rfl, zb4⟩ := q4
    refine aw_if_eq (tgt := 25) (pc' := 21) dX12_isHole_18 (by decide) rfl (fun c5 => ?_) (fun c5 => ?_)
    · replace hf := ifp c5 hf
      refine aw_iconst (v := 0) (pc' := 26) dX12_isHole_25 rfl (by decide) ?_
      obtain rfl := Option.some.inj hf
      exact aw_ri dX12_isHole_26 rfl (by decide) (Nat.le_of_ble_eq_true rfl) (Nat.le_of_ble_eq_true rfl) ⟨rfl, rfl, Or.inl rfl⟩
    · replace hf := ifn c5 hf
      refine aw_iconst (v := 1) (pc' := 22) dX12_isHole_21 rfl (by decide) ?_
      refine aw_goto (tgt := 26) dX12_isHole_22 (by decide) ?_
      obtain rfl := Option.some.inj hf
      exact aw_ri dX12_isHole_26 rfl (by decide) (Nat.le_of_ble_eq_true rfl) (Nat.le_of_ble_eq_true rfl) ⟨rfl, rfl, Or.inr rfl⟩
/-! ThirtyThreeBelowModel.isMan -/
def f_X12_isMan (s0 : SS) (a0 : Int32) : Option Int32 := (b1 (f_X12_isBody s0 a0) fun r1 => (if r1 = (0 : Int32) then some 0 else (gd (inB a0 120) (if (zI s0 62 (a0.toInt.toNat)) = (7 : Int32) then some 1 else some 0))))
set_option maxRecDepth 4000 in
theorem t_X12_isMan {r9 : Int32} {s0 : SS} {h0 : List aE} {a0 : Int32} (H0 : HH s0 h0) (hf : f_X12_isMan s0 a0 = some r9) : AM mX12_isMan (2) [.ref 67, .int a0] h0 0 0 (PI fun r' h' => r9 = r' ∧ h0 = h' ∧ (r9 = 0 ∨ r9 = 1)) := by
  unfold f_X12_isMan at hf
  refine am_of (lv := [some (.ref 67), some (.int a0)]) rfl (Nat.le_of_ble_eq_true rfl) rfl ?_
  refine aw_aload_n (pc' := 1) dX12_isMan_0 rfl rfl rfl ?_
  refine aw_iload_n (pc' := 2) dX12_isMan_1 rfl rfl ?_
  obtain ⟨r1, ec1, hf⟩ := b1_e hf
  refine aw_callVi (M' := mX12_isBody) (nc' := 0) (ns' := 0) (pc' := 5) dX12_isMan_2 rfl ml_RX12_245 kX12_isBody (t_X12_isBody H0 ec1) (H0.ob (H0.fo rfl rfl) (by decide)) rfl rfl rfl (Nat.le_of_ble_eq_true rfl) (rokD (by omega) (Nat.le_of_ble_eq_true rfl) (Nat.le_of_ble_eq_true rfl) (Nat.le_of_ble_eq_true rfl)) rfl rfl (fun _ h1 q1 => ?_)
  obtain ⟨rfl, rfl, zb1⟩ := q1
  refine aw_if_eq (tgt := 23) (pc' := 8) dX12_isMan_5 (by decide) rfl (fun c2 => ?_) (fun c2 => ?_)
  · replace hf := ifp c2 hf
    refine aw_iconst (v := 0) (pc' := 24) dX12_isMan_23 rfl (by decide) ?_
    obtain rfl := Option.some.inj hf
    exact aw_ri dX12_isMan_24 rfl (by decide) (Nat.le_of_ble_eq_true rfl) (Nat.le_of_ble_eq_true rfl) ⟨rfl, rfl, Or.inl rfl⟩
  · replace hf := ifn c2 hf
    refine aw_aload_n (pc' := 9) dX12_isMan_8 rfl rfl rfl ?_
    refine aw_gr (q := 59) (e := 7) (v := .ref 70) (pc' := 12) H0 (H0.fo rfl rfl) (by decide) rfl rfl dX12_isMan_9 rfl fl_RX12_17 ?_
    refine aw_iload_n (pc' := 13) dX12_isMan_12 rfl rfl ?_
    obtain ⟨g3, hf⟩ := gd_e hf
    refine aw_ia (q := 62) (pc' := 14) H0 (H0.fa rfl rfl rfl) g3 dX12_isMan_13 rfl ?_
    refine aw_bipush (v := 7) (pc' := 16) dX12_isMan_14 rfl (by decide) ?_
    refine aw_icmp_ne (tgt := 23) (pc' := 19) dX12_isMan_16 (by decide) rfl (fun c4 => ?_) (fun c4 => ?_)
    · replace hf := ifn c4 hf
      refine aw_iconst (v := 0) (pc' := 24) dX12_isMan_23 rfl (by decide) ?_
      obtain rfl := Option.some.inj hf
      exact aw_ri dX12_isMan_24 rfl (by decide) (Nat.le_of_ble_eq_true rfl) (Nat.le_of_ble_eq_true rfl) ⟨rfl, rfl, Or.inl rfl⟩
    · replace hf := ifp c4 hf
      refine aw_iconst (v := 1) (pc' := 20) dX12_isMan_19 rfl (by decide) ?_
      refine aw_goto (tgt := 24) dX12_isMan_20 (by decide) ?_
      obtain rfl := Option.some.inj hf
      exact aw_ri dX12_isMan_24 rfl (by decide) (Nat.le_of_ble_eq_true rfl) (Nat.le_of_ble_eq_true rfl) ⟨rfl, rfl, Or.inr rfl⟩
/-! ThirtyThreeBelowModel.add -/
def f_X12_add (s0 : SS) (a0 : Int32) : Option (Int32 × SS) := (vl ((zS s0 59 4)) fun v1 => (gd (inB v1 120) (st (pI s0 62 (v1.toInt.toNat) a0) fun s3 => (vl (((zS s3 59 4) + (1 : Int32))) fun v4 => (st (pS s3 59 4 v4) fun s5 => some (((zS s5 59 4) - (1 : Int32)), s5))))))
set_option maxRecDepth 4000 in
theorem t_X12_add {r9 : Int32} {s0 s9 : SS} {h0 : List aE} {a0 : Int32} (H0 : HH s0 h0) (hf : f_X12_add s0 a0 = some (r9, s9)) : AM mX12_add (0) [.ref 67, .int a0] h0 0 0 (PI fun r' h' => r9 = r' ∧ HH s9 h' ∧ Mo s0 s9) := by
  unfold f_X12_add at hf
  refine am_of (lv := [some (.ref 67), some (.int a0)]) rfl (Nat.le_of_ble_eq_true rfl) rfl ?_
  refine aw_aload_n (pc' := 1) dX12_add_0 rfl rfl rfl ?_
  refine aw_gr (q := 59) (e := 7) (v := .ref 70) (pc' := 4) H0 (H0.fo rfl rfl) (by decide) rfl rfl dX12_add_1 rfl fl_RX12_17 ?_
  refine aw_aload_n (pc' := 5) dX12_add_4 rfl rfl rfl ?_
  refine aw_gi (q := 59) (pc' := 8) H0 (H0.fo rfl rfl) (by decide) rfl dX12_add_5 rfl fl_RX12_242 ?_
  refine aw_iload_n (pc' := 9) dX12_add_8 rfl rfl ?_
  obtain ⟨v1, ev1, hf⟩ := vl_e hf
  refine aw_sndi ev1 ?_
  obtain ⟨g2, hf⟩ := gd_e hf
  obtain ⟨s3, es3, hf⟩ := st_e hf
  refine aw_is (q := 62) (pc' := 10) es3 H0 (H0.fa rfl rfl rfl) g2 dX12_add_9 rfl (fun h3 H3 => ?_)
  have m3 := Mo.ofI es3
  refine aw_aload_n (pc' := 11) dX12_add_10 rfl rfl rfl ?_
  refine aw_dup (pc' := 12) dX12_add_11 rfl rfl ?_
  refine aw_gi (q := 59) (pc' := 15) H3 (H3.fo rfl rfl) (by decide) rfl dX12_add_12 rfl fl_RX12_242 ?_
  refine aw_iconst (v := 1) (pc' := 16) dX12_add_15 rfl (by decide) ?_
  refine aw_iadd (pc' := 17) dX12_add_16 rfl ?_
  obtain ⟨v4, ev4, hf⟩ := vl_e hf
  refine aw_topi ev4 ?_
  obtain ⟨s5, es5, hf⟩ := st_e hf
  refine aw_pi (q := 59) (pc' := 20) es5 H3 (H3.fo rfl rfl) (by decide) rfl dX12_add_17 rfl fl_RX12_242 rfl (fun h5 H5 => ?_)
  have m5 := Mo.ofS es5
  refine aw_aload_n (pc' := 21) dX12_add_20 rfl rfl rfl ?_
  refine aw_gi (q := 59) (pc' := 24) H5 (H5.fo rfl rfl) (by decide) rfl dX12_add_21 rfl fl_RX12_242 ?_
  refine aw_iconst (v := 1) (pc' := 25) dX12_add_24 rfl (by decide) ?_
  refine aw_isub (pc' := 26) dX12_add_25 rfl ?_
  obtain ⟨rfl, rfl⟩ := so2 hf
  exact aw_ri dX12_add_26 rfl rfl (Nat.le_of_ble_eq_true rfl) (Nat.le_of_ble_eq_true rfl) ⟨rfl, H5, (m3.tr m5)⟩
/-! ThirtyThreeBelowModel.body -/
def f_X12_body (s0 : SS) (a0 : Int32) : Option (Int32 × SS) := (b1 (f_X12_in a0 (0 : Int32) (1 : Int32)) fun r1 => (if r1 = (0 : Int32) then some ((-1), s0) else (if (zS s0 59 4) = (120 : Int32) then some ((-3), s0) else (bd (f_X12_add s0 a0) fun r4 s4 => some (r4, s4)))))
set_option maxRecDepth 4000 in
theorem t_X12_body {r9 : Int32} {s0 s9 : SS} {h0 : List aE} {a0 : Int32} (H0 : HH s0 h0) (hf : f_X12_body s0 a0 = some (r9, s9)) : AM mX12_body (1) [.ref 67, .int a0] h0 0 0 (PI fun r' h' => r9 = r' ∧ HH s9 h' ∧ Mo s0 s9) := by
  unfold f_X12_body at hf
  refine am_of (lv := [some (.ref 67), some (.int a0)]) rfl (Nat.le_of_ble_eq_true rfl) rfl ?_
  refine aw_iload_n (pc' := 1) dX12_body_0 rfl rfl ?_
  refine aw_iconst (v := 0) (pc' := 2) dX12_body_1 rfl (by decide) ?_
  refine aw_iconst (v := 1) (pc' := 3) dX12_body_2 rfl (by decide) ?_
  obtain ⟨r1, ec1, hf⟩ := b1_e hf
  refine aw_callSi (M' := mX12_in) (nc' := 0) (ns' := 0) (pc' := 6) dX12_body_3 rfl ml_RX12_230 kX12_in (t_X12_in ec1) rfl rfl (Nat.le_of_ble_eq_true rfl) (rokD (by omega) (Nat.le_of_ble_eq_true rfl) (Nat.le_of_ble_eq_true rfl) (Nat.le_of_ble_eq_true rfl)) rfl rfl (fun _ h1 q1 => ?_)
  obtain ⟨rfl, rfl, zb1⟩ := q1
  refine aw_if_ne (tgt := 11) (pc' := 9) dX12_body_6 (by decide) rfl (fun c2 => ?_) (fun c2 => ?_)
  · replace hf := ifn c2 hf
    refine aw_aload_n (pc' := 12) dX12_body_11 rfl rfl rfl ?_
    refine aw_gi (q := 59) (pc' := 15) H0 (H0.fo rfl rfl) (by decide) rfl dX12_body_12 rfl fl_RX12_242 ?_
    refine aw_bipush (v := 120) (pc' := 17) dX12_body_15 rfl (by decide) ?_
    refine aw_icmp_ne (tgt := 25) (pc' := 20) dX12_body_17 (by decide) rfl (fun c3 => ?_) (fun c3 => ?_)
    · replace hf := ifn c3 hf
      refine aw_aload_n (pc' := 26) dX12_body_25 rfl rfl rfl ?_
      refine aw_iload_n (pc' := 27) dX12_body_26 rfl rfl ?_
      obtain ⟨r4, s4, ec4, hf⟩ := bd_e hf
      refine aw_callVi (M' := mX12_add) (nc' := 0) (ns' := 0) (pc' := 30) dX12_body_27 rfl ml_RX12_252 kX12_add (t_X12_add H0 ec4) (H0.ob (H0.fo rfl rfl) (by decide)) rfl rfl rfl (Nat.le_of_ble_eq_true rfl) (rokD (by omega) (Nat.le_of_ble_eq_true rfl) (Nat.le_of_ble_eq_true rfl) (Nat.le_of_ble_eq_true rfl)) rfl rfl (fun _ h4 q4 => ?_)
      obtain ⟨rfl, H4, m4⟩ := q4
      obtain ⟨rfl, rfl⟩ := so2 hf
      exact aw_ri dX12_body_30 rfl rfl (Nat.le_of_ble_eq_true rfl) (Nat.le_of_ble_eq_true rfl) ⟨rfl, H4, m4⟩
    · replace hf := ifp c3 hf
      refine aw_bipush (v := (-3)) (pc' := 22) dX12_body_20 rfl (by decide) ?_
      refine aw_goto (tgt := 30) dX12_body_22 (by decide) ?_
      obtain ⟨rfl, rfl⟩ := so2 hf
      exact aw_ri dX12_body_30 rfl rfl (Nat.le_of_ble_eq_true rfl) (Nat.le_of_ble_eq_true rfl) ⟨rfl, H0, (Mo.rf _)⟩
  · replace hf := ifp c2 hf
    refine aw_iconst (v := (-1)) (pc' := 10) dX12_body_9 rfl (by decide) ?_
    obtain ⟨rfl, rfl⟩ := so2 hf
    exact aw_ri dX12_body_10 rfl rfl (Nat.le_of_ble_eq_true rfl) (Nat.le_of_ble_eq_true rfl) ⟨rfl, H0, (Mo.rf _)⟩
/-! ThirtyThreeBelowModel.hole -/
def f_X12_hole (s0 : SS) (a0 : Int32) (a1 : Int32) : Option (Int32 × SS) := (b1 (f_X12_in a0 (2 : Int32) (5 : Int32)) fun r1 => (if r1 = (0 : Int32) then some ((-1), s0) else (if a1 < (0 : Int32) then some ((-1), s0) else (if (a1 / (100 : Int32)) < (32 : Int32) then (if (a1 % (100 : Int32)) = (0 : Int32) then some ((-1), s0) else (if (zS s0 59 4) = (120 : Int32) then some ((-3), s0) else (bd (f_X12_add s0 a0) fun r7 s7 => (vl ((a1 / (100 : Int32))) fun v8 => (gd (inB r7 120) (st (pI s7 63 (r7.toInt.toNat) v8) fun s10 => (vl ((a1 / (100 : Int32))) fun v11 => (gd (inB r7 120) (st (pI s10 65 (r7.toInt.toNat) v11) fun s13 => (vl ((a1 % (100 : Int32))) fun v14 => (gd (inB r7 120) (st (pI s13 64 (r7.toInt.toNat) v14) fun s16 => some (r7, s16))))))))))))) else some ((-1), s0)))))
set_option maxRecDepth 4000 in
theorem t_X12_hole {r9 : Int32} {s0 s9 : SS} {h0 : List aE} {a0 : Int32} {a1 : Int32} (H0 : HH s0 h0) (hf : f_X12_hole s0 a0 a1 = some (r9, s9)) : AM mX12_hole (1) [.ref 67, .int a0, .int a1] h0 0 0 (PI fun r' h' => r9 = r' ∧ HH s9 h' ∧ Mo s0 s9) := by
  unfold f_X12_hole at hf
  refine am_of (lv := [some (.ref 67), some (.int a0), some (.int a1), none]) rfl (Nat.le_of_ble_eq_true rfl) rfl ?_
  refine aw_iload_n (pc' := 1) dX12_hole_0 rfl rfl ?_
  refine aw_iconst (v := 2) (pc' := 2) dX12_hole_1 rfl (by decide) ?_
  refine aw_iconst (v := 5) (pc' := 3) dX12_hole_2 rfl (by decide) ?_
  obtain ⟨r1, ec1, hf⟩ := b1_e hf
  refine aw_callSi (M' := mX12_in) (nc' := 0) (ns' := 0) (pc' := 6) dX12_hole_3 rfl ml_RX12_230 kX12_in (t_X12_in ec1) rfl rfl (Nat.le_of_ble_eq_true rfl) (rokD (by omega) (Nat.le_of_ble_eq_true rfl) (Nat.le_of_ble_eq_true rfl) (Nat.le_of_ble_eq_true rfl)) rfl rfl (fun _ h1 q1 => ?_)
  obtain ⟨rfl, rfl, zb1⟩ := q1
  refine aw_if_eq (tgt := 29) (pc' := 9) dX12_hole_6 (by decide) rfl (fun c2 => ?_) (fun c2 => ?_)
  · replace hf := ifp c2 hf
    refine aw_iconst (v := (-1)) (pc' := 30) dX12_hole_29 rfl (by decide) ?_
    obtain ⟨rfl, rfl⟩ := so2 hf
    exact aw_ri dX12_hole_30 rfl rfl (Nat.le_of_ble_eq_true rfl) (Nat.le_of_ble_eq_true rfl) ⟨rfl, H0, (Mo.rf _)⟩
  · replace hf := ifn c2 hf
    refine aw_iload_n (pc' := 10) dX12_hole_9 rfl rfl ?_
    refine aw_zlt (tgt := 29) (pc' := 13) dX12_hole_10 (by decide) rfl (fun c3 => ?_) (fun c3 => ?_)
    · replace hf := ifp c3 hf
      refine aw_iconst (v := (-1)) (pc' := 30) dX12_hole_29 rfl (by decide) ?_
      obtain ⟨rfl, rfl⟩ := so2 hf
      exact aw_ri dX12_hole_30 rfl rfl (Nat.le_of_ble_eq_true rfl) (Nat.le_of_ble_eq_true rfl) ⟨rfl, H0, (Mo.rf _)⟩
    · replace hf := ifn c3 hf
      refine aw_iload_n (pc' := 14) dX12_hole_13 rfl rfl ?_
      refine aw_bipush (v := 100) (pc' := 16) dX12_hole_14 rfl (by decide) ?_
      refine aw_idiv (pc' := 17) dX12_hole_16 rfl (by decide) ?_
      refine aw_bipush (v := 32) (pc' := 19) dX12_hole_17 rfl (by decide) ?_
      refine aw_cge (tgt := 29) (pc' := 22) dX12_hole_19 (by decide) rfl (fun c4 => ?_) (fun c4 => ?_)
      · replace hf := ifn c4 hf
        refine aw_iconst (v := (-1)) (pc' := 30) dX12_hole_29 rfl (by decide) ?_
        obtain ⟨rfl, rfl⟩ := so2 hf
        exact aw_ri dX12_hole_30 rfl rfl (Nat.le_of_ble_eq_true rfl) (Nat.le_of_ble_eq_true rfl) ⟨rfl, H0, (Mo.rf _)⟩
      · replace hf := ifp c4 hf
        refine aw_iload_n (pc' := 23) dX12_hole_22 rfl rfl ?_
        refine aw_bipush (v := 100) (pc' := 25) dX12_hole_23 rfl (by decide) ?_
        refine aw_irem (pc' := 26) dX12_hole_25 rfl (by decide) ?_
        refine aw_if_ne (tgt := 31) (pc' := 29) dX12_hole_26 (by decide) rfl (fun c5 => ?_) (fun c5 => ?_)
        · replace hf := ifn c5 hf
          refine aw_aload_n (pc' := 32) dX12_hole_31 rfl rfl rfl ?_
          refine aw_gi (q := 59) (pc' := 35) H0 (H0.fo rfl rfl) (by decide) rfl dX12_hole_32 rfl fl_RX12_242 ?_
          refine aw_bipush (v := 120) (pc' := 37) dX12_hole_35 rfl (by decide) ?_
          refine aw_icmp_ne (tgt := 43) (pc' := 40) dX12_hole_37 (by decide) rfl (fun c6 => ?_) (fun c6 => ?_)
          · replace hf := ifn c6 hf
            refine aw_aload_n (pc' := 44) dX12_hole_43 rfl rfl rfl ?_
            refine aw_iload_n (pc' := 45) dX12_hole_44 rfl rfl ?_
            obtain ⟨r7, s7, ec7, hf⟩ := bd_e hf
            refine aw_callVi (M' := mX12_add) (nc' := 0) (ns' := 0) (pc' := 48) dX12_hole_45 rfl ml_RX12_252 kX12_add (t_X12_add H0 ec7) (H0.ob (H0.fo rfl rfl) (by decide)) rfl rfl rfl (Nat.le_of_ble_eq_true rfl) (rokD (by omega) (Nat.le_of_ble_eq_true rfl) (Nat.le_of_ble_eq_true rfl) (Nat.le_of_ble_eq_true rfl)) rfl rfl (fun _ h7 q7 => ?_)
            obtain ⟨rfl, H7, m7⟩ := q7
            refine aw_istore_n (lv' := [_, _, _, _]) (pc' := 49) dX12_hole_48 rfl (Nat.le_of_ble_eq_true rfl) rfl ?_
            refine aw_aload_n (pc' := 50) dX12_hole_49 rfl rfl rfl ?_
            refine aw_gr (q := 59) (e := 9) (v := .ref 71) (pc' := 53) H7 (H7.fo rfl rfl) (by decide) rfl rfl dX12_hole_50 rfl fl_RX12_20 ?_
            refine aw_iload_n (pc' := 54) dX12_hole_53 rfl rfl ?_
            refine aw_iload_n (pc' := 55) dX12_hole_54 rfl rfl ?_
            refine aw_bipush (v := 100) (pc' := 57) dX12_hole_55 rfl (by decide) ?_
            refine aw_idiv (pc' := 58) dX12_hole_57 rfl (by decide) ?_
            obtain ⟨v8, ev8, hf⟩ := vl_e hf
            refine aw_topi ev8 ?_
            obtain ⟨g9, hf⟩ := gd_e hf
            obtain ⟨s10, es10, hf⟩ := st_e hf
            refine aw_is (q := 63) (pc' := 59) es10 H7 (H7.fa rfl rfl rfl) g9 dX12_hole_58 rfl (fun h10 H10 => ?_)
            have m10 := Mo.ofI es10
            refine aw_aload_n (pc' := 60) dX12_hole_59 rfl rfl rfl ?_
            refine aw_gr (q := 59) (e := 13) (v := .ref 73) (pc' := 63) H10 (H10.fo rfl rfl) (by decide) rfl rfl dX12_hole_60 rfl fl_RX12_26 ?_
            refine aw_iload_n (pc' := 64) dX12_hole_63 rfl rfl ?_
            refine aw_iload_n (pc' := 65) dX12_hole_64 rfl rfl ?_
            refine aw_bipush (v := 100) (pc' := 67) dX12_hole_65 rfl (by decide) ?_
            refine aw_idiv (pc' := 68) dX12_hole_67 rfl (by decide) ?_
            obtain ⟨v11, ev11, hf⟩ := vl_e hf
            refine aw_topi ev11 ?_
            obtain ⟨g12, hf⟩ := gd_e hf
            obtain ⟨s13, es13, hf⟩ := st_e hf
            refine aw_is (q := 65) (pc' := 69) es13 H10 (H10.fa rfl rfl rfl) g12 dX12_hole_68 rfl (fun h13 H13 => ?_)
            have m13 := Mo.ofI es13
            refine aw_aload_n (pc' := 70) dX12_hole_69 rfl rfl rfl ?_
            refine aw_gr (q := 59) (e := 11) (v := .ref 72) (pc' := 73) H13 (H13.fo rfl rfl) (by decide) rfl rfl dX12_hole_70 rfl fl_RX12_23 ?_
            refine aw_iload_n (pc' := 74) dX12_hole_73 rfl rfl ?_
            refine aw_iload_n (pc' := 75) dX12_hole_74 rfl rfl ?_
            refine aw_bipush (v := 100) (pc' := 77) dX12_hole_75 rfl (by decide) ?_
            refine aw_irem (pc' := 78) dX12_hole_77 rfl (by decide) ?_
            obtain ⟨v14, ev14, hf⟩ := vl_e hf
            refine aw_topi ev14 ?_
            obtain ⟨g15, hf⟩ := gd_e hf
            obtain ⟨s16, es16, hf⟩ := st_e hf
            refine aw_is (q := 64) (pc' := 79) es16 H13 (H13.fa rfl rfl rfl) g15 dX12_hole_78 rfl (fun h16 H16 => ?_)
            have m16 := Mo.ofI es16
            refine aw_iload_n (pc' := 80) dX12_hole_79 rfl rfl ?_
            obtain ⟨rfl, rfl⟩ := so2 hf
            exact aw_ri dX12_hole_80 rfl rfl (Nat.le_of_ble_eq_true rfl) (Nat.le_of_ble_eq_true rfl) ⟨rfl, H16, (((m7.tr m10).tr m13).tr m16)⟩
          · replace hf := ifp c6 hf
            refine aw_bipush (v := (-3)) (pc' := 42) dX12_hole_40 rfl (by decide) ?_
            obtain ⟨rfl, rfl⟩ := so2 hf
            exact aw_ri dX12_hole_42 rfl rfl (Nat.le_of_ble_eq_true rfl) (Nat.le_of_ble_eq_true rfl) ⟨rfl, H0, (Mo.rf _)⟩
        · replace hf := ifp c5 hf
          refine aw_iconst (v := (-1)) (pc' := 30) dX12_hole_29 rfl (by decide) ?_
          obtain ⟨rfl, rfl⟩ := so2 hf
          exact aw_ri dX12_hole_30 rfl rfl (Nat.le_of_ble_eq_true rfl) (Nat.le_of_ble_eq_true rfl) ⟨rfl, H0, (Mo.rf _)⟩
/-! ThirtyThreeBelowModel.isSpan -/
def f_X12_isSpan (a0 : Int32) : Option Int32 := (if a0 < (0 : Int32) then some 0 else (if (a0 % (100 : Int32)) < (a0 / (100 : Int32)) then some 0 else (if (a0 % (100 : Int32)) < (32 : Int32) then some 1 else some 0)))
set_option maxRecDepth 4000 in
theorem t_X12_isSpan {r9 : Int32} {h0 : List aE} {a0 : Int32}  (hf : f_X12_isSpan a0 = some r9) : AM mX12_isSpan (0) [.int a0] h0 0 0 (PI fun r' h' => r9 = r' ∧ h0 = h' ∧ (r9 = 0 ∨ r9 = 1)) := by
  unfold f_X12_isSpan at hf
  refine am_of (lv := [some (.int a0)]) rfl (Nat.le_of_ble_eq_true rfl) rfl ?_
  refine aw_iload_n (pc' := 1) dX12_isSpan_0 rfl rfl ?_
  refine aw_zlt (tgt := 28) (pc' := 4) dX12_isSpan_1 (by decide) rfl (fun c1 => ?_) (fun c1 => ?_)
  · replace hf := ifp c1 hf
    refine aw_iconst (v := 0) (pc' := 29) dX12_isSpan_28 rfl (by decide) ?_
    obtain rfl := Option.some.inj hf
    exact aw_ri dX12_isSpan_29 rfl (by decide) (Nat.le_of_ble_eq_true rfl) (Nat.le_of_ble_eq_true rfl) ⟨rfl, rfl, Or.inl rfl⟩
  · replace hf := ifn c1 hf
    refine aw_iload_n (pc' := 5) dX12_isSpan_4 rfl rfl ?_
    refine aw_bipush (v := 100) (pc' := 7) dX12_isSpan_5 rfl (by decide) ?_
    refine aw_idiv (pc' := 8) dX12_isSpan_7 rfl (by decide) ?_
    refine aw_iload_n (pc' := 9) dX12_isSpan_8 rfl rfl ?_
    refine aw_bipush (v := 100) (pc' := 11) dX12_isSpan_9 rfl (by decide) ?_
    refine aw_irem (pc' := 12) dX12_isSpan_11 rfl (by decide) ?_
    refine aw_cgt (tgt := 28) (pc' := 15) dX12_isSpan_12 (by decide) rfl (fun c2 => ?_) (fun c2 => ?_)
    · replace hf := ifp c2 hf
      refine aw_iconst (v := 0) (pc' := 29) dX12_isSpan_28 rfl (by decide) ?_
      obtain rfl := Option.some.inj hf
      exact aw_ri dX12_isSpan_29 rfl (by decide) (Nat.le_of_ble_eq_true rfl) (Nat.le_of_ble_eq_true rfl) ⟨rfl, rfl, Or.inl rfl⟩
    · replace hf := ifn c2 hf
      refine aw_iload_n (pc' := 16) dX12_isSpan_15 rfl rfl ?_
      refine aw_bipush (v := 100) (pc' := 18) dX12_isSpan_16 rfl (by decide) ?_
      refine aw_irem (pc' := 19) dX12_isSpan_18 rfl (by decide) ?_
      refine aw_bipush (v := 32) (pc' := 21) dX12_isSpan_19 rfl (by decide) ?_
      refine aw_cge (tgt := 28) (pc' := 24) dX12_isSpan_21 (by decide) rfl (fun c3 => ?_) (fun c3 => ?_)
      · replace hf := ifn c3 hf
        refine aw_iconst (v := 0) (pc' := 29) dX12_isSpan_28 rfl (by decide) ?_
        obtain rfl := Option.some.inj hf
        exact aw_ri dX12_isSpan_29 rfl (by decide) (Nat.le_of_ble_eq_true rfl) (Nat.le_of_ble_eq_true rfl) ⟨rfl, rfl, Or.inl rfl⟩
      · replace hf := ifp c3 hf
        refine aw_iconst (v := 1) (pc' := 25) dX12_isSpan_24 rfl (by decide) ?_
        refine aw_goto (tgt := 29) dX12_isSpan_25 (by decide) ?_
        obtain rfl := Option.some.inj hf
        exact aw_ri dX12_isSpan_29 rfl (by decide) (Nat.le_of_ble_eq_true rfl) (Nat.le_of_ble_eq_true rfl) ⟨rfl, rfl, Or.inr rfl⟩
/-! ThirtyThreeBelowModel.shelter -/
def f_X12_shelter (s0 : SS) (a0 : Int32) (a1 : Int32) : Option (Int32 × SS) := (b1 (f_X12_isSpan a0) fun r1 => (if r1 = (0 : Int32) then some ((-1), s0) else (b1 (f_X12_in a1 (1 : Int32) (60 : Int32)) fun r3 => (if r3 = (0 : Int32) then some ((-1), s0) else (if (zS s0 59 21) < (0 : Int32) then (if (zS s0 59 4) = (120 : Int32) then some ((-3), s0) else (bd (f_X12_add s0 6) fun r7 s7 => (st (pS s7 59 21 r7) fun s8 => (vl ((a0 / (100 : Int32))) fun v9 => (st (pS s8 59 22 v9) fun s10 => (vl ((a0 % (100 : Int32))) fun v11 => (st (pS s10 59 23 v11) fun s12 => (st (pS s12 59 24 a1) fun s13 => some ((zS s13 59 21), s13))))))))) else some ((-2), s0))))))
set_option maxRecDepth 4000 in
theorem t_X12_shelter {r9 : Int32} {s0 s9 : SS} {h0 : List aE} {a0 : Int32} {a1 : Int32} (H0 : HH s0 h0) (hf : f_X12_shelter s0 a0 a1 = some (r9, s9)) : AM mX12_shelter (1) [.ref 67, .int a0, .int a1] h0 0 0 (PI fun r' h' => r9 = r' ∧ HH s9 h' ∧ Mo s0 s9) := by
  unfold f_X12_shelter at hf
  refine am_of (lv := [some (.ref 67), some (.int a0), some (.int a1)]) rfl (Nat.le_of_ble_eq_true rfl) rfl ?_
  refine aw_iload_n (pc' := 1) dX12_shelter_0 rfl rfl ?_
  obtain ⟨r1, ec1, hf⟩ := b1_e hf
  refine aw_callSi (M' := mX12_isSpan) (nc' := 0) (ns' := 0) (pc' := 4) dX12_shelter_1 rfl ml_RX12_255 kX12_isSpan (t_X12_isSpan ec1) rfl rfl (Nat.le_of_ble_eq_true rfl) (rokD (by omega) (Nat.le_of_ble_eq_true rfl) (Nat.le_of_ble_eq_true rfl) (Nat.le_of_ble_eq_true rfl)) rfl rfl (fun _ h1 q1 => ?_)
  obtain ⟨rfl, rfl, zb1⟩ := q1
  refine aw_if_eq (tgt := 17) (pc' := 7) dX12_shelter_4 (by decide) rfl (fun c2 => ?_) (fun c2 => ?_)
  · replace hf := ifp c2 hf
    refine aw_iconst (v := (-1)) (pc' := 18) dX12_shelter_17 rfl (by decide) ?_
    obtain ⟨rfl, rfl⟩ := so2 hf
    exact aw_ri dX12_shelter_18 rfl rfl (Nat.le_of_ble_eq_true rfl) (Nat.le_of_ble_eq_true rfl) ⟨rfl, H0, (Mo.rf _)⟩
  · replace hf := ifn c2 hf
    refine aw_iload_n (pc' := 8) dX12_shelter_7 rfl rfl ?_
    refine aw_iconst (v := 1) (pc' := 9) dX12_shelter_8 rfl (by decide) ?_
    refine aw_bipush (v := 60) (pc' := 11) dX12_shelter_9 rfl (by decide) ?_
    obtain ⟨r3, ec3, hf⟩ := b1_e hf
    refine aw_callSi (M' := mX12_in) (nc' := 0) (ns' := 0) (pc' := 14) dX12_shelter_11 rfl ml_RX12_230 kX12_in (t_X12_in ec3) rfl rfl (Nat.le_of_ble_eq_true rfl) (rokD (by omega) (Nat.le_of_ble_eq_true rfl) (Nat.le_of_ble_eq_true rfl) (Nat.le_of_ble_eq_true rfl)) rfl rfl (fun _ h3 q3 => ?_)
    obtain ⟨rfl, rfl, zb3⟩ := q3
    refine aw_if_ne (tgt := 19) (pc' := 17) dX12_shelter_14 (by decide) rfl (fun c4 => ?_) (fun c4 => ?_)
    · replace hf := ifn c4 hf
      refine aw_aload_n (pc' := 20) dX12_shelter_19 rfl rfl rfl ?_
      refine aw_gi (q := 59) (pc' := 23) H0 (H0.fo rfl rfl) (by decide) rfl dX12_shelter_20 rfl fl_RX12_65 ?_
      refine aw_zlt (tgt := 29) (pc' := 26) dX12_shelter_23 (by decide) rfl (fun c5 => ?_) (fun c5 => ?_)
      · replace hf := ifp c5 hf
        refine aw_aload_n (pc' := 30) dX12_shelter_29 rfl rfl rfl ?_
        refine aw_gi (q := 59) (pc' := 33) H0 (H0.fo rfl rfl) (by decide) rfl dX12_shelter_30 rfl fl_RX12_242 ?_
        refine aw_bipush (v := 120) (pc' := 35) dX12_shelter_33 rfl (by decide) ?_
        refine aw_icmp_ne (tgt := 41) (pc' := 38) dX12_shelter_35 (by decide) rfl (fun c6 => ?_) (fun c6 => ?_)
        · replace hf := ifn c6 hf
          refine aw_aload_n (pc' := 42) dX12_shelter_41 rfl rfl rfl ?_
          refine aw_aload_n (pc' := 43) dX12_shelter_42 rfl rfl rfl ?_
          refine aw_bipush (v := 6) (pc' := 45) dX12_shelter_43 rfl (by decide) ?_
          obtain ⟨r7, s7, ec7, hf⟩ := bd_e hf
          refine aw_callVi (M' := mX12_add) (nc' := 0) (ns' := 0) (pc' := 48) dX12_shelter_45 rfl ml_RX12_252 kX12_add (t_X12_add H0 ec7) (H0.ob (H0.fo rfl rfl) (by decide)) rfl rfl rfl (Nat.le_of_ble_eq_true rfl) (rokD (by omega) (Nat.le_of_ble_eq_true rfl) (Nat.le_of_ble_eq_true rfl) (Nat.le_of_ble_eq_true rfl)) rfl rfl (fun _ h7 q7 => ?_)
          obtain ⟨rfl, H7, m7⟩ := q7
          obtain ⟨s8, es8, hf⟩ := st_e hf
          refine aw_pi (q := 59) (pc' := 51) es8 H7 (H7.fo rfl rfl) (by decide) rfl dX12_shelter_48 rfl fl_RX12_65 rfl (fun h8 H8 => ?_)
          have m8 := Mo.ofS es8
          refine aw_aload_n (pc' := 52) dX12_shelter_51 rfl rfl rfl ?_
          refine aw_iload_n (pc' := 53) dX12_shelter_52 rfl rfl ?_
          refine aw_bipush (v := 100) (pc' := 55) dX12_shelter_53 rfl (by decide) ?_
          refine aw_idiv (pc' := 56) dX12_shelter_55 rfl (by decide) ?_
          obtain ⟨v9, ev9, hf⟩ := vl_e hf
          refine aw_topi ev9 ?_
          obtain ⟨s10, es10, hf⟩ := st_e hf
          refine aw_pi (q := 59) (pc' := 59) es10 H8 (H8.fo rfl rfl) (by decide) rfl dX12_shelter_56 rfl fl_RX12_258 rfl (fun h10 H10 => ?_)
          have m10 := Mo.ofS es10
          refine aw_aload_n (pc' := 60) dX12_shelter_59 rfl rfl rfl ?_
          refine aw_iload_n (pc' := 61) dX12_shelter_60 rfl rfl ?_
          refine aw_bipush (v := 100) (pc' := 63) dX12_shelter_61 rfl (by decide) ?_
          refine aw_irem (pc' := 64) dX12_shelter_63 rfl (by decide) ?_
          obtain ⟨v11, ev11, hf⟩ := vl_e hf
          refine aw_topi ev11 ?_
          obtain ⟨s12, es12, hf⟩ := st_e hf
          refine aw_pi (q := 59) (pc' := 67) es12 H10 (H10.fo rfl rfl) (by decide) rfl dX12_shelter_64 rfl fl_RX12_261 rfl (fun h12 H12 => ?_)
          have m12 := Mo.ofS es12
          refine aw_aload_n (pc' := 68) dX12_shelter_67 rfl rfl rfl ?_
          refine aw_iload_n (pc' := 69) dX12_shelter_68 rfl rfl ?_
          obtain ⟨s13, es13, hf⟩ := st_e hf
          refine aw_pi (q := 59) (pc' := 72) es13 H12 (H12.fo rfl rfl) (by decide) rfl dX12_shelter_69 rfl fl_RX12_264 rfl (fun h13 H13 => ?_)
          have m13 := Mo.ofS es13
          refine aw_aload_n (pc' := 73) dX12_shelter_72 rfl rfl rfl ?_
          refine aw_gi (q := 59) (pc' := 76) H13 (H13.fo rfl rfl) (by decide) rfl dX12_shelter_73 rfl fl_RX12_65 ?_
          obtain ⟨rfl, rfl⟩ := so2 hf
          exact aw_ri dX12_shelter_76 rfl rfl (Nat.le_of_ble_eq_true rfl) (Nat.le_of_ble_eq_true rfl) ⟨rfl, H13, ((((m7.tr m8).tr m10).tr m12).tr m13)⟩
        · replace hf := ifp c6 hf
          refine aw_bipush (v := (-3)) (pc' := 40) dX12_shelter_38 rfl (by decide) ?_
          obtain ⟨rfl, rfl⟩ := so2 hf
          exact aw_ri dX12_shelter_40 rfl rfl (Nat.le_of_ble_eq_true rfl) (Nat.le_of_ble_eq_true rfl) ⟨rfl, H0, (Mo.rf _)⟩
      · replace hf := ifn c5 hf
        refine aw_bipush (v := (-2)) (pc' := 28) dX12_shelter_26 rfl (by decide) ?_
        obtain ⟨rfl, rfl⟩ := so2 hf
        exact aw_ri dX12_shelter_28 rfl rfl (Nat.le_of_ble_eq_true rfl) (Nat.le_of_ble_eq_true rfl) ⟨rfl, H0, (Mo.rf _)⟩
    · replace hf := ifp c4 hf
      refine aw_iconst (v := (-1)) (pc' := 18) dX12_shelter_17 rfl (by decide) ?_
      obtain ⟨rfl, rfl⟩ := so2 hf
      exact aw_ri dX12_shelter_18 rfl rfl (Nat.le_of_ble_eq_true rfl) (Nat.le_of_ble_eq_true rfl) ⟨rfl, H0, (Mo.rf _)⟩
/-! ThirtyThreeBelowModel.man -/
def f_X12_man (s0 : SS) (a0 : Int32) (a1 : Int32) : Option (Int32 × SS) := (b1 (f_X12_in a0 (0 : Int32) (999 : Int32)) fun r1 => (if r1 = (0 : Int32) then some ((-1), s0) else (b1 (f_X12_in a1 (0 : Int32) (99 : Int32)) fun r3 => (if r3 = (0 : Int32) then some ((-1), s0) else (if (zS s0 59 4) = (120 : Int32) then some ((-3), s0) else (bd (f_X12_add s0 7) fun r6 s6 => (gd (inB r6 120) (st (pI s6 74 (r6.toInt.toNat) a0) fun s8 => (vl ((a1 / (10 : Int32))) fun v9 => (gd (inB r6 120) (st (pI s8 75 (r6.toInt.toNat) v9) fun s11 => (vl ((a1 % (10 : Int32))) fun v12 => (gd (inB r6 120) (st (pI s11 76 (r6.toInt.toNat) v12) fun s14 => (gd (inB r6 120) (st (pI s14 77 (r6.toInt.toNat) ((1 : Int32) &&& 1)) fun s16 => some (r6, s16)))))))))))))))))
set_option maxRecDepth 4000 in
theorem t_X12_man {r9 : Int32} {s0 s9 : SS} {h0 : List aE} {a0 : Int32} {a1 : Int32} (H0 : HH s0 h0) (hf : f_X12_man s0 a0 a1 = some (r9, s9)) : AM mX12_man (1) [.ref 67, .int a0, .int a1] h0 0 0 (PI fun r' h' => r9 = r' ∧ HH s9 h' ∧ Mo s0 s9) := by
  unfold f_X12_man at hf
  refine am_of (lv := [some (.ref 67), some (.int a0), some (.int a1), none]) rfl (Nat.le_of_ble_eq_true rfl) rfl ?_
  refine aw_iload_n (pc' := 1) dX12_man_0 rfl rfl ?_
  refine aw_iconst (v := 0) (pc' := 2) dX12_man_1 rfl (by decide) ?_
  refine aw_sipush (v := 999) (pc' := 5) dX12_man_2 rfl (by decide) ?_
  obtain ⟨r1, ec1, hf⟩ := b1_e hf
  refine aw_callSi (M' := mX12_in) (nc' := 0) (ns' := 0) (pc' := 8) dX12_man_5 rfl ml_RX12_230 kX12_in (t_X12_in ec1) rfl rfl (Nat.le_of_ble_eq_true rfl) (rokD (by omega) (Nat.le_of_ble_eq_true rfl) (Nat.le_of_ble_eq_true rfl) (Nat.le_of_ble_eq_true rfl)) rfl rfl (fun _ h1 q1 => ?_)
  obtain ⟨rfl, rfl, zb1⟩ := q1
  refine aw_if_eq (tgt := 21) (pc' := 11) dX12_man_8 (by decide) rfl (fun c2 => ?_) (fun c2 => ?_)
  · replace hf := ifp c2 hf
    refine aw_iconst (v := (-1)) (pc' := 22) dX12_man_21 rfl (by decide) ?_
    obtain ⟨rfl, rfl⟩ := so2 hf
    exact aw_ri dX12_man_22 rfl rfl (Nat.le_of_ble_eq_true rfl) (Nat.le_of_ble_eq_true rfl) ⟨rfl, H0, (Mo.rf _)⟩
  · replace hf := ifn c2 hf
    refine aw_iload_n (pc' := 12) dX12_man_11 rfl rfl ?_
    refine aw_iconst (v := 0) (pc' := 13) dX12_man_12 rfl (by decide) ?_
    refine aw_bipush (v := 99) (pc' := 15) dX12_man_13 rfl (by decide) ?_
    obtain ⟨r3, ec3, hf⟩ := b1_e hf
    refine aw_callSi (M' := mX12_in) (nc' := 0) (ns' := 0) (pc' := 18) dX12_man_15 rfl ml_RX12_230 kX12_in (t_X12_in ec3) rfl rfl (Nat.le_of_ble_eq_true rfl) (rokD (by omega) (Nat.le_of_ble_eq_true rfl) (Nat.le_of_ble_eq_true rfl) (Nat.le_of_ble_eq_true rfl)) rfl rfl (fun _ h3 q3 => ?_)
    obtain ⟨rfl, rfl, zb3⟩ := q3
    refine aw_if_ne (tgt := 23) (pc' := 21) dX12_man_18 (by decide) rfl (fun c4 => ?_) (fun c4 => ?_)
    · replace hf := ifn c4 hf
      refine aw_aload_n (pc' := 24) dX12_man_23 rfl rfl rfl ?_
      refine aw_gi (q := 59) (pc' := 27) H0 (H0.fo rfl rfl) (by decide) rfl dX12_man_24 rfl fl_RX12_242 ?_
      refine aw_bipush (v := 120) (pc' := 29) dX12_man_27 rfl (by decide) ?_
      refine aw_icmp_ne (tgt := 35) (pc' := 32) dX12_man_29 (by decide) rfl (fun c5 => ?_) (fun c5 => ?_)
      · replace hf := ifn c5 hf
        refine aw_aload_n (pc' := 36) dX12_man_35 rfl rfl rfl ?_
        refine aw_bipush (v := 7) (pc' := 38) dX12_man_36 rfl (by decide) ?_
        obtain ⟨r6, s6, ec6, hf⟩ := bd_e hf
        refine aw_callVi (M' := mX12_add) (nc' := 0) (ns' := 0) (pc' := 41) dX12_man_38 rfl ml_RX12_252 kX12_add (t_X12_add H0 ec6) (H0.ob (H0.fo rfl rfl) (by decide)) rfl rfl rfl (Nat.le_of_ble_eq_true rfl) (rokD (by omega) (Nat.le_of_ble_eq_true rfl) (Nat.le_of_ble_eq_true rfl) (Nat.le_of_ble_eq_true rfl)) rfl rfl (fun _ h6 q6 => ?_)
        obtain ⟨rfl, H6, m6⟩ := q6
        refine aw_istore_n (lv' := [_, _, _, _]) (pc' := 42) dX12_man_41 rfl (Nat.le_of_ble_eq_true rfl) rfl ?_
        refine aw_aload_n (pc' := 43) dX12_man_42 rfl rfl rfl ?_
        refine aw_gr (q := 59) (e := 31) (v := .ref 82) (pc' := 46) H6 (H6.fo rfl rfl) (by decide) rfl rfl dX12_man_43 rfl fl_RX12_53 ?_
        refine aw_iload_n (pc' := 47) dX12_man_46 rfl rfl ?_
        refine aw_iload_n (pc' := 48) dX12_man_47 rfl rfl ?_
        obtain ⟨g7, hf⟩ := gd_e hf
        obtain ⟨s8, es8, hf⟩ := st_e hf
        refine aw_is (q := 74) (pc' := 49) es8 H6 (H6.fa rfl rfl rfl) g7 dX12_man_48 rfl (fun h8 H8 => ?_)
        have m8 := Mo.ofI es8
        refine aw_aload_n (pc' := 50) dX12_man_49 rfl rfl rfl ?_
        refine aw_gr (q := 59) (e := 33) (v := .ref 83) (pc' := 53) H8 (H8.fo rfl rfl) (by decide) rfl rfl dX12_man_50 rfl fl_RX12_56 ?_
        refine aw_iload_n (pc' := 54) dX12_man_53 rfl rfl ?_
        refine aw_iload_n (pc' := 55) dX12_man_54 rfl rfl ?_
        refine aw_bipush (v := 10) (pc' := 57) dX12_man_55 rfl (by decide) ?_
        refine aw_idiv (pc' := 58) dX12_man_57 rfl (by decide) ?_
        obtain ⟨v9, ev9, hf⟩ := vl_e hf
        refine aw_topi ev9 ?_
        obtain ⟨g10, hf⟩ := gd_e hf
        obtain ⟨s11, es11, hf⟩ := st_e hf
        refine aw_is (q := 75) (pc' := 59) es11 H8 (H8.fa rfl rfl rfl) g10 dX12_man_58 rfl (fun h11 H11 => ?_)
        have m11 := Mo.ofI es11
        refine aw_aload_n (pc' := 60) dX12_man_59 rfl rfl rfl ?_
        refine aw_gr (q := 59) (e := 35) (v := .ref 84) (pc' := 63) H11 (H11.fo rfl rfl) (by decide) rfl rfl dX12_man_60 rfl fl_RX12_59 ?_
        refine aw_iload_n (pc' := 64) dX12_man_63 rfl rfl ?_
        refine aw_iload_n (pc' := 65) dX12_man_64 rfl rfl ?_
        refine aw_bipush (v := 10) (pc' := 67) dX12_man_65 rfl (by decide) ?_
        refine aw_irem (pc' := 68) dX12_man_67 rfl (by decide) ?_
        obtain ⟨v12, ev12, hf⟩ := vl_e hf
        refine aw_topi ev12 ?_
        obtain ⟨g13, hf⟩ := gd_e hf
        obtain ⟨s14, es14, hf⟩ := st_e hf
        refine aw_is (q := 76) (pc' := 69) es14 H11 (H11.fa rfl rfl rfl) g13 dX12_man_68 rfl (fun h14 H14 => ?_)
        have m14 := Mo.ofI es14
        refine aw_aload_n (pc' := 70) dX12_man_69 rfl rfl rfl ?_
        refine aw_gr (q := 59) (e := 37) (v := .ref 85) (pc' := 73) H14 (H14.fo rfl rfl) (by decide) rfl rfl dX12_man_70 rfl fl_RX12_62 ?_
        refine aw_iload_n (pc' := 74) dX12_man_73 rfl rfl ?_
        refine aw_iconst (v := 1) (pc' := 75) dX12_man_74 rfl (by decide) ?_
        obtain ⟨g15, hf⟩ := gd_e hf
        obtain ⟨s16, es16, hf⟩ := st_e hf
        refine aw_zs (q := 77) (pc' := 76) es16 H14 (H14.fa rfl rfl rfl) g15 dX12_man_75 rfl (fun h16 H16 => ?_)
        have m16 := Mo.ofI es16
        refine aw_iload_n (pc' := 77) dX12_man_76 rfl rfl ?_
        obtain ⟨rfl, rfl⟩ := so2 hf
        exact aw_ri dX12_man_77 rfl rfl (Nat.le_of_ble_eq_true rfl) (Nat.le_of_ble_eq_true rfl) ⟨rfl, H16, ((((m6.tr m8).tr m11).tr m14).tr m16)⟩
      · replace hf := ifp c5 hf
        refine aw_bipush (v := (-3)) (pc' := 34) dX12_man_32 rfl (by decide) ?_
        obtain ⟨rfl, rfl⟩ := so2 hf
        exact aw_ri dX12_man_34 rfl rfl (Nat.le_of_ble_eq_true rfl) (Nat.le_of_ble_eq_true rfl) ⟨rfl, H0, (Mo.rf _)⟩
    · replace hf := ifp c4 hf
      refine aw_iconst (v := (-1)) (pc' := 22) dX12_man_21 rfl (by decide) ?_
      obtain ⟨rfl, rfl⟩ := so2 hf
      exact aw_ri dX12_man_22 rfl rfl (Nat.le_of_ble_eq_true rfl) (Nat.le_of_ble_eq_true rfl) ⟨rfl, H0, (Mo.rf _)⟩
/-! ThirtyThreeBelowModel.ofBody -/
def f_X12_ofBody (s0 : SS) (a0 : Int32) (a1 : Int32) : Option Int32 := (b1 (f_X12_isBody s0 a0) fun r1 => (if r1 = (0 : Int32) then some (-2000000000) else (if a1 = (0 : Int32) then (gd (inB a0 120) some (zI s0 62 (a0.toInt.toNat))) else (b1 (f_X12_isHole s0 a0) fun r4 => (if r4 = (0 : Int32) then (gd (inB a0 120) (if (zI s0 62 (a0.toInt.toNat)) = (6 : Int32) then (if a1 = (1 : Int32) then some (zS s0 59 22) else (if a1 = (2 : Int32) then some (zS s0 59 23) else (if a1 = (3 : Int32) then some (zS s0 59 24) else (if a1 = (4 : Int32) then (if (zS s0 59 25) = (0 : Int32) then some 0 else some 1) else some (-2000000000))))) else (gd (inB a0 120) (if (zI s0 62 (a0.toInt.toNat)) = (7 : Int32) then (if a1 = (1 : Int32) then (gd (inB a0 120) some (zI s0 74 (a0.toInt.toNat))) else (if a1 = (2 : Int32) then (gd (inB a0 120) some (zI s0 75 (a0.toInt.toNat))) else (if a1 = (3 : Int32) then (gd (inB a0 120) some (zI s0 76 (a0.toInt.toNat))) else (if a1 = (4 : Int32) then (gd (inB a0 120) (if (zI s0 77 (a0.toInt.toNat)) = (0 : Int32) then some 0 else some 1)) else some (-2000000000))))) else some (-2000000000))))) else (if a1 = 1 then (gd (inB a0 120) some (zI s0 63 (a0.toInt.toNat))) else (if a1 = 2 then (gd (inB a0 120) some (zI s0 64 (a0.toInt.toNat))) else (if a1 = 3 then (gd (inB a0 120) some (zI s0 67 (a0.toInt.toNat))) else (if a1 = 4 then (gd (inB a0 120) some (zI s0 65 (a0.toInt.toNat))) else (if a1 = 5 then (gd (inB a0 120) (if (0 : Int32) < (zI s0 69 (a0.toInt.toNat)) then some 1 else some 0)) else (if a1 = 6 then (gd (inB a0 120) some (zI s0 68 (a0.toInt.toNat))) else (if a1 = 7 then (gd (inB a0 120) some (zI s0 66 (a0.toInt.toNat))) else some (-2000000000)))))))))))))
set_option maxRecDepth 4000 in
theorem t_X12_ofBody {r9 : Int32} {s0 : SS} {h0 : List aE} {a0 : Int32} {a1 : Int32} (H0 : HH s0 h0) (hf : f_X12_ofBody s0 a0 a1 = some r9) : AM mX12_ofBody (3) [.ref 67, .int a0, .int a1] h0 0 0 (PI fun r' h' => r9 = r' ∧ h0 = h') := by
  unfold f_X12_ofBody at hf
  refine am_of (lv := [some (.ref 67), some (.int a0), some (.int a1)]) rfl (Nat.le_of_ble_eq_true rfl) rfl ?_
  refine aw_aload_n (pc' := 1) dX12_ofBody_0 rfl rfl rfl ?_
  refine aw_iload_n (pc' := 2) dX12_ofBody_1 rfl rfl ?_
  obtain ⟨r1, ec1, hf⟩ := b1_e hf
  refine aw_callVi (M' := mX12_isBody) (nc' := 0) (ns' := 0) (pc' := 5) dX12_ofBody_2 rfl ml_RX12_245 kX12_isBody (t_X12_isBody H0 ec1) (H0.ob (H0.fo rfl rfl) (by decide)) rfl rfl rfl (Nat.le_of_ble_eq_true rfl) (rokD (by omega) (Nat.le_of_ble_eq_true rfl) (Nat.le_of_ble_eq_true rfl) (Nat.le_of_ble_eq_true rfl)) rfl rfl (fun _ h1 q1 => ?_)
  obtain ⟨rfl, rfl, zb1⟩ := q1
  refine aw_if_ne (tgt := 12) (pc' := 8) dX12_ofBody_5 (by decide) rfl (fun c2 => ?_) (fun c2 => ?_)
  · replace hf := ifn c2 hf
    refine aw_iload_n (pc' := 13) dX12_ofBody_12 rfl rfl ?_
    refine aw_if_ne (tgt := 23) (pc' := 16) dX12_ofBody_13 (by decide) rfl (fun c3 => ?_) (fun c3 => ?_)
    · replace hf := ifn c3 hf
      refine aw_aload_n (pc' := 24) dX12_ofBody_23 rfl rfl rfl ?_
      refine aw_iload_n (pc' := 25) dX12_ofBody_24 rfl rfl ?_
      obtain ⟨r4, ec4, hf⟩ := b1_e hf
      refine aw_callVi (M' := mX12_isHole) (nc' := 0) (ns' := 0) (pc' := 28) dX12_ofBody_25 rfl ml_RX12_268 kX12_isHole (t_X12_isHole H0 ec4) (H0.ob (H0.fo rfl rfl) (by decide)) rfl rfl rfl (Nat.le_of_ble_eq_true rfl) (rokD (by omega) (Nat.le_of_ble_eq_true rfl) (Nat.le_of_ble_eq_true rfl) (Nat.le_of_ble_eq_true rfl)) rfl rfl (fun _ h4 q4 => ?_)
      obtain ⟨rfl, rfl, zb4⟩ := q4
      refine aw_if_eq (tgt := 137) (pc' := 31) dX12_ofBody_28 (by decide) rfl (fun c5 => ?_) (fun c5 => ?_)
      · replace hf := ifp c5 hf
        refine aw_aload_n (pc' := 138) dX12_ofBody_137 rfl rfl rfl ?_
        refine aw_gr (q := 59) (e := 7) (v := .ref 70) (pc' := 141) H0 (H0.fo rfl rfl) (by decide) rfl rfl dX12_ofBody_138 rfl fl_RX12_17 ?_
        refine aw_iload_n (pc' := 142) dX12_ofBody_141 rfl rfl ?_
        obtain ⟨g6, hf⟩ := gd_e hf
        refine aw_ia (q := 62) (pc' := 143) H0 (H0.fa rfl rfl rfl) g6 dX12_ofBody_142 rfl ?_
        refine aw_bipush (v := 6) (pc' := 145) dX12_ofBody_143 rfl (by decide) ?_
        refine aw_icmp_ne (tgt := 208) (pc' := 148) dX12_ofBody_145 (by decide) rfl (fun c7 => ?_) (fun c7 => ?_)
        · replace hf := ifn c7 hf
          refine aw_aload_n (pc' := 209) dX12_ofBody_208 rfl rfl rfl ?_
          refine aw_gr (q := 59) (e := 7) (v := .ref 70) (pc' := 212) H0 (H0.fo rfl rfl) (by decide) rfl rfl dX12_ofBody_209 rfl fl_RX12_17 ?_
          refine aw_iload_n (pc' := 213) dX12_ofBody_212 rfl rfl ?_
          obtain ⟨g8, hf⟩ := gd_e hf
          refine aw_ia (q := 62) (pc' := 214) H0 (H0.fa rfl rfl rfl) g8 dX12_ofBody_213 rfl ?_
          refine aw_bipush (v := 7) (pc' := 216) dX12_ofBody_214 rfl (by decide) ?_
          refine aw_icmp_eq (tgt := 223) (pc' := 219) dX12_ofBody_216 (by decide) rfl (fun c9 => ?_) (fun c9 => ?_)
          · replace hf := ifp c9 hf
            refine aw_iload_n (pc' := 224) dX12_ofBody_223 rfl rfl ?_
            refine aw_iconst (v := 1) (pc' := 225) dX12_ofBody_224 rfl (by decide) ?_
            refine aw_icmp_ne (tgt := 237) (pc' := 228) dX12_ofBody_225 (by decide) rfl (fun c10 => ?_) (fun c10 => ?_)
            · replace hf := ifn c10 hf
              refine aw_iload_n (pc' := 238) dX12_ofBody_237 rfl rfl ?_
              refine aw_iconst (v := 2) (pc' := 239) dX12_ofBody_238 rfl (by decide) ?_
              refine aw_icmp_ne (tgt := 251) (pc' := 242) dX12_ofBody_239 (by decide) rfl (fun c11 => ?_) (fun c11 => ?_)
              · replace hf := ifn c11 hf
                refine aw_iload_n (pc' := 252) dX12_ofBody_251 rfl rfl ?_
                refine aw_iconst (v := 3) (pc' := 253) dX12_ofBody_252 rfl (by decide) ?_
                refine aw_icmp_ne (tgt := 265) (pc' := 256) dX12_ofBody_253 (by decide) rfl (fun c12 => ?_) (fun c12 => ?_)
                · replace hf := ifn c12 hf
                  refine aw_iload_n (pc' := 266) dX12_ofBody_265 rfl rfl ?_
                  refine aw_iconst (v := 4) (pc' := 267) dX12_ofBody_266 rfl (by decide) ?_
                  refine aw_icmp_ne (tgt := 287) (pc' := 270) dX12_ofBody_267 (by decide) rfl (fun c13 => ?_) (fun c13 => ?_)
                  · replace hf := ifn c13 hf
                    refine aw_ldcw (pc' := 290) dX12_ofBody_287 rfl ct_RX12_267 ?_
                    obtain rfl := Option.some.inj hf
                    exact aw_ri dX12_ofBody_290 rfl rfl (Nat.le_of_ble_eq_true rfl) (Nat.le_of_ble_eq_true rfl) ⟨rfl, rfl⟩
                  · replace hf := ifp c13 hf
                    refine aw_aload_n (pc' := 271) dX12_ofBody_270 rfl rfl rfl ?_
                    refine aw_gr (q := 59) (e := 37) (v := .ref 85) (pc' := 274) H0 (H0.fo rfl rfl) (by decide) rfl rfl dX12_ofBody_271 rfl fl_RX12_62 ?_
                    refine aw_iload_n (pc' := 275) dX12_ofBody_274 rfl rfl ?_
                    obtain ⟨g14, hf⟩ := gd_e hf
                    refine aw_za (q := 77) (pc' := 276) H0 (H0.fa rfl rfl rfl) g14 dX12_ofBody_275 rfl ?_
                    refine aw_if_eq (tgt := 283) (pc' := 279) dX12_ofBody_276 (by decide) rfl (fun c15 => ?_) (fun c15 => ?_)
                    · replace hf := ifp c15 hf
                      refine aw_iconst (v := 0) (pc' := 284) dX12_ofBody_283 rfl (by decide) ?_
                      refine aw_goto (tgt := 290) dX12_ofBody_284 (by decide) ?_
                      obtain rfl := Option.some.inj hf
                      exact aw_ri dX12_ofBody_290 rfl rfl (Nat.le_of_ble_eq_true rfl) (Nat.le_of_ble_eq_true rfl) ⟨rfl, rfl⟩
                    · replace hf := ifn c15 hf
                      refine aw_iconst (v := 1) (pc' := 280) dX12_ofBody_279 rfl (by decide) ?_
                      refine aw_goto (tgt := 290) dX12_ofBody_280 (by decide) ?_
                      obtain rfl := Option.some.inj hf
                      exact aw_ri dX12_ofBody_290 rfl rfl (Nat.le_of_ble_eq_true rfl) (Nat.le_of_ble_eq_true rfl) ⟨rfl, rfl⟩
                · replace hf := ifp c12 hf
                  refine aw_aload_n (pc' := 257) dX12_ofBody_256 rfl rfl rfl ?_
                  refine aw_gr (q := 59) (e := 35) (v := .ref 84) (pc' := 260) H0 (H0.fo rfl rfl) (by decide) rfl rfl dX12_ofBody_257 rfl fl_RX12_59 ?_
                  refine aw_iload_n (pc' := 261) dX12_ofBody_260 rfl rfl ?_
                  obtain ⟨g16, hf⟩ := gd_e hf
                  refine aw_ia (q := 76) (pc' := 262) H0 (H0.fa rfl rfl rfl) g16 dX12_ofBody_261 rfl ?_
                  refine aw_goto (tgt := 290) dX12_ofBody_262 (by decide) ?_
                  obtain rfl := Option.some.inj hf
                  exact aw_ri dX12_ofBody_290 rfl rfl (Nat.le_of_ble_eq_true rfl) (Nat.le_of_ble_eq_true rfl) ⟨rfl, rfl⟩
              · replace hf := ifp c11 hf
                refine aw_aload_n (pc' := 243) dX12_ofBody_242 rfl rfl rfl ?_
                refine aw_gr (q := 59) (e := 33) (v := .ref 83) (pc' := 246) H0 (H0.fo rfl rfl) (by decide) rfl rfl dX12_ofBody_243 rfl fl_RX12_56 ?_
                refine aw_iload_n (pc' := 247) dX12_ofBody_246 rfl rfl ?_
                obtain ⟨g17, hf⟩ := gd_e hf
                refine aw_ia (q := 75) (pc' := 248) H0 (H0.fa rfl rfl rfl) g17 dX12_ofBody_247 rfl ?_
                refine aw_goto (tgt := 290) dX12_ofBody_248 (by decide) ?_
                obtain rfl := Option.some.inj hf
                exact aw_ri dX12_ofBody_290 rfl rfl (Nat.le_of_ble_eq_true rfl) (Nat.le_of_ble_eq_true rfl) ⟨rfl, rfl⟩
            · replace hf := ifp c10 hf
              refine aw_aload_n (pc' := 229) dX12_ofBody_228 rfl rfl rfl ?_
              refine aw_gr (q := 59) (e := 31) (v := .ref 82) (pc' := 232) H0 (H0.fo rfl rfl) (by decide) rfl rfl dX12_ofBody_229 rfl fl_RX12_53 ?_
              refine aw_iload_n (pc' := 233) dX12_ofBody_232 rfl rfl ?_
              obtain ⟨g18, hf⟩ := gd_e hf
              refine aw_ia (q := 74) (pc' := 234) H0 (H0.fa rfl rfl rfl) g18 dX12_ofBody_233 rfl ?_
              refine aw_goto (tgt := 290) dX12_ofBody_234 (by decide) ?_
              obtain rfl := Option.some.inj hf
              exact aw_ri dX12_ofBody_290 rfl rfl (Nat.le_of_ble_eq_true rfl) (Nat.le_of_ble_eq_true rfl) ⟨rfl, rfl⟩
          · replace hf := ifn c9 hf
            refine aw_ldcw (pc' := 222) dX12_ofBody_219 rfl ct_RX12_267 ?_
            obtain rfl := Option.some.inj hf
            exact aw_ri dX12_ofBody_222 rfl rfl (Nat.le_of_ble_eq_true rfl) (Nat.le_of_ble_eq_true rfl) ⟨rfl, rfl⟩
        · replace hf := ifp c7 hf
          refine aw_iload_n (pc' := 149) dX12_ofBody_148 rfl rfl ?_
          refine aw_iconst (v := 1) (pc' := 150) dX12_ofBody_149 rfl (by decide) ?_
          refine aw_icmp_ne (tgt := 160) (pc' := 153) dX12_ofBody_150 (by decide) rfl (fun c19 => ?_) (fun c19 => ?_)
          · replace hf := ifn c19 hf
            refine aw_iload_n (pc' := 161) dX12_ofBody_160 rfl rfl ?_
            refine aw_iconst (v := 2) (pc' := 162) dX12_ofBody_161 rfl (by decide) ?_
            refine aw_icmp_ne (tgt := 172) (pc' := 165) dX12_ofBody_162 (by decide) rfl (fun c20 => ?_) (fun c20 => ?_)
            · replace hf := ifn c20 hf
              refine aw_iload_n (pc' := 173) dX12_ofBody_172 rfl rfl ?_
              refine aw_iconst (v := 3) (pc' := 174) dX12_ofBody_173 rfl (by decide) ?_
              refine aw_icmp_ne (tgt := 184) (pc' := 177) dX12_ofBody_174 (by decide) rfl (fun c21 => ?_) (fun c21 => ?_)
              · replace hf := ifn c21 hf
                refine aw_iload_n (pc' := 185) dX12_ofBody_184 rfl rfl ?_
                refine aw_iconst (v := 4) (pc' := 186) dX12_ofBody_185 rfl (by decide) ?_
                refine aw_icmp_ne (tgt := 204) (pc' := 189) dX12_ofBody_186 (by decide) rfl (fun c22 => ?_) (fun c22 => ?_)
                · replace hf := ifn c22 hf
                  refine aw_ldcw (pc' := 207) dX12_ofBody_204 rfl ct_RX12_267 ?_
                  obtain rfl := Option.some.inj hf
                  exact aw_ri dX12_ofBody_207 rfl rfl (Nat.le_of_ble_eq_true rfl) (Nat.le_of_ble_eq_true rfl) ⟨rfl, rfl⟩
                · replace hf := ifp c22 hf
                  refine aw_aload_n (pc' := 190) dX12_ofBody_189 rfl rfl rfl ?_
                  refine aw_gi (q := 59) (pc' := 193) H0 (H0.fo rfl rfl) (by decide) rfl dX12_ofBody_190 rfl fl_RX12_271 ?_
                  refine aw_if_eq (tgt := 200) (pc' := 196) dX12_ofBody_193 (by decide) rfl (fun c23 => ?_) (fun c23 => ?_)
                  · replace hf := ifp c23 hf
                    refine aw_iconst (v := 0) (pc' := 201) dX12_ofBody_200 rfl (by decide) ?_
                    refine aw_goto (tgt := 207) dX12_ofBody_201 (by decide) ?_
                    obtain rfl := Option.some.inj hf
                    exact aw_ri dX12_ofBody_207 rfl rfl (Nat.le_of_ble_eq_true rfl) (Nat.le_of_ble_eq_true rfl) ⟨rfl, rfl⟩
                  · replace hf := ifn c23 hf
                    refine aw_iconst (v := 1) (pc' := 197) dX12_ofBody_196 rfl (by decide) ?_
                    refine aw_goto (tgt := 207) dX12_ofBody_197 (by decide) ?_
                    obtain rfl := Option.some.inj hf
                    exact aw_ri dX12_ofBody_207 rfl rfl (Nat.le_of_ble_eq_true rfl) (Nat.le_of_ble_eq_true rfl) ⟨rfl, rfl⟩
              · replace hf := ifp c21 hf
                refine aw_aload_n (pc' := 178) dX12_ofBody_177 rfl rfl rfl ?_
                refine aw_gi (q := 59) (pc' := 181) H0 (H0.fo rfl rfl) (by decide) rfl dX12_ofBody_178 rfl fl_RX12_264 ?_
                refine aw_goto (tgt := 207) dX12_ofBody_181 (by decide) ?_
                obtain rfl := Option.some.inj hf
                exact aw_ri dX12_ofBody_207 rfl rfl (Nat.le_of_ble_eq_true rfl) (Nat.le_of_ble_eq_true rfl) ⟨rfl, rfl⟩
            · replace hf := ifp c20 hf
              refine aw_aload_n (pc' := 166) dX12_ofBody_165 rfl rfl rfl ?_
              refine aw_gi (q := 59) (pc' := 169) H0 (H0.fo rfl rfl) (by decide) rfl dX12_ofBody_166 rfl fl_RX12_261 ?_
              refine aw_goto (tgt := 207) dX12_ofBody_169 (by decide) ?_
              obtain rfl := Option.some.inj hf
              exact aw_ri dX12_ofBody_207 rfl rfl (Nat.le_of_ble_eq_true rfl) (Nat.le_of_ble_eq_true rfl) ⟨rfl, rfl⟩
          · replace hf := ifp c19 hf
            refine aw_aload_n (pc' := 154) dX12_ofBody_153 rfl rfl rfl ?_
            refine aw_gi (q := 59) (pc' := 157) H0 (H0.fo rfl rfl) (by decide) rfl dX12_ofBody_154 rfl fl_RX12_258 ?_
            refine aw_goto (tgt := 207) dX12_ofBody_157 (by decide) ?_
            obtain rfl := Option.some.inj hf
            exact aw_ri dX12_ofBody_207 rfl rfl (Nat.le_of_ble_eq_true rfl) (Nat.le_of_ble_eq_true rfl) ⟨rfl, rfl⟩
      · replace hf := ifn c5 hf
        refine aw_iload_n (pc' := 32) dX12_ofBody_31 rfl rfl ?_
        rcases Decidable.em (a1 = 1) with c24 | c24
        · replace hf := ifp c24 hf
          refine aw_tabIn (tgt := 76) (off := 44) dX12_ofBody_32 (by rw [c24]; decide) (by rw [c24]; decide) (by rw [c24]; decide) (by decide) ?_
          refine aw_aload_n (pc' := 77) dX12_ofBody_76 rfl rfl rfl ?_
          refine aw_gr (q := 59) (e := 9) (v := .ref 71) (pc' := 80) H0 (H0.fo rfl rfl) (by decide) rfl rfl dX12_ofBody_77 rfl fl_RX12_20 ?_
          refine aw_iload_n (pc' := 81) dX12_ofBody_80 rfl rfl ?_
          obtain ⟨g25, hf⟩ := gd_e hf
          refine aw_ia (q := 63) (pc' := 82) H0 (H0.fa rfl rfl rfl) g25 dX12_ofBody_81 rfl ?_
          obtain rfl := Option.some.inj hf
          exact aw_ri dX12_ofBody_82 rfl rfl (Nat.le_of_ble_eq_true rfl) (Nat.le_of_ble_eq_true rfl) ⟨rfl, rfl⟩
        replace hf := ifn c24 hf
        rcases Decidable.em (a1 = 2) with c26 | c26
        · replace hf := ifp c26 hf
          refine aw_tabIn (tgt := 83) (off := 51) dX12_ofBody_32 (by rw [c26]; decide) (by rw [c26]; decide) (by rw [c26]; decide) (by decide) ?_
          refine aw_aload_n (pc' := 84) dX12_ofBody_83 rfl rfl rfl ?_
          refine aw_gr (q := 59) (e := 11) (v := .ref 72) (pc' := 87) H0 (H0.fo rfl rfl) (by decide) rfl rfl dX12_ofBody_84 rfl fl_RX12_23 ?_
          refine aw_iload_n (pc' := 88) dX12_ofBody_87 rfl rfl ?_
          obtain ⟨g27, hf⟩ := gd_e hf
          refine aw_ia (q := 64) (pc' := 89) H0 (H0.fa rfl rfl rfl) g27 dX12_ofBody_88 rfl ?_
          obtain rfl := Option.some.inj hf
          exact aw_ri dX12_ofBody_89 rfl rfl (Nat.le_of_ble_eq_true rfl) (Nat.le_of_ble_eq_true rfl) ⟨rfl, rfl⟩
        replace hf := ifn c26 hf
        rcases Decidable.em (a1 = 3) with c28 | c28
        · replace hf := ifp c28 hf
          refine aw_tabIn (tgt := 90) (off := 58) dX12_ofBody_32 (by rw [c28]; decide) (by rw [c28]; decide) (by rw [c28]; decide) (by decide) ?_
          refine aw_aload_n (pc' := 91) dX12_ofBody_90 rfl rfl rfl ?_
          refine aw_gr (q := 59) (e := 17) (v := .ref 75) (pc' := 94) H0 (H0.fo rfl rfl) (by decide) rfl rfl dX12_ofBody_91 rfl fl_RX12_32 ?_
          refine aw_iload_n (pc' := 95) dX12_ofBody_94 rfl rfl ?_
          obtain ⟨g29, hf⟩ := gd_e hf
          refine aw_ia (q := 67) (pc' := 96) H0 (H0.fa rfl rfl rfl) g29 dX12_ofBody_95 rfl ?_
          obtain rfl := Option.some.inj hf
          exact aw_ri dX12_ofBody_96 rfl rfl (Nat.le_of_ble_eq_true rfl) (Nat.le_of_ble_eq_true rfl) ⟨rfl, rfl⟩
        replace hf := ifn c28 hf
        rcases Decidable.em (a1 = 4) with c30 | c30
        · replace hf := ifp c30 hf
          refine aw_tabIn (tgt := 97) (off := 65) dX12_ofBody_32 (by rw [c30]; decide) (by rw [c30]; decide) (by rw [c30]; decide) (by decide) ?_
          refine aw_aload_n (pc' := 98) dX12_ofBody_97 rfl rfl rfl ?_
          refine aw_gr (q := 59) (e := 13) (v := .ref 73) (pc' := 101) H0 (H0.fo rfl rfl) (by decide) rfl rfl dX12_ofBody_98 rfl fl_RX12_26 ?_
          refine aw_iload_n (pc' := 102) dX12_ofBody_101 rfl rfl ?_
          obtain ⟨g31, hf⟩ := gd_e hf
          refine aw_ia (q := 65) (pc' := 103) H0 (H0.fa rfl rfl rfl) g31 dX12_ofBody_102 rfl ?_
          obtain rfl := Option.some.inj hf
          exact aw_ri dX12_ofBody_103 rfl rfl (Nat.le_of_ble_eq_true rfl) (Nat.le_of_ble_eq_true rfl) ⟨rfl, rfl⟩
        replace hf := ifn c30 hf
        rcases Decidable.em (a1 = 5) with c32 | c32
        · replace hf := ifp c32 hf
          refine aw_tabIn (tgt := 104) (off := 72) dX12_ofBody_32 (by rw [c32]; decide) (by rw [c32]; decide) (by rw [c32]; decide) (by decide) ?_
          refine aw_aload_n (pc' := 105) dX12_ofBody_104 rfl rfl rfl ?_
          refine aw_gr (q := 59) (e := 21) (v := .ref 77) (pc' := 108) H0 (H0.fo rfl rfl) (by decide) rfl rfl dX12_ofBody_105 rfl fl_RX12_38 ?_
          refine aw_iload_n (pc' := 109) dX12_ofBody_108 rfl rfl ?_
          obtain ⟨g33, hf⟩ := gd_e hf
          refine aw_ia (q := 69) (pc' := 110) H0 (H0.fa rfl rfl rfl) g33 dX12_ofBody_109 rfl ?_
          refine aw_zle (tgt := 117) (pc' := 113) dX12_ofBody_110 (by decide) rfl (fun c34 => ?_) (fun c34 => ?_)
          · replace hf := ifn c34 hf
            refine aw_iconst (v := 0) (pc' := 118) dX12_ofBody_117 rfl (by decide) ?_
            obtain rfl := Option.some.inj hf
            exact aw_ri dX12_ofBody_118 rfl rfl (Nat.le_of_ble_eq_true rfl) (Nat.le_of_ble_eq_true rfl) ⟨rfl, rfl⟩
          · replace hf := ifp c34 hf
            refine aw_iconst (v := 1) (pc' := 114) dX12_ofBody_113 rfl (by decide) ?_
            refine aw_goto (tgt := 118) dX12_ofBody_114 (by decide) ?_
            obtain rfl := Option.some.inj hf
            exact aw_ri dX12_ofBody_118 rfl rfl (Nat.le_of_ble_eq_true rfl) (Nat.le_of_ble_eq_true rfl) ⟨rfl, rfl⟩
        replace hf := ifn c32 hf
        rcases Decidable.em (a1 = 6) with c35 | c35
        · replace hf := ifp c35 hf
          refine aw_tabIn (tgt := 119) (off := 87) dX12_ofBody_32 (by rw [c35]; decide) (by rw [c35]; decide) (by rw [c35]; decide) (by decide) ?_
          refine aw_aload_n (pc' := 120) dX12_ofBody_119 rfl rfl rfl ?_
          refine aw_gr (q := 59) (e := 19) (v := .ref 76) (pc' := 123) H0 (H0.fo rfl rfl) (by decide) rfl rfl dX12_ofBody_120 rfl fl_RX12_35 ?_
          refine aw_iload_n (pc' := 124) dX12_ofBody_123 rfl rfl ?_
          obtain ⟨g36, hf⟩ := gd_e hf
          refine aw_ia (q := 68) (pc' := 125) H0 (H0.fa rfl rfl rfl) g36 dX12_ofBody_124 rfl ?_
          obtain rfl := Option.some.inj hf
          exact aw_ri dX12_ofBody_125 rfl rfl (Nat.le_of_ble_eq_true rfl) (Nat.le_of_ble_eq_true rfl) ⟨rfl, rfl⟩
        replace hf := ifn c35 hf
        rcases Decidable.em (a1 = 7) with c37 | c37
        · replace hf := ifp c37 hf
          refine aw_tabIn (tgt := 126) (off := 94) dX12_ofBody_32 (by rw [c37]; decide) (by rw [c37]; decide) (by rw [c37]; decide) (by decide) ?_
          refine aw_aload_n (pc' := 127) dX12_ofBody_126 rfl rfl rfl ?_
          refine aw_gr (q := 59) (e := 15) (v := .ref 74) (pc' := 130) H0 (H0.fo rfl rfl) (by decide) rfl rfl dX12_ofBody_127 rfl fl_RX12_29 ?_
          refine aw_iload_n (pc' := 131) dX12_ofBody_130 rfl rfl ?_
          obtain ⟨g38, hf⟩ := gd_e hf
          refine aw_ia (q := 66) (pc' := 132) H0 (H0.fa rfl rfl rfl) g38 dX12_ofBody_131 rfl ?_
          obtain rfl := Option.some.inj hf
          exact aw_ri dX12_ofBody_132 rfl rfl (Nat.le_of_ble_eq_true rfl) (Nat.le_of_ble_eq_true rfl) ⟨rfl, rfl⟩
        replace hf := ifn c37 hf
        refine aw_tabOut (tgt := 133) dX12_ofBody_32 (by have a0 := tneK (K := 1) (by decide) c24; have a1 := tneK (K := 2) (by decide) c26; have a2 := tneK (K := 3) (by decide) c28; have a3 := tneK (K := 4) (by decide) c30; have a4 := tneK (K := 5) (by decide) c32; have a5 := tneK (K := 6) (by decide) c35; have a6 := tneK (K := 7) (by decide) c37; omega) (by decide) ?_
        refine aw_ldcw (pc' := 136) dX12_ofBody_133 rfl ct_RX12_267 ?_
        obtain rfl := Option.some.inj hf
        exact aw_ri dX12_ofBody_136 rfl rfl (Nat.le_of_ble_eq_true rfl) (Nat.le_of_ble_eq_true rfl) ⟨rfl, rfl⟩
    · replace hf := ifp c3 hf
      refine aw_aload_n (pc' := 17) dX12_ofBody_16 rfl rfl rfl ?_
      refine aw_gr (q := 59) (e := 7) (v := .ref 70) (pc' := 20) H0 (H0.fo rfl rfl) (by decide) rfl rfl dX12_ofBody_17 rfl fl_RX12_17 ?_
      refine aw_iload_n (pc' := 21) dX12_ofBody_20 rfl rfl ?_
      obtain ⟨g39, hf⟩ := gd_e hf
      refine aw_ia (q := 62) (pc' := 22) H0 (H0.fa rfl rfl rfl) g39 dX12_ofBody_21 rfl ?_
      obtain rfl := Option.some.inj hf
      exact aw_ri dX12_ofBody_22 rfl rfl (Nat.le_of_ble_eq_true rfl) (Nat.le_of_ble_eq_true rfl) ⟨rfl, rfl⟩
  · replace hf := ifp c2 hf
    refine aw_ldcw (pc' := 11) dX12_ofBody_8 rfl ct_RX12_267 ?_
    obtain rfl := Option.some.inj hf
    exact aw_ri dX12_ofBody_11 rfl rfl (Nat.le_of_ble_eq_true rfl) (Nat.le_of_ble_eq_true rfl) ⟨rfl, rfl⟩
/-! ThirtyThreeBelowModel.ill -/
def f_X12_ill (s0 : SS) (a0 : Int32) (a1 : Int32) : Option (Int32 × SS) := (b1 (f_X12_isMan s0 a0) fun r1 => (if r1 = (0 : Int32) then some ((-1), s0) else (b1 (f_X12_in a1 (0 : Int32) (9 : Int32)) fun r3 => (if r3 = (0 : Int32) then some ((-1), s0) else (gd (inB a0 120) (vl ((zI s0 76 (a0.toInt.toNat))) fun v6 => (gd (inB a0 120) (st (pI s0 76 (a0.toInt.toNat) a1) fun s8 => some (v6, s8)))))))))
set_option maxRecDepth 4000 in
theorem t_X12_ill {r9 : Int32} {s0 s9 : SS} {h0 : List aE} {a0 : Int32} {a1 : Int32} (H0 : HH s0 h0) (hf : f_X12_ill s0 a0 a1 = some (r9, s9)) : AM mX12_ill (3) [.ref 67, .int a0, .int a1] h0 0 0 (PI fun r' h' => r9 = r' ∧ HH s9 h' ∧ Mo s0 s9) := by
  unfold f_X12_ill at hf
  refine am_of (lv := [some (.ref 67), some (.int a0), some (.int a1), none]) rfl (Nat.le_of_ble_eq_true rfl) rfl ?_
  refine aw_aload_n (pc' := 1) dX12_ill_0 rfl rfl rfl ?_
  refine aw_iload_n (pc' := 2) dX12_ill_1 rfl rfl ?_
  obtain ⟨r1, ec1, hf⟩ := b1_e hf
  refine aw_callVi (M' := mX12_isMan) (nc' := 0) (ns' := 0) (pc' := 5) dX12_ill_2 rfl ml_RX12_275 kX12_isMan (t_X12_isMan H0 ec1) (H0.ob (H0.fo rfl rfl) (by decide)) rfl rfl rfl (Nat.le_of_ble_eq_true rfl) (rokD (by omega) (Nat.le_of_ble_eq_true rfl) (Nat.le_of_ble_eq_true rfl) (Nat.le_of_ble_eq_true rfl)) rfl rfl (fun _ h1 q1 => ?_)
  obtain ⟨rfl, rfl, zb1⟩ := q1
  refine aw_if_eq (tgt := 18) (pc' := 8) dX12_ill_5 (by decide) rfl (fun c2 => ?_) (fun c2 => ?_)
  · replace hf := ifp c2 hf
    refine aw_iconst (v := (-1)) (pc' := 19) dX12_ill_18 rfl (by decide) ?_
    obtain ⟨rfl, rfl⟩ := so2 hf
    exact aw_ri dX12_ill_19 rfl rfl (Nat.le_of_ble_eq_true rfl) (Nat.le_of_ble_eq_true rfl) ⟨rfl, H0, (Mo.rf _)⟩
  · replace hf := ifn c2 hf
    refine aw_iload_n (pc' := 9) dX12_ill_8 rfl rfl ?_
    refine aw_iconst (v := 0) (pc' := 10) dX12_ill_9 rfl (by decide) ?_
    refine aw_bipush (v := 9) (pc' := 12) dX12_ill_10 rfl (by decide) ?_
    obtain ⟨r3, ec3, hf⟩ := b1_e hf
    refine aw_callSi (M' := mX12_in) (nc' := 0) (ns' := 0) (pc' := 15) dX12_ill_12 rfl ml_RX12_230 kX12_in (t_X12_in ec3) rfl rfl (Nat.le_of_ble_eq_true rfl) (rokD (by omega) (Nat.le_of_ble_eq_true rfl) (Nat.le_of_ble_eq_true rfl) (Nat.le_of_ble_eq_true rfl)) rfl rfl (fun _ h3 q3 => ?_)
    obtain ⟨rfl, rfl, zb3⟩ := q3
    refine aw_if_ne (tgt := 20) (pc' := 18) dX12_ill_15 (by decide) rfl (fun c4 => ?_) (fun c4 => ?_)
    · replace hf := ifn c4 hf
      refine aw_aload_n (pc' := 21) dX12_ill_20 rfl rfl rfl ?_
      refine aw_gr (q := 59) (e := 35) (v := .ref 84) (pc' := 24) H0 (H0.fo rfl rfl) (by decide) rfl rfl dX12_ill_21 rfl fl_RX12_59 ?_
      refine aw_iload_n (pc' := 25) dX12_ill_24 rfl rfl ?_
      obtain ⟨g5, hf⟩ := gd_e hf
      refine aw_ia (q := 76) (pc' := 26) H0 (H0.fa rfl rfl rfl) g5 dX12_ill_25 rfl ?_
      obtain ⟨v6, ev6, hf⟩ := vl_e hf
      refine aw_topi ev6 ?_
      refine aw_istore_n (lv' := [_, _, _, _]) (pc' := 27) dX12_ill_26 rfl (Nat.le_of_ble_eq_true rfl) rfl ?_
      refine aw_aload_n (pc' := 28) dX12_ill_27 rfl rfl rfl ?_
      refine aw_gr (q := 59) (e := 35) (v := .ref 84) (pc' := 31) H0 (H0.fo rfl rfl) (by decide) rfl rfl dX12_ill_28 rfl fl_RX12_59 ?_
      refine aw_iload_n (pc' := 32) dX12_ill_31 rfl rfl ?_
      refine aw_iload_n (pc' := 33) dX12_ill_32 rfl rfl ?_
      obtain ⟨g7, hf⟩ := gd_e hf
      obtain ⟨s8, es8, hf⟩ := st_e hf
      refine aw_is (q := 76) (pc' := 34) es8 H0 (H0.fa rfl rfl rfl) g7 dX12_ill_33 rfl (fun h8 H8 => ?_)
      have m8 := Mo.ofI es8
      refine aw_iload_n (pc' := 35) dX12_ill_34 rfl rfl ?_
      obtain ⟨rfl, rfl⟩ := so2 hf
      exact aw_ri dX12_ill_35 rfl rfl (Nat.le_of_ble_eq_true rfl) (Nat.le_of_ble_eq_true rfl) ⟨rfl, H8, m8⟩
    · replace hf := ifp c4 hf
      refine aw_iconst (v := (-1)) (pc' := 19) dX12_ill_18 rfl (by decide) ?_
      obtain ⟨rfl, rfl⟩ := so2 hf
      exact aw_ri dX12_ill_19 rfl rfl (Nat.le_of_ble_eq_true rfl) (Nat.le_of_ble_eq_true rfl) ⟨rfl, H0, (Mo.rf _)⟩
/-! ThirtyThreeBelowModel.menBelow -/
def f_X12_menBelow_L4_b (s0 : SS) (rc : Int32 → Int32 → Option Int32) (x1 : Int32) (x2 : Int32) : Option Int32 := (if x2 < (zS s0 59 4) then (gd (inB x2 120) (jn (fun (t3_0 : Int32) => (vl ((x1 + t3_0)) fun v4 => (vl (x2 + 1) fun v5 => (rc v4 v5)))) fun k3 => (if (zI s0 77 (x2.toInt.toNat)) = (0 : Int32) then (k3 0) else (k3 1)))) else some x1)
def f_X12_menBelow_L4 (s0 : SS) : Nat → Int32 → Int32 → Option Int32
  | 0, _, _ => none
  | n + 1, x1, x2 => f_X12_menBelow_L4_b s0 (f_X12_menBelow_L4 s0 n) x1 x2
set_option maxRecDepth 4000 in
theorem t_X12_menBelow_L4 {r9 : Int32} {s0 : SS} {h0 : List aE} (H0 : HH s0 h0)  : ∀ (n : Nat) (x1 : Int32) (x2 : Int32), f_X12_menBelow_L4 s0 n x1 x2 = some r9 → AW mX12_menBelow (rmD (0) 0 0) (fin (PI fun r' h' => r9 = r' ∧ h0 = h') 0 0) 4 [some (.ref 67), some (.int x1), some (.int x2)] [] h0 0 0 := by
  intro n
  induction n with
  | zero =>
    intro x1 x2 hf
    cases hf
  | succ n ih =>
    intro x1 x2 hf
    replace hf : f_X12_menBelow_L4_b s0 (f_X12_menBelow_L4 s0 n) x1 x2 = some r9 := hf
    unfold f_X12_menBelow_L4_b at hf
    refine aw_iload_n (pc' := 5) dX12_menBelow_4 rfl rfl ?_
    refine aw_aload_n (pc' := 6) dX12_menBelow_5 rfl rfl rfl ?_
    refine aw_gi (q := 59) (pc' := 9) H0 (H0.fo rfl rfl) (by decide) rfl dX12_menBelow_6 rfl fl_RX12_242 ?_
    refine aw_cge (tgt := 35) (pc' := 12) dX12_menBelow_9 (by decide) rfl (fun c1 => ?_) (fun c1 => ?_)
    · replace hf := ifn c1 hf
      refine aw_iload_n (pc' := 36) dX12_menBelow_35 rfl rfl ?_
      obtain rfl := Option.some.inj hf
      exact aw_ri dX12_menBelow_36 rfl rfl (Nat.le_of_ble_eq_true rfl) (Nat.le_of_ble_eq_true rfl) ⟨rfl, rfl⟩
    · replace hf := ifp c1 hf
      refine aw_iload_n (pc' := 13) dX12_menBelow_12 rfl rfl ?_
      refine aw_aload_n (pc' := 14) dX12_menBelow_13 rfl rfl rfl ?_
      refine aw_gr (q := 59) (e := 37) (v := .ref 85) (pc' := 17) H0 (H0.fo rfl rfl) (by decide) rfl rfl dX12_menBelow_14 rfl fl_RX12_62 ?_
      refine aw_iload_n (pc' := 18) dX12_menBelow_17 rfl rfl ?_
      obtain ⟨g2, hf⟩ := gd_e hf
      refine aw_za (q := 77) (pc' := 19) H0 (H0.fa rfl rfl rfl) g2 dX12_menBelow_18 rfl ?_
      obtain ⟨k3, ek3, hf⟩ := jn_e hf
      have hk3 : ∀ (t3_0 : Int32), k3 t3_0 = some r9 → AW mX12_menBelow (rmD (0) 0 0) (fin (PI fun r' h' => r9 = r' ∧ h0 = h') 0 0) 27 [some (.ref 67), none, some (.int x2)] [.int t3_0, .int x1] h0 0 0 := by
        intro t3_0 hf
        subst ek3
        refine aw_iadd (pc' := 28) dX12_menBelow_27 rfl ?_
        obtain ⟨v4, ev4, hf⟩ := vl_e hf
        refine aw_topi ev4 ?_
        refine aw_istore_n (lv' := [_, _, _]) (pc' := 29) dX12_menBelow_28 rfl (Nat.le_of_ble_eq_true rfl) rfl ?_
        obtain ⟨v5, ev5, hf⟩ := vl_e hf
        refine aw_iincV (y := v5) (lv' := [_, _, _]) (pc' := 32) dX12_menBelow_29 rfl rfl (Nat.le_of_ble_eq_true rfl) ev5 rfl ?_
        refine aw_goto (tgt := 4) dX12_menBelow_32 (by decide) ?_
        exact ih _ _ hf
      clear ek3
      refine aw_if_eq (tgt := 26) (pc' := 22) dX12_menBelow_19 (by decide) rfl (fun c6 => ?_) (fun c6 => ?_)
      · replace hf := ifp c6 hf
        refine aw_iconst (v := 0) (pc' := 27) dX12_menBelow_26 rfl (by decide) ?_
        refine AW.lv_le (lz_k (lz_d (lz_k lz_0))) ?_
        exact hk3 _ hf
      · replace hf := ifn c6 hf
        refine aw_iconst (v := 1) (pc' := 23) dX12_menBelow_22 rfl (by decide) ?_
        refine aw_goto (tgt := 27) dX12_menBelow_23 (by decide) ?_
        refine AW.lv_le (lz_k (lz_d (lz_k lz_0))) ?_
        exact hk3 _ hf
def f_X12_menBelow (s0 : SS)  : Option Int32 := (f_X12_menBelow_L4 s0 4000 0 0)
set_option maxRecDepth 4000 in
theorem t_X12_menBelow {r9 : Int32} {s0 : SS} {h0 : List aE}  (H0 : HH s0 h0) (hf : f_X12_menBelow s0 = some r9) : AM mX12_menBelow (0) [.ref 67] h0 0 0 (PI fun r' h' => r9 = r' ∧ h0 = h') := by
  unfold f_X12_menBelow at hf
  refine am_of (lv := [some (.ref 67), none, none]) rfl (Nat.le_of_ble_eq_true rfl) rfl ?_
  refine aw_iconst (v := 0) (pc' := 1) dX12_menBelow_0 rfl (by decide) ?_
  refine aw_istore_n (lv' := [_, _, _]) (pc' := 2) dX12_menBelow_1 rfl (Nat.le_of_ble_eq_true rfl) rfl ?_
  refine aw_iconst (v := 0) (pc' := 3) dX12_menBelow_2 rfl (by decide) ?_
  refine aw_istore_n (lv' := [_, _, _]) (pc' := 4) dX12_menBelow_3 rfl (Nat.le_of_ble_eq_true rfl) rfl ?_
  refine t_X12_menBelow_L4 H0  4000 _ _ hf
/-! ThirtyThreeBelowModel.isMachine -/
def f_X12_isMachine (a0 : Int32) : Option Int32 := (b1 (f_X12_in a0 (0 : Int32) (2 : Int32)) fun r1 => some r1)
set_option maxRecDepth 4000 in
theorem t_X12_isMachine {r9 : Int32} {h0 : List aE} {a0 : Int32}  (hf : f_X12_isMachine a0 = some r9) : AM mX12_isMachine (1) [.int a0] h0 0 0 (PI fun r' h' => r9 = r' ∧ h0 = h' ∧ (r9 = 0 ∨ r9 = 1)) := by
  unfold f_X12_isMachine at hf
  refine am_of (lv := [some (.int a0)]) rfl (Nat.le_of_ble_eq_true rfl) rfl ?_
  refine aw_iload_n (pc' := 1) dX12_isMachine_0 rfl rfl ?_
  refine aw_iconst (v := 0) (pc' := 2) dX12_isMachine_1 rfl (by decide) ?_
  refine aw_iconst (v := 2) (pc' := 3) dX12_isMachine_2 rfl (by decide) ?_
  obtain ⟨r1, ec1, hf⟩ := b1_e hf
  refine aw_callSi (M' := mX12_in) (nc' := 0) (ns' := 0) (pc' := 6) dX12_isMachine_3 rfl ml_RX12_230 kX12_in (t_X12_in ec1) rfl rfl (Nat.le_of_ble_eq_true rfl) (rokD (by omega) (Nat.le_of_ble_eq_true rfl) (Nat.le_of_ble_eq_true rfl) (Nat.le_of_ble_eq_true rfl)) rfl rfl (fun _ h1 q1 => ?_)
  obtain ⟨rfl, rfl, zb1⟩ := q1
  obtain rfl := Option.some.inj hf
  exact aw_ri dX12_isMachine_6 rfl (nz zb1) (Nat.le_of_ble_eq_true rfl) (Nat.le_of_ble_eq_true rfl) ⟨rfl, rfl, zb1⟩
/-! ThirtyThreeBelowModel.speed -/
def f_X12_speed (s0 : SS) (a0 : Int32) (a1 : Int32) : Option (Int32 × SS) := (b1 (f_X12_isMachine a0) fun r1 => (if r1 = (0 : Int32) then some ((-1), s0) else (b1 (f_X12_in a1 (10 : Int32) (60 : Int32)) fun r3 => (if r3 = (0 : Int32) then some ((-1), s0) else (gd (inB a0 3) (vl ((zI s0 78 (a0.toInt.toNat))) fun v6 => (gd (inB a0 3) (st (pI s0 78 (a0.toInt.toNat) a1) fun s8 => some (v6, s8)))))))))
set_option maxRecDepth 4000 in
theorem t_X12_speed {r9 : Int32} {s0 s9 : SS} {h0 : List aE} {a0 : Int32} {a1 : Int32} (H0 : HH s0 h0) (hf : f_X12_speed s0 a0 a1 = some (r9, s9)) : AM mX12_speed (2) [.ref 67, .int a0, .int a1] h0 0 0 (PI fun r' h' => r9 = r' ∧ HH s9 h' ∧ Mo s0 s9) := by
  unfold f_X12_speed at hf
  refine am_of (lv := [some (.ref 67), some (.int a0), some (.int a1), none]) rfl (Nat.le_of_ble_eq_true rfl) rfl ?_
  refine aw_iload_n (pc' := 1) dX12_speed_0 rfl rfl ?_
  obtain ⟨r1, ec1, hf⟩ := b1_e hf
  refine aw_callSi (M' := mX12_isMachine) (nc' := 0) (ns' := 0) (pc' := 4) dX12_speed_1 rfl ml_RX12_278 kX12_isMachine (t_X12_isMachine ec1) rfl rfl (Nat.le_of_ble_eq_true rfl) (rokD (by omega) (Nat.le_of_ble_eq_true rfl) (Nat.le_of_ble_eq_true rfl) (Nat.le_of_ble_eq_true rfl)) rfl rfl (fun _ h1 q1 => ?_)
  obtain ⟨rfl, rfl, zb1⟩ := q1
  refine aw_if_eq (tgt := 18) (pc' := 7) dX12_speed_4 (by decide) rfl (fun c2 => ?_) (fun c2 => ?_)
  · replace hf := ifp c2 hf
    refine aw_iconst (v := (-1)) (pc' := 19) dX12_speed_18 rfl (by decide) ?_
    obtain ⟨rfl, rfl⟩ := so2 hf
    exact aw_ri dX12_speed_19 rfl rfl (Nat.le_of_ble_eq_true rfl) (Nat.le_of_ble_eq_true rfl) ⟨rfl, H0, (Mo.rf _)⟩
  · replace hf := ifn c2 hf
    refine aw_iload_n (pc' := 8) dX12_speed_7 rfl rfl ?_
    refine aw_bipush (v := 10) (pc' := 10) dX12_speed_8 rfl (by decide) ?_
    refine aw_bipush (v := 60) (pc' := 12) dX12_speed_10 rfl (by decide) ?_
    obtain ⟨r3, ec3, hf⟩ := b1_e hf
    refine aw_callSi (M' := mX12_in) (nc' := 0) (ns' := 0) (pc' := 15) dX12_speed_12 rfl ml_RX12_230 kX12_in (t_X12_in ec3) rfl rfl (Nat.le_of_ble_eq_true rfl) (rokD (by omega) (Nat.le_of_ble_eq_true rfl) (Nat.le_of_ble_eq_true rfl) (Nat.le_of_ble_eq_true rfl)) rfl rfl (fun _ h3 q3 => ?_)
    obtain ⟨rfl, rfl, zb3⟩ := q3
    refine aw_if_ne (tgt := 20) (pc' := 18) dX12_speed_15 (by decide) rfl (fun c4 => ?_) (fun c4 => ?_)
    · replace hf := ifn c4 hf
      refine aw_aload_n (pc' := 21) dX12_speed_20 rfl rfl rfl ?_
      refine aw_gr (q := 59) (e := 39) (v := .ref 86) (pc' := 24) H0 (H0.fo rfl rfl) (by decide) rfl rfl dX12_speed_21 rfl fl_RX12_69 ?_
      refine aw_iload_n (pc' := 25) dX12_speed_24 rfl rfl ?_
      obtain ⟨g5, hf⟩ := gd_e hf
      refine aw_ia (q := 78) (pc' := 26) H0 (H0.fa rfl rfl rfl) g5 dX12_speed_25 rfl ?_
      obtain ⟨v6, ev6, hf⟩ := vl_e hf
      refine aw_topi ev6 ?_
      refine aw_istore_n (lv' := [_, _, _, _]) (pc' := 27) dX12_speed_26 rfl (Nat.le_of_ble_eq_true rfl) rfl ?_
      refine aw_aload_n (pc' := 28) dX12_speed_27 rfl rfl rfl ?_
      refine aw_gr (q := 59) (e := 39) (v := .ref 86) (pc' := 31) H0 (H0.fo rfl rfl) (by decide) rfl rfl dX12_speed_28 rfl fl_RX12_69 ?_
      refine aw_iload_n (pc' := 32) dX12_speed_31 rfl rfl ?_
      refine aw_iload_n (pc' := 33) dX12_speed_32 rfl rfl ?_
      obtain ⟨g7, hf⟩ := gd_e hf
      obtain ⟨s8, es8, hf⟩ := st_e hf
      refine aw_is (q := 78) (pc' := 34) es8 H0 (H0.fa rfl rfl rfl) g7 dX12_speed_33 rfl (fun h8 H8 => ?_)
      have m8 := Mo.ofI es8
      refine aw_iload_n (pc' := 35) dX12_speed_34 rfl rfl ?_
      obtain ⟨rfl, rfl⟩ := so2 hf
      exact aw_ri dX12_speed_35 rfl rfl (Nat.le_of_ble_eq_true rfl) (Nat.le_of_ble_eq_true rfl) ⟨rfl, H8, m8⟩
    · replace hf := ifp c4 hf
      refine aw_iconst (v := (-1)) (pc' := 19) dX12_speed_18 rfl (by decide) ?_
      obtain ⟨rfl, rfl⟩ := so2 hf
      exact aw_ri dX12_speed_19 rfl rfl (Nat.le_of_ble_eq_true rfl) (Nat.le_of_ble_eq_true rfl) ⟨rfl, H0, (Mo.rf _)⟩
/-! ThirtyThreeBelowModel.set -/
def f_X12_set_L26_b (q0 : Option (Int32 × SS)) (sb : SS) (y1 : Int32) (y2 : Int32) (rc : Int32 → Option (Int32 × SS)) (x3 : Int32) : Option (Int32 × SS) := (if x3 < (3 : Int32) then (jn ((vl (x3 + 1) fun v6 => (rc v6))) fun k5 => (if x3 = y1 then k5 else (if y2 < (0 : Int32) then k5 else (gd (inB x3 3) (if (zI sb 79 (x3.toInt.toNat)) = y2 then some ((-2000000000), sb) else k5))))) else q0)
def f_X12_set_L26 (q0 : Option (Int32 × SS)) (sb : SS) (y1 : Int32) (y2 : Int32) : Nat → Int32 → Option (Int32 × SS)
  | 0, _ => none
  | n + 1, x3 => f_X12_set_L26_b q0 sb y1 y2 (f_X12_set_L26 q0 sb y1 y2 n) x3
set_option maxRecDepth 4000 in
theorem t_X12_set_L26 {r9 : Int32} {s0 sb s9 : SS} {hb : List aE} {q0 : Option (Int32 × SS} {y1 : Int32} {y2 : Int32} (Hb : HH sb hb) (mb : Mo s0 sb) (hq0 : q0 = some (r9, s9) → AW mX12_set (rmD (3) 0 0) (fin (PI fun r' h' => r9 = r' ∧ HH s9 h' ∧ Mo s0 s9) 0 0) 60 [some (.ref 67), some (.int y1), some (.int y2), none] [] hb 0 0) : ∀ (n : Nat) (x3 : Int32), f_X12_set_L26 q0 sb y1 y2 n x3 = some (r9, s9) → AW mX12_set (rmD (3) 0 0) (fin (PI fun r' h' => r9 = r' ∧ HH s9 h' ∧ Mo s0 s9) 0 0) 26 [some (.ref 67), some (.int y1), some (.int y2), some (.int x3)] [] hb 0 0 := by
  intro n
  induction n with
  | zero =>
    intro x3 hf
    cases hf
  | succ n ih =>
    intro x3 hf
    replace hf : f_X12_set_L26_b q0 sb y1 y2 (f_X12_set_L26 q0 sb y1 y2 n) x3 = some (r9, s9) := hf
    unfold f_X12_set_L26_b at hf
    refine aw_iload_n (pc' := 27) dX12_set_26 rfl rfl ?_
    refine aw_iconst (v := 3) (pc' := 28) dX12_set_27 rfl (by decide) ?_
    refine aw_cge (tgt := 60) (pc' := 31) dX12_set_28 (by decide) rfl (fun c4 => ?_) (fun c4 => ?_)
    · replace hf := ifn c4 hf
      refine AW.lv_le (lz_k (lz_k (lz_k (lz_d lz_0)))) ?_
      exact hq0  hf
    · replace hf := ifp c4 hf
      refine aw_iload_n (pc' := 32) dX12_set_31 rfl rfl ?_
      refine aw_iload_n (pc' := 33) dX12_set_32 rfl rfl ?_
      obtain ⟨k5, ek5, hf⟩ := jn_e hf
      have hk5 : k5 = some (r9, s9) → AW mX12_set (rmD (3) 0 0) (fin (PI fun r' h' => r9 = r' ∧ HH s9 h' ∧ Mo s0 s9) 0 0) 54 [some (.ref 67), some (.int y1), some (.int y2), some (.int x3)] [] hb 0 0 := by
        intro hf
        subst ek5
        obtain ⟨v6, ev6, hf⟩ := vl_e hf
        refine aw_iincV (y := v6) (lv' := [_, _, _, _]) (pc' := 57) dX12_set_54 rfl rfl (Nat.le_of_ble_eq_true rfl) ev6 rfl ?_
        refine aw_goto (tgt := 26) dX12_set_57 (by decide) ?_
        exact ih _ hf
      clear ek5
      refine aw_icmp_eq (tgt := 54) (pc' := 36) dX12_set_33 (by decide) rfl (fun c7 => ?_) (fun c7 => ?_)
      · replace hf := ifp c7 hf
        exact hk5  hf
      · replace hf := ifn c7 hf
        refine aw_iload_n (pc' := 37) dX12_set_36 rfl rfl ?_
        refine aw_zlt (tgt := 54) (pc' := 40) dX12_set_37 (by decide) rfl (fun c8 => ?_) (fun c8 => ?_)
        · replace hf := ifp c8 hf
          exact hk5  hf
        · replace hf := ifn c8 hf
          refine aw_aload_n (pc' := 41) dX12_set_40 rfl rfl rfl ?_
          refine aw_gr (q := 59) (e := 41) (v := .ref 87) (pc' := 44) Hb (Hb.fo rfl rfl) (by decide) rfl rfl dX12_set_41 rfl fl_RX12_72 ?_
          refine aw_iload_n (pc' := 45) dX12_set_44 rfl rfl ?_
          obtain ⟨g9, hf⟩ := gd_e hf
          refine aw_ia (q := 79) (pc' := 46) Hb (Hb.fa rfl rfl rfl) g9 dX12_set_45 rfl ?_
          refine aw_iload_n (pc' := 47) dX12_set_46 rfl rfl ?_
          refine aw_icmp_ne (tgt := 54) (pc' := 50) dX12_set_47 (by decide) rfl (fun c10 => ?_) (fun c10 => ?_)
          · replace hf := ifn c10 hf
            exact hk5  hf
          · replace hf := ifp c10 hf
            refine aw_ldcw (pc' := 53) dX12_set_50 rfl ct_RX12_267 ?_
            obtain ⟨rfl, rfl⟩ := so2 hf
            exact aw_ri dX12_set_53 rfl rfl (Nat.le_of_ble_eq_true rfl) (Nat.le_of_ble_eq_true rfl) ⟨rfl, Hb, mb⟩
def f_X12_set (s0 : SS) (a0 : Int32) (a1 : Int32) : Option (Int32 × SS) := (b1 (f_X12_isMachine a0) fun r1 => (if r1 = (0 : Int32) then some ((-2000000000), s0) else (jn ((f_X12_set_L26 (gd (inB a0 3) (vl ((zI s0 79 (a0.toInt.toNat))) fun v13 => (gd (inB a0 3) (st (pI s0 79 (a0.toInt.toNat) a1) fun s15 => some (v13, s15))))) s0 a0 a1 4000 0)) fun k3 => (if a1 = ((-1) : Int32) then k3 else (b1 (f_X12_isHole s0 a1) fun r17 => (if r17 = (0 : Int32) then some ((-2000000000), s0) else k3))))))
set_option maxRecDepth 4000 in
theorem t_X12_set {r9 : Int32} {s0 s9 : SS} {h0 : List aE} {a0 : Int32} {a1 : Int32} (H0 : HH s0 h0) (hf : f_X12_set s0 a0 a1 = some (r9, s9)) : AM mX12_set (3) [.ref 67, .int a0, .int a1] h0 0 0 (PI fun r' h' => r9 = r' ∧ HH s9 h' ∧ Mo s0 s9) := by
  unfold f_X12_set at hf
  refine am_of (lv := [some (.ref 67), some (.int a0), some (.int a1), none]) rfl (Nat.le_of_ble_eq_true rfl) rfl ?_
  refine aw_iload_n (pc' := 1) dX12_set_0 rfl rfl ?_
  obtain ⟨r1, ec1, hf⟩ := b1_e hf
  refine aw_callSi (M' := mX12_isMachine) (nc' := 0) (ns' := 0) (pc' := 4) dX12_set_1 rfl ml_RX12_278 kX12_isMachine (t_X12_isMachine ec1) rfl rfl (Nat.le_of_ble_eq_true rfl) (rokD (by omega) (Nat.le_of_ble_eq_true rfl) (Nat.le_of_ble_eq_true rfl) (Nat.le_of_ble_eq_true rfl)) rfl rfl (fun _ h1 q1 => ?_)
  obtain ⟨rfl, rfl, zb1⟩ := q1
  refine aw_if_eq (tgt := 20) (pc' := 7) dX12_set_4 (by decide) rfl (fun c2 => ?_) (fun c2 => ?_)
  · replace hf := ifp c2 hf
    refine aw_ldcw (pc' := 23) dX12_set_20 rfl ct_RX12_267 ?_
    obtain ⟨rfl, rfl⟩ := so2 hf
    exact aw_ri dX12_set_23 rfl rfl (Nat.le_of_ble_eq_true rfl) (Nat.le_of_ble_eq_true rfl) ⟨rfl, H0, (Mo.rf _)⟩
  · replace hf := ifn c2 hf
    refine aw_iload_n (pc' := 8) dX12_set_7 rfl rfl ?_
    refine aw_iconst (v := (-1)) (pc' := 9) dX12_set_8 rfl (by decide) ?_
    obtain ⟨k3, ek3, hf⟩ := jn_e hf
    have hk3 : k3 = some (r9, s9) → AW mX12_set (rmD (3) 0 0) (fin (PI fun r' h' => r9 = r' ∧ HH s9 h' ∧ Mo s0 s9) 0 0) 24 [some (.ref 67), some (.int a0), some (.int a1), none] [] h0 0 0 := by
      intro hf
      subst ek3
      refine aw_iconst (v := 0) (pc' := 25) dX12_set_24 rfl (by decide) ?_
      refine aw_istore_n (lv' := [_, _, _, _]) (pc' := 26) dX12_set_25 rfl (Nat.le_of_ble_eq_true rfl) rfl ?_
      refine t_X12_set_L26 H0 (Mo.rf _) (fun hf => ?_) 4000 _ hf
      refine aw_aload_n (pc' := 61) dX12_set_60 rfl rfl rfl ?_
      refine aw_gr (q := 59) (e := 41) (v := .ref 87) (pc' := 64) H0 (H0.fo rfl rfl) (by decide) rfl rfl dX12_set_61 rfl fl_RX12_72 ?_
      refine aw_iload_n (pc' := 65) dX12_set_64 rfl rfl ?_
      obtain ⟨g12, hf⟩ := gd_e hf
      refine aw_ia (q := 79) (pc' := 66) H0 (H0.fa rfl rfl rfl) g12 dX12_set_65 rfl ?_
      obtain ⟨v13, ev13, hf⟩ := vl_e hf
      refine aw_topi ev13 ?_
      refine aw_istore_n (lv' := [_, _, _, _]) (pc' := 67) dX12_set_66 rfl (Nat.le_of_ble_eq_true rfl) rfl ?_
      refine aw_aload_n (pc' := 68) dX12_set_67 rfl rfl rfl ?_
      refine aw_gr (q := 59) (e := 41) (v := .ref 87) (pc' := 71) H0 (H0.fo rfl rfl) (by decide) rfl rfl dX12_set_68 rfl fl_RX12_72 ?_
      refine aw_iload_n (pc' := 72) dX12_set_71 rfl rfl ?_
      refine aw_iload_n (pc' := 73) dX12_set_72 rfl rfl ?_
      obtain ⟨g14, hf⟩ := gd_e hf
      obtain ⟨s15, es15, hf⟩ := st_e hf
      refine aw_is (q := 79) (pc' := 74) es15 H0 (H0.fa rfl rfl rfl) g14 dX12_set_73 rfl (fun h15 H15 => ?_)
      have m15 := Mo.ofI es15
      refine aw_iload_n (pc' := 75) dX12_set_74 rfl rfl ?_
      obtain ⟨rfl, rfl⟩ := so2 hf
      exact aw_ri dX12_set_75 rfl rfl (Nat.le_of_ble_eq_true rfl) (Nat.le_of_ble_eq_true rfl) ⟨rfl, H15, m15⟩
    clear ek3
    refine aw_icmp_eq (tgt := 24) (pc' := 12) dX12_set_9 (by decide) rfl (fun c16 => ?_) (fun c16 => ?_)
    · replace hf := ifp c16 hf
      exact hk3  hf
    · replace hf := ifn c16 hf
      refine aw_aload_n (pc' := 13) dX12_set_12 rfl rfl rfl ?_
      refine aw_iload_n (pc' := 14) dX12_set_13 rfl rfl ?_
      obtain ⟨r17, ec17, hf⟩ := b1_e hf
      refine aw_callVi (M' := mX12_isHole) (nc' := 0) (ns' := 0) (pc' := 17) dX12_set_14 rfl ml_RX12_268 kX12_isHole (t_X12_isHole H0 ec17) (H0.ob (H0.fo rfl rfl) (by decide)) rfl rfl rfl (Nat.le_of_ble_eq_true rfl) (rokD (by omega) (Nat.le_of_ble_eq_true rfl) (Nat.le_of_ble_eq_true rfl) (Nat.le_of_ble_eq_true rfl)) rfl rfl (fun _ h17 q17 => ?_)
      obtain ⟨rfl, rfl, zb17⟩ := q17
      refine aw_if_ne (tgt := 24) (pc' := 20) dX12_set_17 (by decide) rfl (fun c18 => ?_) (fun c18 => ?_)
      · replace hf := ifn c18 hf
        exact hk3  hf
      · replace hf := ifp c18 hf
        refine aw_ldcw (pc' := 23) dX12_set_20 rfl ct_RX12_267 ?_
        obtain ⟨rfl, rfl⟩ := so2 hf
        exact aw_ri dX12_set_23 rfl rfl (Nat.le_of_ble_eq_true rfl) (Nat.le_of_ble_eq_true rfl) ⟨rfl, H0, (Mo.rf _)⟩
/-! ThirtyThreeBelowModel.breaks -/
def f_X12_breaks (s0 : SS) (a0 : Int32) (a1 : Int32) : Option (Int32 × SS) := (b1 (f_X12_isMachine a0) fun r1 => (if r1 = (0 : Int32) then some ((-1), s0) else (b1 (f_X12_in a1 (zS s0 59 1) (1699 : Int32)) fun r3 => (if r3 = (0 : Int32) then some ((-1), s0) else (gd (inB a0 3) (st (pI s0 80 (a0.toInt.toNat) a1) fun s6 => some (1, s6)))))))
set_option maxRecDepth 4000 in
theorem t_X12_breaks {r9 : Int32} {s0 s9 : SS} {h0 : List aE} {a0 : Int32} {a1 : Int32} (H0 : HH s0 h0) (hf : f_X12_breaks s0 a0 a1 = some (r9, s9)) : AM mX12_breaks (2) [.ref 67, .int a0, .int a1] h0 0 0 (PI fun r' h' => r9 = r' ∧ HH s9 h' ∧ Mo s0 s9) := by
  unfold f_X12_breaks at hf
  refine am_of (lv := [some (.ref 67), some (.int a0), some (.int a1)]) rfl (Nat.le_of_ble_eq_true rfl) rfl ?_
  refine aw_iload_n (pc' := 1) dX12_breaks_0 rfl rfl ?_
  obtain ⟨r1, ec1, hf⟩ := b1_e hf
  refine aw_callSi (M' := mX12_isMachine) (nc' := 0) (ns' := 0) (pc' := 4) dX12_breaks_1 rfl ml_RX12_278 kX12_isMachine (t_X12_isMachine ec1) rfl rfl (Nat.le_of_ble_eq_true rfl) (rokD (by omega) (Nat.le_of_ble_eq_true rfl) (Nat.le_of_ble_eq_true rfl) (Nat.le_of_ble_eq_true rfl)) rfl rfl (fun _ h1 q1 => ?_)
  obtain ⟨rfl, rfl, zb1⟩ := q1
  refine aw_if_eq (tgt := 21) (pc' := 7) dX12_breaks_4 (by decide) rfl (fun c2 => ?_) (fun c2 => ?_)
  · replace hf := ifp c2 hf
    refine aw_iconst (v := (-1)) (pc' := 22) dX12_breaks_21 rfl (by decide) ?_
    obtain ⟨rfl, rfl⟩ := so2 hf
    exact aw_ri dX12_breaks_22 rfl rfl (Nat.le_of_ble_eq_true rfl) (Nat.le_of_ble_eq_true rfl) ⟨rfl, H0, (Mo.rf _)⟩
  · replace hf := ifn c2 hf
    refine aw_iload_n (pc' := 8) dX12_breaks_7 rfl rfl ?_
    refine aw_aload_n (pc' := 9) dX12_breaks_8 rfl rfl rfl ?_
    refine aw_gi (q := 59) (pc' := 12) H0 (H0.fo rfl rfl) (by decide) rfl dX12_breaks_9 rfl fl_RX12_281 ?_
    refine aw_sipush (v := 1699) (pc' := 15) dX12_breaks_12 rfl (by decide) ?_
    obtain ⟨r3, ec3, hf⟩ := b1_e hf
    refine aw_callSi (M' := mX12_in) (nc' := 0) (ns' := 0) (pc' := 18) dX12_breaks_15 rfl ml_RX12_230 kX12_in (t_X12_in ec3) rfl rfl (Nat.le_of_ble_eq_true rfl) (rokD (by omega) (Nat.le_of_ble_eq_true rfl) (Nat.le_of_ble_eq_true rfl) (Nat.le_of_ble_eq_true rfl)) rfl rfl (fun _ h3 q3 => ?_)
    obtain ⟨rfl, rfl, zb3⟩ := q3
    refine aw_if_ne (tgt := 23) (pc' := 21) dX12_breaks_18 (by decide) rfl (fun c4 => ?_) (fun c4 => ?_)
    · replace hf := ifn c4 hf
      refine aw_aload_n (pc' := 24) dX12_breaks_23 rfl rfl rfl ?_
      refine aw_gr (q := 59) (e := 43) (v := .ref 88) (pc' := 27) H0 (H0.fo rfl rfl) (by decide) rfl rfl dX12_breaks_24 rfl fl_RX12_75 ?_
      refine aw_iload_n (pc' := 28) dX12_breaks_27 rfl rfl ?_
      refine aw_iload_n (pc' := 29) dX12_breaks_28 rfl rfl ?_
      obtain ⟨g5, hf⟩ := gd_e hf
      obtain ⟨s6, es6, hf⟩ := st_e hf
      refine aw_is (q := 80) (pc' := 30) es6 H0 (H0.fa rfl rfl rfl) g5 dX12_breaks_29 rfl (fun h6 H6 => ?_)
      have m6 := Mo.ofI es6
      refine aw_iconst (v := 1) (pc' := 31) dX12_breaks_30 rfl (by decide) ?_
      obtain ⟨rfl, rfl⟩ := so2 hf
      exact aw_ri dX12_breaks_31 rfl rfl (Nat.le_of_ble_eq_true rfl) (Nat.le_of_ble_eq_true rfl) ⟨rfl, H6, m6⟩
    · replace hf := ifp c4 hf
      refine aw_iconst (v := (-1)) (pc' := 22) dX12_breaks_21 rfl (by decide) ?_
      obtain ⟨rfl, rfl⟩ := so2 hf
      exact aw_ri dX12_breaks_22 rfl rfl (Nat.le_of_ble_eq_true rfl) (Nat.le_of_ble_eq_true rfl) ⟨rfl, H0, (Mo.rf _)⟩
/-! ThirtyThreeBelowModel.yard -/
def f_X12_yard (s0 : SS) (a0 : Int32) (a1 : Int32) : Option (Int32 × SS) := (b1 (f_X12_isHole s0 a0) fun r1 => (if r1 = (0 : Int32) then some ((-1), s0) else (b1 (f_X12_in a1 ((-2) : Int32) (2 : Int32)) fun r3 => (if r3 = (0 : Int32) then some ((-1), s0) else (gd (inB a0 120) (if (0 : Int32) < (zI s0 69 (a0.toInt.toNat)) then some ((-2), s0) else (gd (inB a0 120) (if (zI s0 66 (a0.toInt.toNat)) = (60 : Int32) then some ((-3), s0) else (gd (inB a0 120) (vl (((zI s0 66 (a0.toInt.toNat)) + (1 : Int32))) fun v10 => (gd (inB a0 120) (st (pI s0 66 (a0.toInt.toNat) v10) fun s12 => (gd (inB a0 120) (vl ((((61 : Int32) * a0) + (zI s12 66 (a0.toInt.toNat)))) fun v14 => (gd (inB v14 7320) (st (pI s12 70 (v14.toInt.toNat) a1) fun s16 => (gd (inB a0 120) some ((zI s16 66 (a0.toInt.toNat)), s16))))))))))))))))))
set_option maxRecDepth 4000 in
theorem t_X12_yard {r9 : Int32} {s0 s9 : SS} {h0 : List aE} {a0 : Int32} {a1 : Int32} (H0 : HH s0 h0) (hf : f_X12_yard s0 a0 a1 = some (r9, s9)) : AM mX12_yard (3) [.ref 67, .int a0, .int a1] h0 0 0 (PI fun r' h' => r9 = r' ∧ HH s9 h' ∧ Mo s0 s9) := by
  unfold f_X12_yard at hf
  refine am_of (lv := [some (.ref 67), some (.int a0), some (.int a1)]) rfl (Nat.le_of_ble_eq_true rfl) rfl ?_
  refine aw_aload_n (pc' := 1) dX12_yard_0 rfl rfl rfl ?_
  refine aw_iload_n (pc' := 2) dX12_yard_1 rfl rfl ?_
  obtain ⟨r1, ec1, hf⟩ := b1_e hf
  refine aw_callVi (M' := mX12_isHole) (nc' := 0) (ns' := 0) (pc' := 5) dX12_yard_2 rfl ml_RX12_268 kX12_isHole (t_X12_isHole H0 ec1) (H0.ob (H0.fo rfl rfl) (by decide)) rfl rfl rfl (Nat.le_of_ble_eq_true rfl) (rokD (by omega) (Nat.le_of_ble_eq_true rfl) (Nat.le_of_ble_eq_true rfl) (Nat.le_of_ble_eq_true rfl)) rfl rfl (fun _ h1 q1 => ?_)
  obtain ⟨rfl, rfl, zb1⟩ := q1
  refine aw_if_eq (tgt := 18) (pc' := 8) dX12_yard_5 (by decide) rfl (fun c2 => ?_) (fun c2 => ?_)
  · replace hf := ifp c2 hf
    refine aw_iconst (v := (-1)) (pc' := 19) dX12_yard_18 rfl (by decide) ?_
    obtain ⟨rfl, rfl⟩ := so2 hf
    exact aw_ri dX12_yard_19 rfl rfl (Nat.le_of_ble_eq_true rfl) (Nat.le_of_ble_eq_true rfl) ⟨rfl, H0, (Mo.rf _)⟩
  · replace hf := ifn c2 hf
    refine aw_iload_n (pc' := 9) dX12_yard_8 rfl rfl ?_
    refine aw_bipush (v := (-2)) (pc' := 11) dX12_yard_9 rfl (by decide) ?_
    refine aw_iconst (v := 2) (pc' := 12) dX12_yard_11 rfl (by decide) ?_
    obtain ⟨r3, ec3, hf⟩ := b1_e hf
    refine aw_callSi (M' := mX12_in) (nc' := 0) (ns' := 0) (pc' := 15) dX12_yard_12 rfl ml_RX12_230 kX12_in (t_X12_in ec3) rfl rfl (Nat.le_of_ble_eq_true rfl) (rokD (by omega) (Nat.le_of_ble_eq_true rfl) (Nat.le_of_ble_eq_true rfl) (Nat.le_of_ble_eq_true rfl)) rfl rfl (fun _ h3 q3 => ?_)
    obtain ⟨rfl, rfl, zb3⟩ := q3
    refine aw_if_ne (tgt := 20) (pc' := 18) dX12_yard_15 (by decide) rfl (fun c4 => ?_) (fun c4 => ?_)
    · replace hf := ifn c4 hf
      refine aw_aload_n (pc' := 21) dX12_yard_20 rfl rfl rfl ?_
      refine aw_gr (q := 59) (e := 21) (v := .ref 77) (pc' := 24) H0 (H0.fo rfl rfl) (by decide) rfl rfl dX12_yard_21 rfl fl_RX12_38 ?_
      refine aw_iload_n (pc' := 25) dX12_yard_24 rfl rfl ?_
      obtain ⟨g5, hf⟩ := gd_e hf
      refine aw_ia (q := 69) (pc' := 26) H0 (H0.fa rfl rfl rfl) g5 dX12_yard_25 rfl ?_
      refine aw_zle (tgt := 32) (pc' := 29) dX12_yard_26 (by decide) rfl (fun c6 => ?_) (fun c6 => ?_)
      · replace hf := ifn c6 hf
        refine aw_aload_n (pc' := 33) dX12_yard_32 rfl rfl rfl ?_
        refine aw_gr (q := 59) (e := 15) (v := .ref 74) (pc' := 36) H0 (H0.fo rfl rfl) (by decide) rfl rfl dX12_yard_33 rfl fl_RX12_29 ?_
        refine aw_iload_n (pc' := 37) dX12_yard_36 rfl rfl ?_
        obtain ⟨g7, hf⟩ := gd_e hf
        refine aw_ia (q := 66) (pc' := 38) H0 (H0.fa rfl rfl rfl) g7 dX12_yard_37 rfl ?_
        refine aw_bipush (v := 60) (pc' := 40) dX12_yard_38 rfl (by decide) ?_
        refine aw_icmp_ne (tgt := 46) (pc' := 43) dX12_yard_40 (by decide) rfl (fun c8 => ?_) (fun c8 => ?_)
        · replace hf := ifn c8 hf
          refine aw_aload_n (pc' := 47) dX12_yard_46 rfl rfl rfl ?_
          refine aw_gr (q := 59) (e := 15) (v := .ref 74) (pc' := 50) H0 (H0.fo rfl rfl) (by decide) rfl rfl dX12_yard_47 rfl fl_RX12_29 ?_
          refine aw_iload_n (pc' := 51) dX12_yard_50 rfl rfl ?_
          refine aw_dup2 (pc' := 52) dX12_yard_51 rfl rfl rfl ?_
          obtain ⟨g9, hf⟩ := gd_e hf
          refine aw_ia (q := 66) (pc' := 53) H0 (H0.fa rfl rfl rfl) g9 dX12_yard_52 rfl ?_
          refine aw_iconst (v := 1) (pc' := 54) dX12_yard_53 rfl (by decide) ?_
          refine aw_iadd (pc' := 55) dX12_yard_54 rfl ?_
          obtain ⟨v10, ev10, hf⟩ := vl_e hf
          refine aw_topi ev10 ?_
          obtain ⟨g11, hf⟩ := gd_e hf
          obtain ⟨s12, es12, hf⟩ := st_e hf
          refine aw_is (q := 66) (pc' := 56) es12 H0 (H0.fa rfl rfl rfl) g11 dX12_yard_55 rfl (fun h12 H12 => ?_)
          have m12 := Mo.ofI es12
          refine aw_aload_n (pc' := 57) dX12_yard_56 rfl rfl rfl ?_
          refine aw_gr (q := 59) (e := 23) (v := .ref 78) (pc' := 60) H12 (H12.fo rfl rfl) (by decide) rfl rfl dX12_yard_57 rfl fl_RX12_41 ?_
          refine aw_bipush (v := 61) (pc' := 62) dX12_yard_60 rfl (by decide) ?_
          refine aw_iload_n (pc' := 63) dX12_yard_62 rfl rfl ?_
          refine aw_imul (pc' := 64) dX12_yard_63 rfl ?_
          refine aw_aload_n (pc' := 65) dX12_yard_64 rfl rfl rfl ?_
          refine aw_gr (q := 59) (e := 15) (v := .ref 74) (pc' := 68) H12 (H12.fo rfl rfl) (by decide) rfl rfl dX12_yard_65 rfl fl_RX12_29 ?_
          refine aw_iload_n (pc' := 69) dX12_yard_68 rfl rfl ?_
          obtain ⟨g13, hf⟩ := gd_e hf
          refine aw_ia (q := 66) (pc' := 70) H12 (H12.fa rfl rfl rfl) g13 dX12_yard_69 rfl ?_
          refine aw_iadd (pc' := 71) dX12_yard_70 rfl ?_
          refine aw_iload_n (pc' := 72) dX12_yard_71 rfl rfl ?_
          obtain ⟨v14, ev14, hf⟩ := vl_e hf
          refine aw_sndi ev14 ?_
          obtain ⟨g15, hf⟩ := gd_e hf
          obtain ⟨s16, es16, hf⟩ := st_e hf
          refine aw_is (q := 70) (pc' := 73) es16 H12 (H12.fa rfl rfl rfl) g15 dX12_yard_72 rfl (fun h16 H16 => ?_)
          have m16 := Mo.ofI es16
          refine aw_aload_n (pc' := 74) dX12_yard_73 rfl rfl rfl ?_
          refine aw_gr (q := 59) (e := 15) (v := .ref 74) (pc' := 77) H16 (H16.fo rfl rfl) (by decide) rfl rfl dX12_yard_74 rfl fl_RX12_29 ?_
          refine aw_iload_n (pc' := 78) dX12_yard_77 rfl rfl ?_
          obtain ⟨g17, hf⟩ := gd_e hf
          refine aw_ia (q := 66) (pc' := 79) H16 (H16.fa rfl rfl rfl) g17 dX12_yard_78 rfl ?_
          obtain ⟨rfl, rfl⟩ := so2 hf
          exact aw_ri dX12_yard_79 rfl rfl (Nat.le_of_ble_eq_true rfl) (Nat.le_of_ble_eq_true rfl) ⟨rfl, H16, (m12.tr m16)⟩
        · replace hf := ifp c8 hf
          refine aw_bipush (v := (-3)) (pc' := 45) dX12_yard_43 rfl (by decide) ?_
          obtain ⟨rfl, rfl⟩ := so2 hf
          exact aw_ri dX12_yard_45 rfl rfl (Nat.le_of_ble_eq_true rfl) (Nat.le_of_ble_eq_true rfl) ⟨rfl, H0, (Mo.rf _)⟩
      · replace hf := ifp c6 hf
        refine aw_bipush (v := (-2)) (pc' := 31) dX12_yard_29 rfl (by decide) ?_
        obtain ⟨rfl, rfl⟩ := so2 hf
        exact aw_ri dX12_yard_31 rfl rfl (Nat.le_of_ble_eq_true rfl) (Nat.le_of_ble_eq_true rfl) ⟨rfl, H0, (Mo.rf _)⟩
    · replace hf := ifp c4 hf
      refine aw_iconst (v := (-1)) (pc' := 19) dX12_yard_18 rfl (by decide) ?_
      obtain ⟨rfl, rfl⟩ := so2 hf
      exact aw_ri dX12_yard_19 rfl rfl (Nat.le_of_ble_eq_true rfl) (Nat.le_of_ble_eq_true rfl) ⟨rfl, H0, (Mo.rf _)⟩
/-! ThirtyThreeBelowModel.met -/
def f_X12_met (s0 : SS) (a0 : Int32) (a1 : Int32) : Option Int32 := (b1 (f_X12_isHole s0 a0) fun r1 => (if r1 = (0 : Int32) then some (-1) else (gd (inB a0 120) (b1 (f_X12_in a1 (1 : Int32) (zI s0 67 (a0.toInt.toNat))) fun r4 => (if r4 = (0 : Int32) then some (-1) else (vl ((((61 : Int32) * a0) + a1)) fun v6 => (gd (inB v6 7320) some (zI s0 71 (v6.toInt.toNat)))))))))
set_option maxRecDepth 4000 in
theorem t_X12_met {r9 : Int32} {s0 : SS} {h0 : List aE} {a0 : Int32} {a1 : Int32} (H0 : HH s0 h0) (hf : f_X12_met s0 a0 a1 = some r9) : AM mX12_met (3) [.ref 67, .int a0, .int a1] h0 0 0 (PI fun r' h' => r9 = r' ∧ h0 = h') := by
  unfold f_X12_met at hf
  refine am_of (lv := [some (.ref 67), some (.int a0), some (.int a1)]) rfl (Nat.le_of_ble_eq_true rfl) rfl ?_
  refine aw_aload_n (pc' := 1) dX12_met_0 rfl rfl rfl ?_
  refine aw_iload_n (pc' := 2) dX12_met_1 rfl rfl ?_
  obtain ⟨r1, ec1, hf⟩ := b1_e hf
  refine aw_callVi (M' := mX12_isHole) (nc' := 0) (ns' := 0) (pc' := 5) dX12_met_2 rfl ml_RX12_268 kX12_isHole (t_X12_isHole H0 ec1) (H0.ob (H0.fo rfl rfl) (by decide)) rfl rfl rfl (Nat.le_of_ble_eq_true rfl) (rokD (by omega) (Nat.le_of_ble_eq_true rfl) (Nat.le_of_ble_eq_true rfl) (Nat.le_of_ble_eq_true rfl)) rfl rfl (fun _ h1 q1 => ?_)
  obtain ⟨rfl, rfl, zb1⟩ := q1
  refine aw_if_eq (tgt := 36) (pc' := 8) dX12_met_5 (by decide) rfl (fun c2 => ?_) (fun c2 => ?_)
  · replace hf := ifp c2 hf
    refine aw_iconst (v := (-1)) (pc' := 37) dX12_met_36 rfl (by decide) ?_
    obtain rfl := Option.some.inj hf
    exact aw_ri dX12_met_37 rfl rfl (Nat.le_of_ble_eq_true rfl) (Nat.le_of_ble_eq_true rfl) ⟨rfl, rfl⟩
  · replace hf := ifn c2 hf
    refine aw_iload_n (pc' := 9) dX12_met_8 rfl rfl ?_
    refine aw_iconst (v := 1) (pc' := 10) dX12_met_9 rfl (by decide) ?_
    refine aw_aload_n (pc' := 11) dX12_met_10 rfl rfl rfl ?_
    refine aw_gr (q := 59) (e := 17) (v := .ref 75) (pc' := 14) H0 (H0.fo rfl rfl) (by decide) rfl rfl dX12_met_11 rfl fl_RX12_32 ?_
    refine aw_iload_n (pc' := 15) dX12_met_14 rfl rfl ?_
    obtain ⟨g3, hf⟩ := gd_e hf
    refine aw_ia (q := 67) (pc' := 16) H0 (H0.fa rfl rfl rfl) g3 dX12_met_15 rfl ?_
    obtain ⟨r4, ec4, hf⟩ := b1_e hf
    refine aw_callSi (M' := mX12_in) (nc' := 0) (ns' := 0) (pc' := 19) dX12_met_16 rfl ml_RX12_230 kX12_in (t_X12_in ec4) rfl rfl (Nat.le_of_ble_eq_true rfl) (rokD (by omega) (Nat.le_of_ble_eq_true rfl) (Nat.le_of_ble_eq_true rfl) (Nat.le_of_ble_eq_true rfl)) rfl rfl (fun _ h4 q4 => ?_)
    obtain ⟨rfl, rfl, zb4⟩ := q4
    refine aw_if_eq (tgt := 36) (pc' := 22) dX12_met_19 (by decide) rfl (fun c5 => ?_) (fun c5 => ?_)
    · replace hf := ifp c5 hf
      refine aw_iconst (v := (-1)) (pc' := 37) dX12_met_36 rfl (by decide) ?_
      obtain rfl := Option.some.inj hf
      exact aw_ri dX12_met_37 rfl rfl (Nat.le_of_ble_eq_true rfl) (Nat.le_of_ble_eq_true rfl) ⟨rfl, rfl⟩
    · replace hf := ifn c5 hf
      refine aw_aload_n (pc' := 23) dX12_met_22 rfl rfl rfl ?_
      refine aw_gr (q := 59) (e := 25) (v := .ref 79) (pc' := 26) H0 (H0.fo rfl rfl) (by decide) rfl rfl dX12_met_23 rfl fl_RX12_44 ?_
      refine aw_bipush (v := 61) (pc' := 28) dX12_met_26 rfl (by decide) ?_
      refine aw_iload_n (pc' := 29) dX12_met_28 rfl rfl ?_
      refine aw_imul (pc' := 30) dX12_met_29 rfl ?_
      refine aw_iload_n (pc' := 31) dX12_met_30 rfl rfl ?_
      refine aw_iadd (pc' := 32) dX12_met_31 rfl ?_
      obtain ⟨v6, ev6, hf⟩ := vl_e hf
      refine aw_topi ev6 ?_
      obtain ⟨g7, hf⟩ := gd_e hf
      refine aw_ia (q := 71) (pc' := 33) H0 (H0.fa rfl rfl rfl) g7 dX12_met_32 rfl ?_
      refine aw_goto (tgt := 37) dX12_met_33 (by decide) ?_
      obtain rfl := Option.some.inj hf
      exact aw_ri dX12_met_37 rfl rfl (Nat.le_of_ble_eq_true rfl) (Nat.le_of_ble_eq_true rfl) ⟨rfl, rfl⟩
