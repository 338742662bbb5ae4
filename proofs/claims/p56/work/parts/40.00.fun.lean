theorem l13 {c : Nat} (h : Nat.blt c 13 = true) : c < 13 := Nat.lt_of_not_le (fun z => by have := Nat.le_of_ble_eq_true h; omega)
theorem ic_m1 : Int32.ofInt (-1) = (-1) := by decide
theorem ic_0 : Int32.ofInt 0 = 0 := by decide
theorem ic_1 : Int32.ofInt 1 = 1 := by decide
theorem ic_2 : Int32.ofInt 2 = 2 := by decide
theorem ic_3 : Int32.ofInt 3 = 3 := by decide
theorem ic_4 : Int32.ofInt 4 = 4 := by decide
theorem ic_5 : Int32.ofInt 5 = 5 := by decide
theorem bp_m100 : (Int8.ofInt (-100)).toInt32 = (-100) := by decide
theorem bp_m11 : (Int8.ofInt (-11)).toInt32 = (-11) := by decide
theorem bp_m12 : (Int8.ofInt (-12)).toInt32 = (-12) := by decide
theorem bp_m13 : (Int8.ofInt (-13)).toInt32 = (-13) := by decide
theorem bp_m14 : (Int8.ofInt (-14)).toInt32 = (-14) := by decide
theorem bp_m15 : (Int8.ofInt (-15)).toInt32 = (-15) := by decide
theorem bp_m16 : (Int8.ofInt (-16)).toInt32 = (-16) := by decide
theorem bp_m17 : (Int8.ofInt (-17)).toInt32 = (-17) := by decide
theorem bp_m18 : (Int8.ofInt (-18)).toInt32 = (-18) := by decide
theorem bp_m19 : (Int8.ofInt (-19)).toInt32 = (-19) := by decide
theorem bp_m2 : (Int8.ofInt (-2)).toInt32 = (-2) := by decide
theorem bp_m20 : (Int8.ofInt (-20)).toInt32 = (-20) := by decide
theorem bp_m21 : (Int8.ofInt (-21)).toInt32 = (-21) := by decide
theorem bp_m22 : (Int8.ofInt (-22)).toInt32 = (-22) := by decide
theorem bp_m23 : (Int8.ofInt (-23)).toInt32 = (-23) := by decide
theorem bp_m24 : (Int8.ofInt (-24)).toInt32 = (-24) := by decide
theorem bp_m3 : (Int8.ofInt (-3)).toInt32 = (-3) := by decide
theorem bp_m5 : (Int8.ofInt (-5)).toInt32 = (-5) := by decide
theorem bp_m6 : (Int8.ofInt (-6)).toInt32 = (-6) := by decide
theorem bp_m8 : (Int8.ofInt (-8)).toInt32 = (-8) := by decide
theorem bp_10 : (Int8.ofInt 10).toInt32 = 10 := by decide
theorem bp_100 : (Int8.ofInt 100).toInt32 = 100 := by decide
theorem bp_11 : (Int8.ofInt 11).toInt32 = 11 := by decide
theorem bp_12 : (Int8.ofInt 12).toInt32 = 12 := by decide
theorem bp_120 : (Int8.ofInt 120).toInt32 = 120 := by decide
theorem bp_124 : (Int8.ofInt 124).toInt32 = 124 := by decide
theorem bp_16 : (Int8.ofInt 16).toInt32 = 16 := by decide
theorem bp_19 : (Int8.ofInt 19).toInt32 = 19 := by decide
theorem bp_20 : (Int8.ofInt 20).toInt32 = 20 := by decide
theorem bp_24 : (Int8.ofInt 24).toInt32 = 24 := by decide
theorem bp_30 : (Int8.ofInt 30).toInt32 = 30 := by decide
theorem bp_31 : (Int8.ofInt 31).toInt32 = 31 := by decide
theorem bp_32 : (Int8.ofInt 32).toInt32 = 32 := by decide
theorem bp_33 : (Int8.ofInt 33).toInt32 = 33 := by decide
theorem bp_37 : (Int8.ofInt 37).toInt32 = 37 := by decide
theorem bp_38 : (Int8.ofInt 38).toInt32 = 38 := by decide
theorem bp_40 : (Int8.ofInt 40).toInt32 = 40 := by decide
theorem bp_41 : (Int8.ofInt 41).toInt32 = 41 := by decide
theorem bp_42 : (Int8.ofInt 42).toInt32 = 42 := by decide
theorem bp_43 : (Int8.ofInt 43).toInt32 = 43 := by decide
theorem bp_45 : (Int8.ofInt 45).toInt32 = 45 := by decide
theorem bp_47 : (Int8.ofInt 47).toInt32 = 47 := by decide
theorem bp_48 : (Int8.ofInt 48).toInt32 = 48 := by decide
theorem bp_50 : (Int8.ofInt 50).toInt32 = 50 := by decide
theorem bp_51 : (Int8.ofInt 51).toInt32 = 51 := by decide
theorem bp_57 : (Int8.ofInt 57).toInt32 = 57 := by decide
theorem bp_59 : (Int8.ofInt 59).toInt32 = 59 := by decide
theorem bp_6 : (Int8.ofInt 6).toInt32 = 6 := by decide
theorem bp_60 : (Int8.ofInt 60).toInt32 = 60 := by decide
theorem bp_61 : (Int8.ofInt 61).toInt32 = 61 := by decide
theorem bp_62 : (Int8.ofInt 62).toInt32 = 62 := by decide
theorem bp_63 : (Int8.ofInt 63).toInt32 = 63 := by decide
theorem bp_7 : (Int8.ofInt 7).toInt32 = 7 := by decide
theorem bp_70 : (Int8.ofInt 70).toInt32 = 70 := by decide
theorem bp_8 : (Int8.ofInt 8).toInt32 = 8 := by decide
theorem bp_80 : (Int8.ofInt 80).toInt32 = 80 := by decide
theorem bp_9 : (Int8.ofInt 9).toInt32 = 9 := by decide
theorem bp_90 : (Int8.ofInt 90).toInt32 = 90 := by decide
theorem bp_99 : (Int8.ofInt 99).toInt32 = 99 := by decide
theorem sp_160 : (Int16.ofInt 160).toInt32 = 160 := by decide
theorem sp_1699 : (Int16.ofInt 1699).toInt32 = 1699 := by decide
theorem sp_170 : (Int16.ofInt 170).toInt32 = 170 := by decide
theorem sp_1700 : (Int16.ofInt 1700).toInt32 = 1700 := by decide
theorem sp_199 : (Int16.ofInt 199).toInt32 = 199 := by decide
theorem sp_255 : (Int16.ofInt 255).toInt32 = 255 := by decide
theorem sp_999 : (Int16.ofInt 999).toInt32 = 999 := by decide
theorem sp_9999 : (Int16.ofInt 9999).toInt32 = 9999 := by decide
/-! ThirtyThreeBelow$Bodies.kindOf -/
noncomputable def f_X0_kindOf (s0 : SS) (a0 : Int32) : Option Int32 := (if a0 < (0 : Int32) then some (-1) else (if a0 < (zS s0 15 3) then (gd (inB a0 120) (some (zI s0 16 (a0.toInt.toNat)))) else some (-1)))
set_option maxRecDepth 4000 in
theorem t_X0_kindOf {r9 : Int32} {s0 : SS} {h0 : List aE} {a0 : Int32} (H0 : HH s0 h0) (hf : f_X0_kindOf s0 a0 = some r9) : AM mX0_kindOf (0) [.ref 23, .int a0] h0 0 0 (PI fun r' h' => r9 = r' ∧ h0 = h') := by
  unfold f_X0_kindOf at hf
  refine am_of (lv := [some (.ref 23), some (.int a0)]) rfl (Nat.le_of_ble_eq_true rfl) rfl ?_
  refine aw_iload_n (pc' := 1) dX0_kindOf_0 rfl rfl ?_
  refine aw_zlt (tgt := 12) (pc' := 4) dX0_kindOf_1 rfl rfl (fun c1 => ?_) (fun c1 => ?_)
  · replace hf := ifp c1 hf
    refine aw_iconst (v := (-1)) (pc' := 13) dX0_kindOf_12 rfl ic_m1 ?_
    refine aw_goto (tgt := 22) dX0_kindOf_13 rfl ?_
    obtain rfl := Option.some.inj hf
    exact aw_ri dX0_kindOf_22 rfl rfl (Nat.le_of_ble_eq_true rfl) (Nat.le_of_ble_eq_true rfl) ⟨rfl, rfl⟩
  · replace hf := ifn c1 hf
    refine aw_iload_n (pc' := 5) dX0_kindOf_4 rfl rfl ?_
    refine aw_aload_n (pc' := 6) dX0_kindOf_5 rfl rfl rfl ?_
    refine aw_gi (q := 15) (pc' := 9) H0 (H0.fo rfl rfl) (l13 rfl) rfl dX0_kindOf_6 rfl fl_RX0_32 ?_
    refine aw_clt (tgt := 16) (pc' := 12) dX0_kindOf_9 rfl rfl (fun c2 => ?_) (fun c2 => ?_)
    · replace hf := ifp c2 hf
      refine aw_aload_n (pc' := 17) dX0_kindOf_16 rfl rfl rfl ?_
      refine aw_gr (q := 15) (e := 3) (v := .ref 24) (pc' := 20) H0 (H0.fo rfl rfl) (l13 rfl) rfl rfl dX0_kindOf_17 rfl fl_RX0_9 ?_
      refine aw_iload_n (pc' := 21) dX0_kindOf_20 rfl rfl ?_
      obtain ⟨g3, hf⟩ := gd_e hf
      refine aw_ia (q := 16) (pc' := 22) H0 (H0.fa rfl rfl rfl) g3 dX0_kindOf_21 rfl ?_
      obtain rfl := Option.some.inj hf
      exact aw_ri dX0_kindOf_22 rfl rfl (Nat.le_of_ble_eq_true rfl) (Nat.le_of_ble_eq_true rfl) ⟨rfl, rfl⟩
    · replace hf := ifn c2 hf
      refine aw_iconst (v := (-1)) (pc' := 13) dX0_kindOf_12 rfl ic_m1 ?_
      refine aw_goto (tgt := 22) dX0_kindOf_13 rfl ?_
      obtain rfl := Option.some.inj hf
      exact aw_ri dX0_kindOf_22 rfl rfl (Nat.le_of_ble_eq_true rfl) (Nat.le_of_ble_eq_true rfl) ⟨rfl, rfl⟩
/-! ThirtyThreeBelow$Bodies.holeOf -/
noncomputable def f_X0_holeOf (s0 : SS) (a0 : Int32) : Option (Option Nat) := (if a0 < (0 : Int32) then some none else (if a0 < (zS s0 15 3) then (gd (inB a0 120) (on (zR s0 17 (a0.toInt.toNat)) (some none) fun p4 => some (some p4))) else some none))
set_option maxRecDepth 4000 in
theorem t_X0_holeOf {r9 : Option Nat} {s0 : SS} {h0 : List aE} {a0 : Int32} (H0 : HH s0 h0) (hf : f_X0_holeOf s0 a0 = some r9) : AM mX0_holeOf (0) [.ref 23, .int a0] h0 0 0 (PA fun v h' => va_rf (r9.map (· + 8)) = v ∧ h0 = h' ∧ ∀ p, r9 = some p → okH s0 p) := by
  unfold f_X0_holeOf at hf
  refine am_of (lv := [some (.ref 23), some (.int a0)]) rfl (Nat.le_of_ble_eq_true rfl) rfl ?_
  refine aw_iload_n (pc' := 1) dX0_holeOf_0 rfl rfl ?_
  refine aw_zlt (tgt := 12) (pc' := 4) dX0_holeOf_1 rfl rfl (fun c1 => ?_) (fun c1 => ?_)
  · replace hf := ifp c1 hf
    refine aw_null (pc' := 13) dX0_holeOf_12 rfl ?_
    refine aw_goto (tgt := 22) dX0_holeOf_13 rfl ?_
    obtain rfl := Option.some.inj hf
    exact aw_ra (v := .null) dX0_holeOf_22 rfl (Or.inl ⟨_, rfl⟩) rfl (Nat.le_of_ble_eq_true rfl) (Nat.le_of_ble_eq_true rfl) ⟨rfl, rfl, (fun _ z => by cases z)⟩
  · replace hf := ifn c1 hf
    refine aw_iload_n (pc' := 5) dX0_holeOf_4 rfl rfl ?_
    refine aw_aload_n (pc' := 6) dX0_holeOf_5 rfl rfl rfl ?_
    refine aw_gi (q := 15) (pc' := 9) H0 (H0.fo rfl rfl) (l13 rfl) rfl dX0_holeOf_6 rfl fl_RX0_32 ?_
    refine aw_clt (tgt := 16) (pc' := 12) dX0_holeOf_9 rfl rfl (fun c2 => ?_) (fun c2 => ?_)
    · replace hf := ifp c2 hf
      refine aw_aload_n (pc' := 17) dX0_holeOf_16 rfl rfl rfl ?_
      refine aw_gr (q := 15) (e := 5) (v := .ref 25) (pc' := 20) H0 (H0.fo rfl rfl) (l13 rfl) rfl rfl dX0_holeOf_17 rfl fl_RX0_17 ?_
      refine aw_iload_n (pc' := 21) dX0_holeOf_20 rfl rfl ?_
      obtain ⟨g3, hf⟩ := gd_e hf
      replace hf := on_e hf
      rcases hf with ⟨eo4, hf⟩ | ⟨p4, eo4, hf⟩
      · refine aw_ra_ (q := 17) (t := 4) (pc' := 22) H0 (H0.fa rfl rfl rfl) (by decide) (by decide) rfl g3 eo4 dX0_holeOf_21 rfl ?_
        show AW _ _ _ _ _ (Value.null :: _) _ _ _
        obtain rfl := Option.some.inj hf
        exact aw_ra (v := .null) dX0_holeOf_22 rfl (Or.inl ⟨_, rfl⟩) rfl (Nat.le_of_ble_eq_true rfl) (Nat.le_of_ble_eq_true rfl) ⟨rfl, rfl, (fun _ z => by cases z)⟩
      · refine aw_ra_ (q := 17) (t := 4) (pc' := 22) H0 (H0.fa rfl rfl rfl) (by decide) (by decide) rfl g3 eo4 dX0_holeOf_21 rfl ?_
        show AW _ _ _ _ _ (Value.ref (p4 + 8) :: _) _ _ _
        have o_p4 : okH s0 p4 := (H0.2.2.2.2.1 _ _ (ixl g3) eo4)
        obtain rfl := Option.some.inj hf
        exact aw_ra (v := .ref (p4 + 8)) dX0_holeOf_22 rfl (Or.inl ⟨_, rfl⟩) rfl (Nat.le_of_ble_eq_true rfl) (Nat.le_of_ble_eq_true rfl) ⟨rfl, rfl, (fun _ z => by cases z; exact o_p4)⟩
    · replace hf := ifn c2 hf
      refine aw_null (pc' := 13) dX0_holeOf_12 rfl ?_
      refine aw_goto (tgt := 22) dX0_holeOf_13 rfl ?_
      obtain rfl := Option.some.inj hf
      exact aw_ra (v := .null) dX0_holeOf_22 rfl (Or.inl ⟨_, rfl⟩) rfl (Nat.le_of_ble_eq_true rfl) (Nat.le_of_ble_eq_true rfl) ⟨rfl, rfl, (fun _ z => by cases z)⟩
/-! ThirtyThreeBelow$Bodies.isUnder -/
noncomputable def f_X0_isUnder_L9_b (q0 : Int32 → Option Int32) (s0 : SS) (y2 : Int32) (rc : Int32 → Int32 → Option Int32) (x3 : Int32) (x4 : Int32) : Option Int32 := (if x4 < (8 : Int32) then (if x3 < (0 : Int32) then (q0 x3) else (if x3 = y2 then (q0 x3) else (gd (inB x3 8) (vl ((kAi (x3.toInt.toNat))) fun v6 => (vl (x4 + 1) fun v7 => (rc v6 v7)))))) else (q0 x3))
noncomputable def f_X0_isUnder_L9 (q0 : Int32 → Option Int32) (s0 : SS) (y2 : Int32) : Nat → Int32 → Int32 → Option Int32
  | 0, _, _ => none
  | n + 1, x3, x4 => f_X0_isUnder_L9_b q0 s0 y2 (f_X0_isUnder_L9 q0 s0 y2 n) x3 x4
set_option maxRecDepth 4000 in
theorem t_X0_isUnder_L9 {r9 : Int32} {s0 : SS} {h0 : List aE} {q0 : Int32 → Option Int32} {y2 : Int32} (H0 : HH s0 h0) (hq0 : ∀ (x3 : Int32), q0 x3 = some r9 → AW mX0_isUnder (rmD (1) 0 0) (fin (PI fun r' h' => r9 = r' ∧ h0 = h' ∧ (r9 = 0 ∨ r9 = 1)) 0 0) 39 [none, none, some (.int y2), some (.int x3), none] [] h0 0 0) : ∀ (n : Nat) (x3 : Int32) (x4 : Int32), f_X0_isUnder_L9 q0 s0 y2 n x3 x4 = some r9 → AW mX0_isUnder (rmD (1) 0 0) (fin (PI fun r' h' => r9 = r' ∧ h0 = h' ∧ (r9 = 0 ∨ r9 = 1)) 0 0) 9 [none, none, some (.int y2), some (.int x3), some (.int x4)] [] h0 0 0 := by
  intro n
  induction n with
  | zero =>
    intro x3 x4 hf
    cases hf
  | succ n ih =>
    intro x3 x4 hf
    replace hf : f_X0_isUnder_L9_b q0 s0 y2 (f_X0_isUnder_L9 q0 s0 y2 n) x3 x4 = some r9 := hf
    unfold f_X0_isUnder_L9_b at hf
    refine aw_iload (pc' := 11) dX0_isUnder_9 rfl rfl ?_
    refine aw_gka (pc' := 14) dX0_isUnder_11 rfl (by decide) ?_
    refine aw_kal (pc' := 15) dX0_isUnder_14 rfl ?_
    refine aw_cge (tgt := 39) (pc' := 18) dX0_isUnder_15 rfl rfl (fun c2 => ?_) (fun c2 => ?_)
    · replace hf := ifn c2 hf
      refine AW.lv_le (lz_d (lz_d (lz_k (lz_k (lz_d lz_0))))) ?_
      exact hq0 _ hf
    · replace hf := ifp c2 hf
      refine aw_iload_n (pc' := 19) dX0_isUnder_18 rfl rfl ?_
      refine aw_zlt (tgt := 39) (pc' := 22) dX0_isUnder_19 rfl rfl (fun c3 => ?_) (fun c3 => ?_)
      · replace hf := ifp c3 hf
        refine AW.lv_le (lz_d (lz_d (lz_k (lz_k (lz_d lz_0))))) ?_
        exact hq0 _ hf
      · replace hf := ifn c3 hf
        refine aw_iload_n (pc' := 23) dX0_isUnder_22 rfl rfl ?_
        refine aw_iload_n (pc' := 24) dX0_isUnder_23 rfl rfl ?_
        refine aw_icmp_eq (tgt := 39) (pc' := 27) dX0_isUnder_24 rfl rfl (fun c4 => ?_) (fun c4 => ?_)
        · replace hf := ifp c4 hf
          refine AW.lv_le (lz_d (lz_d (lz_k (lz_k (lz_d lz_0))))) ?_
          exact hq0 _ hf
        · replace hf := ifn c4 hf
          refine aw_gka (pc' := 30) dX0_isUnder_27 rfl (by decide) ?_
          refine aw_iload_n (pc' := 31) dX0_isUnder_30 rfl rfl ?_
          obtain ⟨g5, hf⟩ := gd_e hf
          refine aw_kald (pc' := 32) g5 dX0_isUnder_31 rfl ?_
          obtain ⟨v6, ev6, hf⟩ := vl_e hf
          refine aw_topi ev6 ?_
          refine aw_istore_n (lv' := [_, _, _, _, _]) (pc' := 33) dX0_isUnder_32 rfl (Nat.le_of_ble_eq_true rfl) rfl ?_
          obtain ⟨v7, ev7, hf⟩ := vl_e hf
          refine aw_iincV (y := v7) (lv' := [_, _, _, _, _]) (pc' := 36) dX0_isUnder_33 rfl rfl (Nat.le_of_ble_eq_true rfl) ev7 rfl ?_
          refine aw_goto (tgt := 9) dX0_isUnder_36 rfl ?_
          exact ih _ _ hf
noncomputable def f_X0_isUnder (s0 : SS) (a0 : Int32) (a1 : Int32) : Option Int32 := (b1 (f_X0_kindOf s0 a0) fun r1 => (f_X0_isUnder_L9 (fun (x8_3 : Int32) => (if x8_3 = a1 then some 1 else some 0)) s0 a1 4000 r1 0))
set_option maxRecDepth 4000 in
theorem t_X0_isUnder {r9 : Int32} {s0 : SS} {h0 : List aE} {a0 : Int32} {a1 : Int32} (H0 : HH s0 h0) (hf : f_X0_isUnder s0 a0 a1 = some r9) : AM mX0_isUnder (1) [.ref 23, .int a0, .int a1] h0 0 0 (PI fun r' h' => r9 = r' ∧ h0 = h' ∧ (r9 = 0 ∨ r9 = 1)) := by
  unfold f_X0_isUnder at hf
  refine am_of (lv := [some (.ref 23), some (.int a0), some (.int a1), none, none]) rfl (Nat.le_of_ble_eq_true rfl) rfl ?_
  refine aw_aload_n (pc' := 1) dX0_isUnder_0 rfl rfl rfl ?_
  refine aw_iload_n (pc' := 2) dX0_isUnder_1 rfl rfl ?_
  obtain ⟨r1, ec1, hf⟩ := b1_e hf
  refine aw_callVi (M' := mX0_kindOf) (nc' := 0) (ns' := 0) (pc' := 5) dX0_isUnder_2 rfl ml_RX0_35 kX0_kindOf (t_X0_kindOf H0 ec1) (H0.ob (H0.fo rfl rfl) (by decide)) rfl rfl rfl (Nat.le_of_ble_eq_true rfl) (rokD (by omega) (Nat.le_of_ble_eq_true rfl) (Nat.le_of_ble_eq_true rfl) (Nat.le_of_ble_eq_true rfl)) rfl rfl (fun _ h1 q1 => ?_)
  obtain ⟨rfl, rfl⟩ := q1
  refine aw_istore_n (lv' := [_, _, _, _, _]) (pc' := 6) dX0_isUnder_5 rfl (Nat.le_of_ble_eq_true rfl) rfl ?_
  refine aw_iconst (v := 0) (pc' := 7) dX0_isUnder_6 rfl ic_0 ?_
  refine aw_istore (lv' := [_, _, _, _, _]) (pc' := 9) dX0_isUnder_7 rfl (Nat.le_of_ble_eq_true rfl) rfl ?_
  refine AW.lv_le (lz_d (lz_d (lz_k (lz_k (lz_k lz_0))))) ?_
  refine t_X0_isUnder_L9 H0 (fun x8_3 hf => ?_) 4000 _ _ hf
  refine aw_iload_n (pc' := 40) dX0_isUnder_39 rfl rfl ?_
  refine aw_iload_n (pc' := 41) dX0_isUnder_40 rfl rfl ?_
  refine aw_icmp_ne (tgt := 48) (pc' := 44) dX0_isUnder_41 rfl rfl (fun c10 => ?_) (fun c10 => ?_)
  · replace hf := ifn c10 hf
    refine aw_iconst (v := 0) (pc' := 49) dX0_isUnder_48 rfl ic_0 ?_
    obtain rfl := Option.some.inj hf
    exact aw_ri dX0_isUnder_49 rfl (by decide) (Nat.le_of_ble_eq_true rfl) (Nat.le_of_ble_eq_true rfl) ⟨rfl, rfl, Or.inl rfl⟩
  · replace hf := ifp c10 hf
    refine aw_iconst (v := 1) (pc' := 45) dX0_isUnder_44 rfl ic_1 ?_
    refine aw_goto (tgt := 49) dX0_isUnder_45 rfl ?_
    obtain rfl := Option.some.inj hf
    exact aw_ri dX0_isUnder_49 rfl (by decide) (Nat.le_of_ble_eq_true rfl) (Nat.le_of_ble_eq_true rfl) ⟨rfl, rfl, Or.inr rfl⟩
/-! ThirtyThreeBelow$Bodies.added -/
noncomputable def f_X0_added (s0 : SS) (a0 : Int32) : Option (Int32 × SS) := (if (zS s0 15 3) < (120 : Int32) then (vl ((zS s0 15 3)) fun v2 => (gd (inB v2 120) (st (pI s0 16 (v2.toInt.toNat) a0) fun s4 => (vl (((zS s4 15 3) + (1 : Int32))) fun v5 => (st (pS s4 15 3 v5) fun s6 => some (((zS s6 15 3) - (1 : Int32)), s6)))))) else some ((-3), s0))
set_option maxRecDepth 4000 in
theorem t_X0_added {r9 : Int32} {s0 s9 : SS} {h0 : List aE} {a0 : Int32} (H0 : HH s0 h0) (hf : f_X0_added s0 a0 = some (r9, s9)) : AM mX0_added (0) [.ref 23, .int a0] h0 0 0 (PI fun r' h' => r9 = r' ∧ HH s9 h' ∧ Mo s0 s9) := by
  unfold f_X0_added at hf
  refine am_of (lv := [some (.ref 23), some (.int a0)]) rfl (Nat.le_of_ble_eq_true rfl) rfl ?_
  refine aw_aload_n (pc' := 1) dX0_added_0 rfl rfl rfl ?_
  refine aw_gi (q := 15) (pc' := 4) H0 (H0.fo rfl rfl) (l13 rfl) rfl dX0_added_1 rfl fl_RX0_32 ?_
  refine aw_bipush (v := 120) (pc' := 6) dX0_added_4 rfl bp_120 ?_
  refine aw_clt (tgt := 12) (pc' := 9) dX0_added_6 rfl rfl (fun c1 => ?_) (fun c1 => ?_)
  · replace hf := ifp c1 hf
    refine aw_aload_n (pc' := 13) dX0_added_12 rfl rfl rfl ?_
    refine aw_gr (q := 15) (e := 3) (v := .ref 24) (pc' := 16) H0 (H0.fo rfl rfl) (l13 rfl) rfl rfl dX0_added_13 rfl fl_RX0_9 ?_
    refine aw_aload_n (pc' := 17) dX0_added_16 rfl rfl rfl ?_
    refine aw_gi (q := 15) (pc' := 20) H0 (H0.fo rfl rfl) (l13 rfl) rfl dX0_added_17 rfl fl_RX0_32 ?_
    refine aw_iload_n (pc' := 21) dX0_added_20 rfl rfl ?_
    obtain ⟨v2, ev2, hf⟩ := vl_e hf
    refine aw_sndi ev2 ?_
    obtain ⟨g3, hf⟩ := gd_e hf
    obtain ⟨s4, es4, hf⟩ := st_e hf
    refine aw_is (q := 16) (pc' := 22) es4 H0 (H0.fa rfl rfl rfl) g3 dX0_added_21 rfl (fun h4 H4 => ?_)
    have m4 := Mo.ofI es4
    refine aw_aload_n (pc' := 23) dX0_added_22 rfl rfl rfl ?_
    refine aw_dup (pc' := 24) dX0_added_23 rfl rfl ?_
    refine aw_gi (q := 15) (pc' := 27) H4 (H4.fo rfl rfl) (l13 rfl) rfl dX0_added_24 rfl fl_RX0_32 ?_
    refine aw_iconst (v := 1) (pc' := 28) dX0_added_27 rfl ic_1 ?_
    refine aw_iadd (pc' := 29) dX0_added_28 rfl ?_
    obtain ⟨v5, ev5, hf⟩ := vl_e hf
    refine aw_topi ev5 ?_
    obtain ⟨s6, es6, hf⟩ := st_e hf
    refine aw_pi (q := 15) (pc' := 32) es6 H4 (H4.fo rfl rfl) (by decide) rfl dX0_added_29 rfl fl_RX0_32 rfl (fun h6 H6 => ?_)
    have m6 := Mo.ofS es6
    refine aw_aload_n (pc' := 33) dX0_added_32 rfl rfl rfl ?_
    refine aw_gi (q := 15) (pc' := 36) H6 (H6.fo rfl rfl) (l13 rfl) rfl dX0_added_33 rfl fl_RX0_32 ?_
    refine aw_iconst (v := 1) (pc' := 37) dX0_added_36 rfl ic_1 ?_
    refine aw_isub (pc' := 38) dX0_added_37 rfl ?_
    obtain ⟨rfl, rfl⟩ := so2 hf
    exact aw_ri dX0_added_38 rfl rfl (Nat.le_of_ble_eq_true rfl) (Nat.le_of_ble_eq_true rfl) ⟨rfl, H6, (m4.tr m6)⟩
  · replace hf := ifn c1 hf
    refine aw_bipush (v := (-3)) (pc' := 11) dX0_added_9 rfl bp_m3 ?_
    obtain ⟨rfl, rfl⟩ := so2 hf
    exact aw_ri dX0_added_11 rfl rfl (Nat.le_of_ble_eq_true rfl) (Nat.le_of_ble_eq_true rfl) ⟨rfl, H0, (Mo.rf _)⟩
/-! ThirtyThreeBelow$Bodies.addedHole -/
noncomputable def f_X0_addedHole (s0 : SS) (a0 : Int32) (a1 : Int32) (a2 : Int32) : Option (Int32 × SS) := (bd (f_X0_added s0 a0) fun r1 s1 => (if r1 < (0 : Int32) then some (r1, s1) else (gd (inB r1 120) (st (pR (pHole s1 a1 a2) 17 (r1.toInt.toNat) (some (zL s1))) fun s4 => (vl (((zS s4 15 4) + (1 : Int32))) fun v5 => (st (pS s4 15 4 v5) fun s6 => some (r1, s6)))))))
set_option maxRecDepth 4000 in
theorem t_X0_addedHole {r9 : Int32} {s0 s9 : SS} {h0 : List aE} {a0 : Int32} {a1 : Int32} {a2 : Int32} (H0 : HH s0 h0) (hf : f_X0_addedHole s0 a0 a1 a2 = some (r9, s9)) : AM mX0_addedHole (2) [.ref 23, .int a0, .int a1, .int a2] h0 4 194 (PI fun r' h' => r9 = r' ∧ HH s9 h' ∧ Mo s0 s9) := by
  unfold f_X0_addedHole at hf
  refine am_of (lv := [some (.ref 23), some (.int a0), some (.int a1), some (.int a2), none]) rfl (Nat.le_of_ble_eq_true rfl) rfl ?_
  refine aw_aload_n (pc' := 1) dX0_addedHole_0 rfl rfl rfl ?_
  refine aw_iload_n (pc' := 2) dX0_addedHole_1 rfl rfl ?_
  obtain ⟨r1, s1, ec1, hf⟩ := bd_e hf
  refine aw_callVi (M' := mX0_added) (nc' := 0) (ns' := 0) (pc' := 5) dX0_addedHole_2 rfl ml_RX0_42 kX0_added (t_X0_added H0 ec1) (H0.ob (H0.fo rfl rfl) (by decide)) rfl rfl rfl (Nat.le_of_ble_eq_true rfl) (rokD (by omega) (Nat.le_of_ble_eq_true rfl) (Nat.le_of_ble_eq_true rfl) (Nat.le_of_ble_eq_true rfl)) rfl rfl (fun _ h1 q1 => ?_)
  obtain ⟨rfl, H1, m1⟩ := q1
  refine aw_istore (lv' := [_, _, _, _, _]) (pc' := 7) dX0_addedHole_5 rfl (Nat.le_of_ble_eq_true rfl) rfl ?_
  refine aw_iload (pc' := 9) dX0_addedHole_7 rfl rfl ?_
  refine aw_zlt (tgt := 38) (pc' := 12) dX0_addedHole_9 rfl rfl (fun c2 => ?_) (fun c2 => ?_)
  · replace hf := ifp c2 hf
    refine aw_iload (pc' := 40) dX0_addedHole_38 rfl rfl ?_
    obtain ⟨rfl, rfl⟩ := so2 hf
    exact aw_ri dX0_addedHole_40 rfl rfl (Nat.le_of_ble_eq_true rfl) (Nat.le_of_ble_eq_true rfl) ⟨rfl, H1, m1⟩
  · replace hf := ifn c2 hf
    refine aw_aload_n (pc' := 13) dX0_addedHole_12 rfl rfl rfl ?_
    refine aw_gr (q := 15) (e := 5) (v := .ref 25) (pc' := 16) H1 (H1.fo rfl rfl) (l13 rfl) rfl rfl dX0_addedHole_13 rfl fl_RX0_17 ?_
    refine aw_iload (pc' := 18) dX0_addedHole_16 rfl rfl ?_
    obtain ⟨g3, hf⟩ := gd_e hf
    obtain ⟨s4, es4, hf⟩ := st_e hf
    refine aw_newG clsAll (ci := 3) (r := zL s1) (fs := [.int 0, .int 0, .int 0, .int 0, .int 0, .int 0, .int 0, .int 0, .null, .null, .null]) (nc' := 1) (ns' := 11) (pc' := 21) dX0_addedHole_18 rfl rfl cl_RX0_15 ins_RX3 ini_RX3 tyX3_ok (by decide) (fun _ => rfl) (by decide) (by decide) H1.1 rfl rfl (fun hu4 eu4 => ?_)
    subst eu4
    refine aw_dup (pc' := 22) dX0_addedHole_21 rfl rfl ?_
    refine aw_iload_n (pc' := 23) dX0_addedHole_22 rfl rfl ?_
    refine aw_iload_n (pc' := 24) dX0_addedHole_23 rfl rfl ?_
    refine aw_callIv (M' := mX3_init) (nc' := 4) (ns' := 194) (pc' := 27) dX0_addedHole_24 rfl ml_RX0_45 kX3_init (ci0_X3_init _ _ a1 a2 H1.1) rfl rfl (Nat.le_of_ble_eq_true rfl) (rokD (by omega) (Nat.le_of_ble_eq_true rfl) (Nat.le_of_ble_eq_true rfl) (Nat.le_of_ble_eq_true rfl)) rfl rfl (fun hv4 qv4 => ?_)
    subst qv4
    have HT4 := H1.hole a1 a2
    have oT4 := okH.new H1 a1 a2
    refine aw_aastG (t := 4) (q0 := (RX3, TX3, 11)) (pc' := 28) dX0_addedHole_27 rfl (HT4.arr (HT4.fa rfl rfl rfl) (by decide) (by decide)) (by decide) rfl (HT4.ob (okH.ob oT4) (by decide)) rfl (inB_vp g3) (fun h4 e4 => ?_)
    have H4 : HH s4 h4 := es4 ▸ (HT4.putR (t := 4) (HT4.fa rfl rfl rfl) (by decide) (by decide) _ _ (HT4.2.2.putH oT4) e4)
    have m4 : Mo s1 s4 := ((Mo.hole a1 a2).tr (Mo.ofR es4))
    refine aw_aload_n (pc' := 29) dX0_addedHole_28 rfl rfl rfl ?_
    refine aw_dup (pc' := 30) dX0_addedHole_29 rfl rfl ?_
    refine aw_gi (q := 15) (pc' := 33) H4 (H4.fo rfl rfl) (l13 rfl) rfl dX0_addedHole_30 rfl fl_RX0_48 ?_
    refine aw_iconst (v := 1) (pc' := 34) dX0_addedHole_33 rfl ic_1 ?_
    refine aw_iadd (pc' := 35) dX0_addedHole_34 rfl ?_
    obtain ⟨v5, ev5, hf⟩ := vl_e hf
    refine aw_topi ev5 ?_
    obtain ⟨s6, es6, hf⟩ := st_e hf
    refine aw_pi (q := 15) (pc' := 38) es6 H4 (H4.fo rfl rfl) (by decide) rfl dX0_addedHole_35 rfl fl_RX0_48 rfl (fun h6 H6 => ?_)
    have m6 := Mo.ofS es6
    refine aw_iload (pc' := 40) dX0_addedHole_38 rfl rfl ?_
    obtain ⟨rfl, rfl⟩ := so2 hf
    exact aw_ri dX0_addedHole_40 rfl rfl (Nat.le_of_ble_eq_true rfl) (Nat.le_of_ble_eq_true rfl) ⟨rfl, H6, ((m1.tr m4).tr m6)⟩
/-! ThirtyThreeBelow$Bodies.addedRefuge -/
noncomputable def f_X0_addedRefuge (s0 : SS) (a0 : Int32) (a1 : Int32) (a2 : Int32) : Option (Int32 × SS) := (bd (f_X0_added s0 6) fun r1 s1 => (if r1 < (0 : Int32) then some (r1, s1) else (st (pS s1 15 5 r1) fun s3 => (st (pS s3 15 6 a0) fun s4 => (st (pS s4 15 7 a1) fun s5 => (st (pS s5 15 8 a2) fun s6 => some (r1, s6)))))))
set_option maxRecDepth 4000 in
theorem t_X0_addedRefuge {r9 : Int32} {s0 s9 : SS} {h0 : List aE} {a0 : Int32} {a1 : Int32} {a2 : Int32} (H0 : HH s0 h0) (hf : f_X0_addedRefuge s0 a0 a1 a2 = some (r9, s9)) : AM mX0_addedRefuge (1) [.ref 23, .int a0, .int a1, .int a2] h0 0 0 (PI fun r' h' => r9 = r' ∧ HH s9 h' ∧ Mo s0 s9) := by
  unfold f_X0_addedRefuge at hf
  refine am_of (lv := [some (.ref 23), some (.int a0), some (.int a1), some (.int a2), none]) rfl (Nat.le_of_ble_eq_true rfl) rfl ?_
  refine aw_aload_n (pc' := 1) dX0_addedRefuge_0 rfl rfl rfl ?_
  refine aw_bipush (v := 6) (pc' := 3) dX0_addedRefuge_1 rfl bp_6 ?_
  obtain ⟨r1, s1, ec1, hf⟩ := bd_e hf
  refine aw_callVi (M' := mX0_added) (nc' := 0) (ns' := 0) (pc' := 6) dX0_addedRefuge_3 rfl ml_RX0_42 kX0_added (t_X0_added H0 ec1) (H0.ob (H0.fo rfl rfl) (by decide)) rfl rfl rfl (Nat.le_of_ble_eq_true rfl) (rokD (by omega) (Nat.le_of_ble_eq_true rfl) (Nat.le_of_ble_eq_true rfl) (Nat.le_of_ble_eq_true rfl)) rfl rfl (fun _ h1 q1 => ?_)
  obtain ⟨rfl, H1, m1⟩ := q1
  refine aw_istore (lv' := [_, _, _, _, _]) (pc' := 8) dX0_addedRefuge_6 rfl (Nat.le_of_ble_eq_true rfl) rfl ?_
  refine aw_iload (pc' := 10) dX0_addedRefuge_8 rfl rfl ?_
  refine aw_zlt (tgt := 34) (pc' := 13) dX0_addedRefuge_10 rfl rfl (fun c2 => ?_) (fun c2 => ?_)
  · replace hf := ifp c2 hf
    refine aw_iload (pc' := 36) dX0_addedRefuge_34 rfl rfl ?_
    obtain ⟨rfl, rfl⟩ := so2 hf
    exact aw_ri dX0_addedRefuge_36 rfl rfl (Nat.le_of_ble_eq_true rfl) (Nat.le_of_ble_eq_true rfl) ⟨rfl, H1, m1⟩
  · replace hf := ifn c2 hf
    refine aw_aload_n (pc' := 14) dX0_addedRefuge_13 rfl rfl rfl ?_
    refine aw_iload (pc' := 16) dX0_addedRefuge_14 rfl rfl ?_
    obtain ⟨s3, es3, hf⟩ := st_e hf
    refine aw_pi (q := 15) (pc' := 19) es3 H1 (H1.fo rfl rfl) (by decide) rfl dX0_addedRefuge_16 rfl fl_RX0_21 rfl (fun h3 H3 => ?_)
    have m3 := Mo.ofS es3
    refine aw_aload_n (pc' := 20) dX0_addedRefuge_19 rfl rfl rfl ?_
    refine aw_iload_n (pc' := 21) dX0_addedRefuge_20 rfl rfl ?_
    obtain ⟨s4, es4, hf⟩ := st_e hf
    refine aw_pi (q := 15) (pc' := 24) es4 H3 (H3.fo rfl rfl) (by decide) rfl dX0_addedRefuge_21 rfl fl_RX0_51 rfl (fun h4 H4 => ?_)
    have m4 := Mo.ofS es4
    refine aw_aload_n (pc' := 25) dX0_addedRefuge_24 rfl rfl rfl ?_
    refine aw_iload_n (pc' := 26) dX0_addedRefuge_25 rfl rfl ?_
    obtain ⟨s5, es5, hf⟩ := st_e hf
    refine aw_pi (q := 15) (pc' := 29) es5 H4 (H4.fo rfl rfl) (by decide) rfl dX0_addedRefuge_26 rfl fl_RX0_54 rfl (fun h5 H5 => ?_)
    have m5 := Mo.ofS es5
    refine aw_aload_n (pc' := 30) dX0_addedRefuge_29 rfl rfl rfl ?_
    refine aw_iload_n (pc' := 31) dX0_addedRefuge_30 rfl rfl ?_
    obtain ⟨s6, es6, hf⟩ := st_e hf
    refine aw_pi (q := 15) (pc' := 34) es6 H5 (H5.fo rfl rfl) (by decide) rfl dX0_addedRefuge_31 rfl fl_RX0_57 rfl (fun h6 H6 => ?_)
    have m6 := Mo.ofS es6
    refine aw_iload (pc' := 36) dX0_addedRefuge_34 rfl rfl ?_
    obtain ⟨rfl, rfl⟩ := so2 hf
    exact aw_ri dX0_addedRefuge_36 rfl rfl (Nat.le_of_ble_eq_true rfl) (Nat.le_of_ble_eq_true rfl) ⟨rfl, H6, ((((m1.tr m3).tr m4).tr m5).tr m6)⟩
/-! ThirtyThreeBelow$Bodies.isRefuge -/
noncomputable def f_X0_isRefuge (s0 : SS) (a0 : Int32) (a1 : Int32) : Option Int32 := (if (zS s0 15 5) < (0 : Int32) then some 0 else (if a1 = (zS s0 15 8) then (if a0 < (zS s0 15 6) then some 0 else (if (zS s0 15 7) < a0 then some 0 else some 1)) else some 0))
set_option maxRecDepth 4000 in
theorem t_X0_isRefuge {r9 : Int32} {s0 : SS} {h0 : List aE} {a0 : Int32} {a1 : Int32} (H0 : HH s0 h0) (hf : f_X0_isRefuge s0 a0 a1 = some r9) : AM mX0_isRefuge (0) [.ref 23, .int a0, .int a1] h0 0 0 (PI fun r' h' => r9 = r' ∧ h0 = h' ∧ (r9 = 0 ∨ r9 = 1)) := by
  unfold f_X0_isRefuge at hf
  refine am_of (lv := [some (.ref 23), some (.int a0), some (.int a1)]) rfl (Nat.le_of_ble_eq_true rfl) rfl ?_
  refine aw_aload_n (pc' := 1) dX0_isRefuge_0 rfl rfl rfl ?_
  refine aw_gi (q := 15) (pc' := 4) H0 (H0.fo rfl rfl) (l13 rfl) rfl dX0_isRefuge_1 rfl fl_RX0_21 ?_
  refine aw_zlt (tgt := 35) (pc' := 7) dX0_isRefuge_4 rfl rfl (fun c1 => ?_) (fun c1 => ?_)
  · replace hf := ifp c1 hf
    refine aw_iconst (v := 0) (pc' := 36) dX0_isRefuge_35 rfl ic_0 ?_
    obtain rfl := Option.some.inj hf
    exact aw_ri dX0_isRefuge_36 rfl (by decide) (Nat.le_of_ble_eq_true rfl) (Nat.le_of_ble_eq_true rfl) ⟨rfl, rfl, Or.inl rfl⟩
  · replace hf := ifn c1 hf
    refine aw_iload_n (pc' := 8) dX0_isRefuge_7 rfl rfl ?_
    refine aw_aload_n (pc' := 9) dX0_isRefuge_8 rfl rfl rfl ?_
    refine aw_gi (q := 15) (pc' := 12) H0 (H0.fo rfl rfl) (l13 rfl) rfl dX0_isRefuge_9 rfl fl_RX0_57 ?_
    refine aw_icmp_ne (tgt := 35) (pc' := 15) dX0_isRefuge_12 rfl rfl (fun c2 => ?_) (fun c2 => ?_)
    · replace hf := ifn c2 hf
      refine aw_iconst (v := 0) (pc' := 36) dX0_isRefuge_35 rfl ic_0 ?_
      obtain rfl := Option.some.inj hf
      exact aw_ri dX0_isRefuge_36 rfl (by decide) (Nat.le_of_ble_eq_true rfl) (Nat.le_of_ble_eq_true rfl) ⟨rfl, rfl, Or.inl rfl⟩
    · replace hf := ifp c2 hf
      refine aw_iload_n (pc' := 16) dX0_isRefuge_15 rfl rfl ?_
      refine aw_aload_n (pc' := 17) dX0_isRefuge_16 rfl rfl rfl ?_
      refine aw_gi (q := 15) (pc' := 20) H0 (H0.fo rfl rfl) (l13 rfl) rfl dX0_isRefuge_17 rfl fl_RX0_51 ?_
      refine aw_clt (tgt := 35) (pc' := 23) dX0_isRefuge_20 rfl rfl (fun c3 => ?_) (fun c3 => ?_)
      · replace hf := ifp c3 hf
        refine aw_iconst (v := 0) (pc' := 36) dX0_isRefuge_35 rfl ic_0 ?_
        obtain rfl := Option.some.inj hf
        exact aw_ri dX0_isRefuge_36 rfl (by decide) (Nat.le_of_ble_eq_true rfl) (Nat.le_of_ble_eq_true rfl) ⟨rfl, rfl, Or.inl rfl⟩
      · replace hf := ifn c3 hf
        refine aw_iload_n (pc' := 24) dX0_isRefuge_23 rfl rfl ?_
        refine aw_aload_n (pc' := 25) dX0_isRefuge_24 rfl rfl rfl ?_
        refine aw_gi (q := 15) (pc' := 28) H0 (H0.fo rfl rfl) (l13 rfl) rfl dX0_isRefuge_25 rfl fl_RX0_54 ?_
        refine aw_cgt (tgt := 35) (pc' := 31) dX0_isRefuge_28 rfl rfl (fun c4 => ?_) (fun c4 => ?_)
        · replace hf := ifp c4 hf
          refine aw_iconst (v := 0) (pc' := 36) dX0_isRefuge_35 rfl ic_0 ?_
          obtain rfl := Option.some.inj hf
          exact aw_ri dX0_isRefuge_36 rfl (by decide) (Nat.le_of_ble_eq_true rfl) (Nat.le_of_ble_eq_true rfl) ⟨rfl, rfl, Or.inl rfl⟩
        · replace hf := ifn c4 hf
          refine aw_iconst (v := 1) (pc' := 32) dX0_isRefuge_31 rfl ic_1 ?_
          refine aw_goto (tgt := 36) dX0_isRefuge_32 rfl ?_
          obtain rfl := Option.some.inj hf
          exact aw_ri dX0_isRefuge_36 rfl (by decide) (Nat.le_of_ble_eq_true rfl) (Nat.le_of_ble_eq_true rfl) ⟨rfl, rfl, Or.inr rfl⟩
/-! ThirtyThreeBelow$Bodies.ofRefuge -/
noncomputable def f_X0_ofRefuge (s0 : SS) (a0 : Int32) : Option Int32 := (if a0 = 1 then some (zS s0 15 6) else (if a0 = 2 then some (zS s0 15 7) else (if a0 = 3 then some (zS s0 15 8) else (if a0 = 4 then some (zS s0 15 9) else some (-2000000000)))))
set_option maxRecDepth 4000 in
theorem t_X0_ofRefuge {r9 : Int32} {s0 : SS} {h0 : List aE} {a0 : Int32} (H0 : HH s0 h0) (hf : f_X0_ofRefuge s0 a0 = some r9) : AM mX0_ofRefuge (0) [.ref 23, .int a0] h0 0 0 (PI fun r' h' => r9 = r' ∧ h0 = h') := by
  unfold f_X0_ofRefuge at hf
  refine am_of (lv := [some (.ref 23), some (.int a0)]) rfl (Nat.le_of_ble_eq_true rfl) rfl ?_
  refine aw_iload_n (pc' := 1) dX0_ofRefuge_0 rfl rfl ?_
  rcases Decidable.em (a0 = 1) with c1 | c1
  · replace hf := ifp c1 hf
    refine aw_tabIn (tgt := 32) (off := 31) dX0_ofRefuge_1 (by rw [c1]; decide) (by rw [c1]; decide) (by rw [c1]; decide) (by decide) ?_
    refine aw_aload_n (pc' := 33) dX0_ofRefuge_32 rfl rfl rfl ?_
    refine aw_gi (q := 15) (pc' := 36) H0 (H0.fo rfl rfl) (l13 rfl) rfl dX0_ofRefuge_33 rfl fl_RX0_51 ?_
    obtain rfl := Option.some.inj hf
    exact aw_ri dX0_ofRefuge_36 rfl rfl (Nat.le_of_ble_eq_true rfl) (Nat.le_of_ble_eq_true rfl) ⟨rfl, rfl⟩
  replace hf := ifn c1 hf
  rcases Decidable.em (a0 = 2) with c2 | c2
  · replace hf := ifp c2 hf
    refine aw_tabIn (tgt := 37) (off := 36) dX0_ofRefuge_1 (by rw [c2]; decide) (by rw [c2]; decide) (by rw [c2]; decide) (by decide) ?_
    refine aw_aload_n (pc' := 38) dX0_ofRefuge_37 rfl rfl rfl ?_
    refine aw_gi (q := 15) (pc' := 41) H0 (H0.fo rfl rfl) (l13 rfl) rfl dX0_ofRefuge_38 rfl fl_RX0_54 ?_
    obtain rfl := Option.some.inj hf
    exact aw_ri dX0_ofRefuge_41 rfl rfl (Nat.le_of_ble_eq_true rfl) (Nat.le_of_ble_eq_true rfl) ⟨rfl, rfl⟩
  replace hf := ifn c2 hf
  rcases Decidable.em (a0 = 3) with c3 | c3
  · replace hf := ifp c3 hf
    refine aw_tabIn (tgt := 42) (off := 41) dX0_ofRefuge_1 (by rw [c3]; decide) (by rw [c3]; decide) (by rw [c3]; decide) (by decide) ?_
    refine aw_aload_n (pc' := 43) dX0_ofRefuge_42 rfl rfl rfl ?_
    refine aw_gi (q := 15) (pc' := 46) H0 (H0.fo rfl rfl) (l13 rfl) rfl dX0_ofRefuge_43 rfl fl_RX0_57 ?_
    obtain rfl := Option.some.inj hf
    exact aw_ri dX0_ofRefuge_46 rfl rfl (Nat.le_of_ble_eq_true rfl) (Nat.le_of_ble_eq_true rfl) ⟨rfl, rfl⟩
  replace hf := ifn c3 hf
  rcases Decidable.em (a0 = 4) with c4 | c4
  · replace hf := ifp c4 hf
    refine aw_tabIn (tgt := 47) (off := 46) dX0_ofRefuge_1 (by rw [c4]; decide) (by rw [c4]; decide) (by rw [c4]; decide) (by decide) ?_
    refine aw_aload_n (pc' := 48) dX0_ofRefuge_47 rfl rfl rfl ?_
    refine aw_gi (q := 15) (pc' := 51) H0 (H0.fo rfl rfl) (l13 rfl) rfl dX0_ofRefuge_48 rfl fl_RX0_60 ?_
    obtain rfl := Option.some.inj hf
    exact aw_ri dX0_ofRefuge_51 rfl rfl (Nat.le_of_ble_eq_true rfl) (Nat.le_of_ble_eq_true rfl) ⟨rfl, rfl⟩
  replace hf := ifn c4 hf
  refine aw_tabOut (tgt := 52) dX0_ofRefuge_1 (by have a0 := tneK (K := 1) (by decide) c1; have a1 := tneK (K := 2) (by decide) c2; have a2 := tneK (K := 3) (by decide) c3; have a3 := tneK (K := 4) (by decide) c4; omega) (by decide) ?_
  refine aw_ldc (pc' := 54) dX0_ofRefuge_52 rfl ct_RX0_63 ?_
  obtain rfl := Option.some.inj hf
  exact aw_ri dX0_ofRefuge_54 rfl rfl (Nat.le_of_ble_eq_true rfl) (Nat.le_of_ble_eq_true rfl) ⟨rfl, rfl⟩
/-! ThirtyThreeBelow$Bodies.runs -/
noncomputable def f_X0_runs (s0 : SS) (a0 : Int32) : Option SS := (jn (fun (s1 : SS)  => (vl (((zS s1 15 11) + (1 : Int32))) fun v2 => (st (pS s1 15 11 v2) fun s3 => some s3))) fun k1 => (if (zS s0 15 11) < (24 : Int32) then (vl ((zS s0 15 11)) fun v5 => (gd (inB v5 24) (st (pI s0 18 (v5.toInt.toNat) a0) fun s7 => (k1 s7)))) else (k1 s0)))
set_option maxRecDepth 4000 in
theorem t_X0_runs {s0 s9 : SS} {h0 : List aE} {a0 : Int32} (H0 : HH s0 h0) (hf : f_X0_runs s0 a0 = some s9) : AM mX0_runs (0) [.ref 23, .int a0] h0 0 0 (PV fun h' => HH s9 h' ∧ Mo s0 s9) := by
  unfold f_X0_runs at hf
  refine am_of (lv := [some (.ref 23), some (.int a0)]) rfl (Nat.le_of_ble_eq_true rfl) rfl ?_
  refine aw_aload_n (pc' := 1) dX0_runs_0 rfl rfl rfl ?_
  refine aw_gi (q := 15) (pc' := 4) H0 (H0.fo rfl rfl) (l13 rfl) rfl dX0_runs_1 rfl fl_RX0_64 ?_
  refine aw_bipush (v := 24) (pc' := 6) dX0_runs_4 rfl bp_24 ?_
  obtain ⟨k1, ek1, hf⟩ := jn_e hf
  have hk1 : ∀ (s1 : SS) (h1 : List aE), HH s1 h1 → Mo s0 s1 → k1 s1 = some s9 → AW mX0_runs (rmD (0) 0 0) (fin (PV fun h' => HH s9 h' ∧ Mo s0 s9) 0 0) 19 [some (.ref 23), none] [] h1 0 0 := by
    intro s1 h1 H1 m1 hf
    subst ek1
    refine aw_aload_n (pc' := 20) dX0_runs_19 rfl rfl rfl ?_
    refine aw_dup (pc' := 21) dX0_runs_20 rfl rfl ?_
    refine aw_gi (q := 15) (pc' := 24) H1 (H1.fo rfl rfl) (l13 rfl) rfl dX0_runs_21 rfl fl_RX0_64 ?_
    refine aw_iconst (v := 1) (pc' := 25) dX0_runs_24 rfl ic_1 ?_
    refine aw_iadd (pc' := 26) dX0_runs_25 rfl ?_
    obtain ⟨v2, ev2, hf⟩ := vl_e hf
    refine aw_topi ev2 ?_
    obtain ⟨s3, es3, hf⟩ := st_e hf
    refine aw_pi (q := 15) (pc' := 29) es3 H1 (H1.fo rfl rfl) (by decide) rfl dX0_runs_26 rfl fl_RX0_64 rfl (fun h3 H3 => ?_)
    have m3 := Mo.ofS es3
    obtain rfl := Option.some.inj hf
    exact aw_rv dX0_runs_29 rfl (Nat.le_of_ble_eq_true rfl) (Nat.le_of_ble_eq_true rfl) ⟨H3, (m1.tr m3)⟩
  clear ek1
  refine aw_cge (tgt := 19) (pc' := 9) dX0_runs_6 rfl rfl (fun c4 => ?_) (fun c4 => ?_)
  · replace hf := ifn c4 hf
    refine AW.lv_le (lz_k (lz_d lz_0)) ?_
    exact hk1 _ _ H0 (Mo.rf _) hf
  · replace hf := ifp c4 hf
    refine aw_aload_n (pc' := 10) dX0_runs_9 rfl rfl rfl ?_
    refine aw_gr (q := 15) (e := 7) (v := .ref 26) (pc' := 13) H0 (H0.fo rfl rfl) (l13 rfl) rfl rfl dX0_runs_10 rfl fl_RX0_25 ?_
    refine aw_aload_n (pc' := 14) dX0_runs_13 rfl rfl rfl ?_
    refine aw_gi (q := 15) (pc' := 17) H0 (H0.fo rfl rfl) (l13 rfl) rfl dX0_runs_14 rfl fl_RX0_64 ?_
    refine aw_iload_n (pc' := 18) dX0_runs_17 rfl rfl ?_
    obtain ⟨v5, ev5, hf⟩ := vl_e hf
    refine aw_sndi ev5 ?_
    obtain ⟨g6, hf⟩ := gd_e hf
    obtain ⟨s7, es7, hf⟩ := st_e hf
    refine aw_is (q := 18) (pc' := 19) es7 H0 (H0.fa rfl rfl rfl) g6 dX0_runs_18 rfl (fun h7 H7 => ?_)
    have m7 := Mo.ofI es7
    refine AW.lv_le (lz_k (lz_d lz_0)) ?_
    exact hk1 _ _ H7 m7 hf
/-! ThirtyThreeBelow$Bodies.boresFrom -/
noncomputable def f_X0_boresFrom_r (rec : SS → Int32 → Int32 → Int32 → Int32 → Option (Int32 × SS)) (s0 : SS) (a0 : Int32) (a1 : Int32) (a2 : Int32) (a3 : Int32) : Option (Int32 × SS) := (if (40 : Int32) < a3 then some (0, s0) else (jn ((b1 (f_X0_runs s0 20) fun s3 => (bd (rec s3 0 a1 a2 (a3 + (1 : Int32))) fun r4 s4 => some ((r4 * (2 : Int32)), s4)))) fun k2 => (if a0 = 1 then k2 else (if a0 = 2 then k2 else (if a0 = 3 then k2 else (if a0 = 4 then (b1 (f_X0_runs s0 50) fun s10 => (bd (rec s10 2 a1 (a2 + (1 : Int32)) (a3 + (1 : Int32))) fun r11 s11 => some (r11, s11))) else (if a0 = 5 then (b1 (f_X0_runs s0 61) fun s13 => (bd (rec s13 4 a1 a2 (a3 + (1 : Int32))) fun r14 s14 => some ((r14 ^^^ (7 : Int32)), s14))) else (if a0 = 6 then k2 else (b1 (f_X0_runs s0 1) fun s16 => some ((a2 + a1), s16))))))))))
set_option maxRecDepth 4000 in
theorem t_X0_boresFrom_r {Dr : Nat} {rec : SS → Int32 → Int32 → Int32 → Int32 → Option (Int32 × SS)} (hrec : ∀ {r9 : Int32} {s0 s9 : SS} {h0 : List aE} {a0 : Int32} {a1 : Int32} {a2 : Int32} {a3 : Int32}, HH s0 h0 → rec s0 a0 a1 a2 a3 = some (r9, s9) → AM mX0_boresFrom Dr [.ref 23, .int a0, .int a1, .int a2, .int a3] h0 0 0 (PI fun r' h' => r9 = r' ∧ HH s9 h' ∧ Mo s0 s9)) {r9 : Int32} {s0 s9 : SS} {h0 : List aE} {a0 : Int32} {a1 : Int32} {a2 : Int32} {a3 : Int32} (H0 : HH s0 h0) (hf : f_X0_boresFrom_r rec s0 a0 a1 a2 a3 = some (r9, s9)) : AM mX0_boresFrom (Dr + 1) [.ref 23, .int a0, .int a1, .int a2, .int a3] h0 0 0 (PI fun r' h' => r9 = r' ∧ HH s9 h' ∧ Mo s0 s9) := by
  unfold f_X0_boresFrom_r at hf
  refine am_of (lv := [some (.ref 23), some (.int a0), some (.int a1), some (.int a2), some (.int a3)]) rfl (Nat.le_of_ble_eq_true rfl) rfl ?_
  refine aw_iload (pc' := 2) dX0_boresFrom_0 rfl rfl ?_
  refine aw_bipush (v := 40) (pc' := 4) dX0_boresFrom_2 rfl bp_40 ?_
  refine aw_cle (tgt := 9) (pc' := 7) dX0_boresFrom_4 rfl rfl (fun c1 => ?_) (fun c1 => ?_)
  · replace hf := ifn c1 hf
    refine aw_iload_n (pc' := 10) dX0_boresFrom_9 rfl rfl ?_
    obtain ⟨k2, ek2, hf⟩ := jn_e hf
    have hk2 : k2 = some (r9, s9) → AW mX0_boresFrom (rmD (Dr + 1) 0 0) (fin (PI fun r' h' => r9 = r' ∧ HH s9 h' ∧ Mo s0 s9) 0 0) 89 [some (.ref 23), none, some (.int a1), some (.int a2), some (.int a3)] [] h0 0 0 := by
      intro hf
      subst ek2
      refine aw_aload_n (pc' := 90) dX0_boresFrom_89 rfl rfl rfl ?_
      refine aw_bipush (v := 20) (pc' := 92) dX0_boresFrom_90 rfl bp_20 ?_
      obtain ⟨s3, ec3, hf⟩ := b1_e hf
      refine aw_callVv (M' := mX0_runs) (nc' := 0) (ns' := 0) (pc' := 95) dX0_boresFrom_92 rfl ml_RX0_80 kX0_runs (t_X0_runs H0 ec3) (H0.ob (H0.fo rfl rfl) (by decide)) rfl rfl rfl (Nat.le_of_ble_eq_true rfl) (rokD (by omega) (Nat.le_of_ble_eq_true rfl) (Nat.le_of_ble_eq_true rfl) (Nat.le_of_ble_eq_true rfl)) rfl rfl (fun h3 q3 => ?_)
      obtain ⟨H3, m3⟩ := q3
      refine aw_aload_n (pc' := 96) dX0_boresFrom_95 rfl rfl rfl ?_
      refine aw_iconst (v := 0) (pc' := 97) dX0_boresFrom_96 rfl ic_0 ?_
      refine aw_iload_n (pc' := 98) dX0_boresFrom_97 rfl rfl ?_
      refine aw_iload_n (pc' := 99) dX0_boresFrom_98 rfl rfl ?_
      refine aw_iload (pc' := 101) dX0_boresFrom_99 rfl rfl ?_
      refine aw_iconst (v := 1) (pc' := 102) dX0_boresFrom_101 rfl ic_1 ?_
      refine aw_iadd (pc' := 103) dX0_boresFrom_102 rfl ?_
      obtain ⟨r4, s4, ec4, hf⟩ := bd_e hf
      refine aw_callVi (M' := mX0_boresFrom) (nc' := 0) (ns' := 0) (pc' := 106) dX0_boresFrom_103 rfl ml_RX0_67 kX0_boresFrom (hrec H3 ec4) (H3.ob (H3.fo rfl rfl) (by decide)) rfl rfl rfl (Nat.le_of_ble_eq_true rfl) (rokD (by omega) (Nat.le_of_ble_eq_true rfl) (Nat.le_of_ble_eq_true rfl) (Nat.le_of_ble_eq_true rfl)) rfl rfl (fun _ h4 q4 => ?_)
      obtain ⟨rfl, H4, m4⟩ := q4
      refine aw_iconst (v := 2) (pc' := 107) dX0_boresFrom_106 rfl ic_2 ?_
      refine aw_imul (pc' := 108) dX0_boresFrom_107 rfl ?_
      obtain ⟨rfl, rfl⟩ := so2 hf
      exact aw_ri dX0_boresFrom_108 rfl rfl (Nat.le_of_ble_eq_true rfl) (Nat.le_of_ble_eq_true rfl) ⟨rfl, H4, (m3.tr m4)⟩
    clear ek2
    rcases Decidable.em (a0 = 1) with c5 | c5
    · replace hf := ifp c5 hf
      refine aw_tabIn (tgt := 89) (off := 79) dX0_boresFrom_10 (by rw [c5]; decide) (by rw [c5]; decide) (by rw [c5]; decide) (by decide) ?_
      refine AW.lv_le (lz_k (lz_d (lz_k (lz_k (lz_k lz_0))))) ?_
      exact hk2  hf
    replace hf := ifn c5 hf
    rcases Decidable.em (a0 = 2) with c6 | c6
    · replace hf := ifp c6 hf
      refine aw_tabIn (tgt := 89) (off := 79) dX0_boresFrom_10 (by rw [c6]; decide) (by rw [c6]; decide) (by rw [c6]; decide) (by decide) ?_
      refine AW.lv_le (lz_k (lz_d (lz_k (lz_k (lz_k lz_0))))) ?_
      exact hk2  hf
    replace hf := ifn c6 hf
    rcases Decidable.em (a0 = 3) with c7 | c7
    · replace hf := ifp c7 hf
      refine aw_tabIn (tgt := 89) (off := 79) dX0_boresFrom_10 (by rw [c7]; decide) (by rw [c7]; decide) (by rw [c7]; decide) (by decide) ?_
      refine AW.lv_le (lz_k (lz_d (lz_k (lz_k (lz_k lz_0))))) ?_
      exact hk2  hf
    replace hf := ifn c7 hf
    rcases Decidable.em (a0 = 4) with c8 | c8
    · replace hf := ifp c8 hf
      refine aw_tabIn (tgt := 69) (off := 59) dX0_boresFrom_10 (by rw [c8]; decide) (by rw [c8]; decide) (by rw [c8]; decide) (by decide) ?_
      refine aw_aload_n (pc' := 70) dX0_boresFrom_69 rfl rfl rfl ?_
      refine aw_bipush (v := 50) (pc' := 72) dX0_boresFrom_70 rfl bp_50 ?_
      obtain ⟨s10, ec10, hf⟩ := b1_e hf
      refine aw_callVv (M' := mX0_runs) (nc' := 0) (ns' := 0) (pc' := 75) dX0_boresFrom_72 rfl ml_RX0_80 kX0_runs (t_X0_runs H0 ec10) (H0.ob (H0.fo rfl rfl) (by decide)) rfl rfl rfl (Nat.le_of_ble_eq_true rfl) (rokD (by omega) (Nat.le_of_ble_eq_true rfl) (Nat.le_of_ble_eq_true rfl) (Nat.le_of_ble_eq_true rfl)) rfl rfl (fun h10 q10 => ?_)
      obtain ⟨H10, m10⟩ := q10
      refine aw_aload_n (pc' := 76) dX0_boresFrom_75 rfl rfl rfl ?_
      refine aw_iconst (v := 2) (pc' := 77) dX0_boresFrom_76 rfl ic_2 ?_
      refine aw_iload_n (pc' := 78) dX0_boresFrom_77 rfl rfl ?_
      refine aw_iload_n (pc' := 79) dX0_boresFrom_78 rfl rfl ?_
      refine aw_iconst (v := 1) (pc' := 80) dX0_boresFrom_79 rfl ic_1 ?_
      refine aw_iadd (pc' := 81) dX0_boresFrom_80 rfl ?_
      refine aw_iload (pc' := 83) dX0_boresFrom_81 rfl rfl ?_
      refine aw_iconst (v := 1) (pc' := 84) dX0_boresFrom_83 rfl ic_1 ?_
      refine aw_iadd (pc' := 85) dX0_boresFrom_84 rfl ?_
      obtain ⟨r11, s11, ec11, hf⟩ := bd_e hf
      refine aw_callVi (M' := mX0_boresFrom) (nc' := 0) (ns' := 0) (pc' := 88) dX0_boresFrom_85 rfl ml_RX0_67 kX0_boresFrom (hrec H10 ec11) (H10.ob (H10.fo rfl rfl) (by decide)) rfl rfl rfl (Nat.le_of_ble_eq_true rfl) (rokD (by omega) (Nat.le_of_ble_eq_true rfl) (Nat.le_of_ble_eq_true rfl) (Nat.le_of_ble_eq_true rfl)) rfl rfl (fun _ h11 q11 => ?_)
      obtain ⟨rfl, H11, m11⟩ := q11
      obtain ⟨rfl, rfl⟩ := so2 hf
      exact aw_ri dX0_boresFrom_88 rfl rfl (Nat.le_of_ble_eq_true rfl) (Nat.le_of_ble_eq_true rfl) ⟨rfl, H11, (m10.tr m11)⟩
    replace hf := ifn c8 hf
    rcases Decidable.em (a0 = 5) with c12 | c12
    · replace hf := ifp c12 hf
      refine aw_tabIn (tgt := 48) (off := 38) dX0_boresFrom_10 (by rw [c12]; decide) (by rw [c12]; decide) (by rw [c12]; decide) (by decide) ?_
      refine aw_aload_n (pc' := 49) dX0_boresFrom_48 rfl rfl rfl ?_
      refine aw_bipush (v := 61) (pc' := 51) dX0_boresFrom_49 rfl bp_61 ?_
      obtain ⟨s13, ec13, hf⟩ := b1_e hf
      refine aw_callVv (M' := mX0_runs) (nc' := 0) (ns' := 0) (pc' := 54) dX0_boresFrom_51 rfl ml_RX0_80 kX0_runs (t_X0_runs H0 ec13) (H0.ob (H0.fo rfl rfl) (by decide)) rfl rfl rfl (Nat.le_of_ble_eq_true rfl) (rokD (by omega) (Nat.le_of_ble_eq_true rfl) (Nat.le_of_ble_eq_true rfl) (Nat.le_of_ble_eq_true rfl)) rfl rfl (fun h13 q13 => ?_)
      obtain ⟨H13, m13⟩ := q13
      refine aw_aload_n (pc' := 55) dX0_boresFrom_54 rfl rfl rfl ?_
      refine aw_iconst (v := 4) (pc' := 56) dX0_boresFrom_55 rfl ic_4 ?_
      refine aw_iload_n (pc' := 57) dX0_boresFrom_56 rfl rfl ?_
      refine aw_iload_n (pc' := 58) dX0_boresFrom_57 rfl rfl ?_
      refine aw_iload (pc' := 60) dX0_boresFrom_58 rfl rfl ?_
      refine aw_iconst (v := 1) (pc' := 61) dX0_boresFrom_60 rfl ic_1 ?_
      refine aw_iadd (pc' := 62) dX0_boresFrom_61 rfl ?_
      obtain ⟨r14, s14, ec14, hf⟩ := bd_e hf
      refine aw_callVi (M' := mX0_boresFrom) (nc' := 0) (ns' := 0) (pc' := 65) dX0_boresFrom_62 rfl ml_RX0_67 kX0_boresFrom (hrec H13 ec14) (H13.ob (H13.fo rfl rfl) (by decide)) rfl rfl rfl (Nat.le_of_ble_eq_true rfl) (rokD (by omega) (Nat.le_of_ble_eq_true rfl) (Nat.le_of_ble_eq_true rfl) (Nat.le_of_ble_eq_true rfl)) rfl rfl (fun _ h14 q14 => ?_)
      obtain ⟨rfl, H14, m14⟩ := q14
      refine aw_bipush (v := 7) (pc' := 67) dX0_boresFrom_65 rfl bp_7 ?_
      refine aw_ixor (pc' := 68) dX0_boresFrom_67 rfl ?_
      obtain ⟨rfl, rfl⟩ := so2 hf
      exact aw_ri dX0_boresFrom_68 rfl rfl (Nat.le_of_ble_eq_true rfl) (Nat.le_of_ble_eq_true rfl) ⟨rfl, H14, (m13.tr m14)⟩
    replace hf := ifn c12 hf
    rcases Decidable.em (a0 = 6) with c15 | c15
    · replace hf := ifp c15 hf
      refine aw_tabIn (tgt := 89) (off := 79) dX0_boresFrom_10 (by rw [c15]; decide) (by rw [c15]; decide) (by rw [c15]; decide) (by decide) ?_
      refine AW.lv_le (lz_k (lz_d (lz_k (lz_k (lz_k lz_0))))) ?_
      exact hk2  hf
    replace hf := ifn c15 hf
    refine aw_tabOut (tgt := 109) dX0_boresFrom_10 (by have a0 := tneK (K := 1) (by decide) c5; have a1 := tneK (K := 2) (by decide) c6; have a2 := tneK (K := 3) (by decide) c7; have a3 := tneK (K := 4) (by decide) c8; have a4 := tneK (K := 5) (by decide) c12; have a5 := tneK (K := 6) (by decide) c15; omega) (by decide) ?_
    refine aw_aload_n (pc' := 110) dX0_boresFrom_109 rfl rfl rfl ?_
    refine aw_iconst (v := 1) (pc' := 111) dX0_boresFrom_110 rfl ic_1 ?_
    obtain ⟨s16, ec16, hf⟩ := b1_e hf
    refine aw_callVv (M' := mX0_runs) (nc' := 0) (ns' := 0) (pc' := 114) dX0_boresFrom_111 rfl ml_RX0_80 kX0_runs (t_X0_runs H0 ec16) (H0.ob (H0.fo rfl rfl) (by decide)) rfl rfl rfl (Nat.le_of_ble_eq_true rfl) (rokD (by omega) (Nat.le_of_ble_eq_true rfl) (Nat.le_of_ble_eq_true rfl) (Nat.le_of_ble_eq_true rfl)) rfl rfl (fun h16 q16 => ?_)
    obtain ⟨H16, m16⟩ := q16
    refine aw_iload_n (pc' := 115) dX0_boresFrom_114 rfl rfl ?_
    refine aw_iload_n (pc' := 116) dX0_boresFrom_115 rfl rfl ?_
    refine aw_iadd (pc' := 117) dX0_boresFrom_116 rfl ?_
    obtain ⟨rfl, rfl⟩ := so2 hf
    exact aw_ri dX0_boresFrom_117 rfl rfl (Nat.le_of_ble_eq_true rfl) (Nat.le_of_ble_eq_true rfl) ⟨rfl, H16, m16⟩
  · replace hf := ifp c1 hf
    refine aw_iconst (v := 0) (pc' := 8) dX0_boresFrom_7 rfl ic_0 ?_
    obtain ⟨rfl, rfl⟩ := so2 hf
    exact aw_ri dX0_boresFrom_8 rfl rfl (Nat.le_of_ble_eq_true rfl) (Nat.le_of_ble_eq_true rfl) ⟨rfl, H0, (Mo.rf _)⟩
noncomputable def f_X0_boresFrom : Nat → SS → Int32 → Int32 → Int32 → Int32 → Option (Int32 × SS)
  | 0, _, _, _, _, _ => none
  | n + 1, s0, a0, a1, a2, a3 => f_X0_boresFrom_r (f_X0_boresFrom n) s0 a0 a1 a2 a3
set_option maxRecDepth 4000 in
theorem t_X0_boresFrom : ∀ (n : Nat) {r9 : Int32} {s0 s9 : SS} {h0 : List aE} {a0 : Int32} {a1 : Int32} {a2 : Int32} {a3 : Int32}, HH s0 h0 → f_X0_boresFrom n s0 a0 a1 a2 a3 = some (r9, s9) → AM mX0_boresFrom (1 * n) [.ref 23, .int a0, .int a1, .int a2, .int a3] h0 0 0 (PI fun r' h' => r9 = r' ∧ HH s9 h' ∧ Mo s0 s9) := by
  intro n
  induction n with
  | zero =>
    intro r9 s0 s9 h0 a0 a1 a2 a3 H0 hf
    cases hf
  | succ n ih =>
    intro r9 s0 s9 h0 a0 a1 a2 a3 H0 hf
    exact t_X0_boresFrom_r (Dr := 1 * n) ih H0 hf
/-! ThirtyThreeBelow$Bodies.strengthOf -/
noncomputable def f_X0_strengthOf (s0 : SS) (a0 : Int32) : Option Int32 := (b1 (f_X0_kindOf s0 a0) fun r1 => (if r1 = (7 : Int32) then (gd (inB a0 120) (some (zI s0 7 (a0.toInt.toNat)))) else some 0))
set_option maxRecDepth 4000 in
theorem t_X0_strengthOf {r9 : Int32} {s0 : SS} {h0 : List aE} {a0 : Int32} (H0 : HH s0 h0) (hf : f_X0_strengthOf s0 a0 = some r9) : AM mX0_strengthOf (1) [.ref 23, .int a0] h0 0 0 (PI fun r' h' => r9 = r' ∧ h0 = h') := by
  unfold f_X0_strengthOf at hf
  refine am_of (lv := [some (.ref 23), some (.int a0)]) rfl (Nat.le_of_ble_eq_true rfl) rfl ?_
  refine aw_aload_n (pc' := 1) dX0_strengthOf_0 rfl rfl rfl ?_
  refine aw_iload_n (pc' := 2) dX0_strengthOf_1 rfl rfl ?_
  obtain ⟨r1, ec1, hf⟩ := b1_e hf
  refine aw_callVi (M' := mX0_kindOf) (nc' := 0) (ns' := 0) (pc' := 5) dX0_strengthOf_2 rfl ml_RX0_35 kX0_kindOf (t_X0_kindOf H0 ec1) (H0.ob (H0.fo rfl rfl) (by decide)) rfl rfl rfl (Nat.le_of_ble_eq_true rfl) (rokD (by omega) (Nat.le_of_ble_eq_true rfl) (Nat.le_of_ble_eq_true rfl) (Nat.le_of_ble_eq_true rfl)) rfl rfl (fun _ h1 q1 => ?_)
  obtain ⟨rfl, rfl⟩ := q1
  refine aw_bipush (v := 7) (pc' := 7) dX0_strengthOf_5 rfl bp_7 ?_
  refine aw_icmp_ne (tgt := 22) (pc' := 10) dX0_strengthOf_7 rfl rfl (fun c2 => ?_) (fun c2 => ?_)
  · replace hf := ifn c2 hf
    refine aw_iconst (v := 0) (pc' := 23) dX0_strengthOf_22 rfl ic_0 ?_
    obtain rfl := Option.some.inj hf
    exact aw_ri dX0_strengthOf_23 rfl rfl (Nat.le_of_ble_eq_true rfl) (Nat.le_of_ble_eq_true rfl) ⟨rfl, rfl⟩
  · replace hf := ifp c2 hf
    refine aw_aload_n (pc' := 11) dX0_strengthOf_10 rfl rfl rfl ?_
    refine aw_gr (q := 15) (e := 14) (v := .ref 14) (pc' := 14) H0 (H0.fo rfl rfl) (l13 rfl) rfl rfl dX0_strengthOf_11 rfl fl_RX0_28 ?_
    refine aw_gr (q := 6) (e := 3) (v := .ref 15) (pc' := 17) H0 (H0.fo rfl rfl) (l13 rfl) rfl rfl dX0_strengthOf_14 rfl fl_RX0_97 ?_
    refine aw_iload_n (pc' := 18) dX0_strengthOf_17 rfl rfl ?_
    obtain ⟨g3, hf⟩ := gd_e hf
    refine aw_ia (q := 7) (pc' := 19) H0 (H0.fa rfl rfl rfl) g3 dX0_strengthOf_18 rfl ?_
    refine aw_goto (tgt := 23) dX0_strengthOf_19 rfl ?_
    obtain rfl := Option.some.inj hf
    exact aw_ri dX0_strengthOf_23 rfl rfl (Nat.le_of_ble_eq_true rfl) (Nat.le_of_ble_eq_true rfl) ⟨rfl, rfl⟩
/-! ThirtyThreeBelow$Bodies.widthOf -/
noncomputable def f_X0_widthOf (s0 : SS) (a0 : Int32) : Option Int32 := (b1 (f_X0_holeOf s0 a0) fun r1 => (on r1 (some 0) fun p1 => some (zS s0 p1 1)))
set_option maxRecDepth 4000 in
theorem t_X0_widthOf {r9 : Int32} {s0 : SS} {h0 : List aE} {a0 : Int32} (H0 : HH s0 h0) (hf : f_X0_widthOf s0 a0 = some r9) : AM mX0_widthOf (1) [.ref 23, .int a0] h0 0 0 (PI fun r' h' => r9 = r' ∧ h0 = h') := by
  unfold f_X0_widthOf at hf
  refine am_of (lv := [some (.ref 23), some (.int a0), none]) rfl (Nat.le_of_ble_eq_true rfl) rfl ?_
  refine aw_aload_n (pc' := 1) dX0_widthOf_0 rfl rfl rfl ?_
  refine aw_iload_n (pc' := 2) dX0_widthOf_1 rfl rfl ?_
  obtain ⟨r1, ec1, hf⟩ := b1_e hf
  replace hf := on_e hf
  rcases hf with ⟨rfl, hf⟩ | ⟨p1, rfl, hf⟩
  · refine aw_callVa (M' := mX0_holeOf) (nc' := 0) (ns' := 0) (pc' := 5) dX0_widthOf_2 rfl ml_RX0_90 kX0_holeOf (t_X0_holeOf H0 ec1) (H0.ob (H0.fo rfl rfl) (by decide)) rfl rfl rfl (Nat.le_of_ble_eq_true rfl) (rokD (by omega) (Nat.le_of_ble_eq_true rfl) (Nat.le_of_ble_eq_true rfl) (Nat.le_of_ble_eq_true rfl)) rfl rfl (fun _ h1 q1 => ?_)
    obtain ⟨rfl, rfl, oo1⟩ := q1
    show AW _ _ _ _ _ (Value.null :: _) _ _ _
    refine aw_astore_n (lv' := [_, _, _]) (pc' := 6) dX0_widthOf_5 rfl (Nat.le_of_ble_eq_true rfl) rfl rfl ?_
    refine aw_aload_n (pc' := 7) dX0_widthOf_6 rfl rfl rfl ?_
    refine aw_ifnonnull_n (pc' := 10) dX0_widthOf_7 rfl ?_
    refine aw_iconst (v := 0) (pc' := 11) dX0_widthOf_10 rfl ic_0 ?_
    refine aw_goto (tgt := 18) dX0_widthOf_11 rfl ?_
    obtain rfl := Option.some.inj hf
    exact aw_ri dX0_widthOf_18 rfl rfl (Nat.le_of_ble_eq_true rfl) (Nat.le_of_ble_eq_true rfl) ⟨rfl, rfl⟩
  · refine aw_callVa (M' := mX0_holeOf) (nc' := 0) (ns' := 0) (pc' := 5) dX0_widthOf_2 rfl ml_RX0_90 kX0_holeOf (t_X0_holeOf H0 ec1) (H0.ob (H0.fo rfl rfl) (by decide)) rfl rfl rfl (Nat.le_of_ble_eq_true rfl) (rokD (by omega) (Nat.le_of_ble_eq_true rfl) (Nat.le_of_ble_eq_true rfl) (Nat.le_of_ble_eq_true rfl)) rfl rfl (fun _ h1 q1 => ?_)
    obtain ⟨rfl, rfl, oo1⟩ := q1
    show AW _ _ _ _ _ (Value.ref (p1 + 8) :: _) _ _ _
    have o_p1 : okH s0 p1 := oo1 _ rfl
    refine aw_astore_n (lv' := [_, _, _]) (pc' := 6) dX0_widthOf_5 rfl (Nat.le_of_ble_eq_true rfl) rfl rfl ?_
    refine aw_aload_n (pc' := 7) dX0_widthOf_6 rfl rfl rfl ?_
    refine aw_ifnonnull_r (tgt := 14) dX0_widthOf_7 (by decide) ?_
    refine aw_aload_n (pc' := 15) dX0_widthOf_14 rfl rfl rfl ?_
    refine aw_gi (q := p1) (pc' := 18) H0 (okH.ob o_p1) (by decide) rfl dX0_widthOf_15 rfl fl_RX0_94 ?_
    obtain rfl := Option.some.inj hf
    exact aw_ri dX0_widthOf_18 rfl rfl (Nat.le_of_ble_eq_true rfl) (Nat.le_of_ble_eq_true rfl) ⟨rfl, rfl⟩
/-! ThirtyThreeBelow$Bodies.carriesFrom -/
noncomputable def f_X0_carriesFrom_r (rec : SS → Int32 → Int32 → Int32 → Int32 → Option (Int32 × SS)) (s0 : SS) (a0 : Int32) (a1 : Int32) (a2 : Int32) (a3 : Int32) : Option (Int32 × SS) := (if (40 : Int32) < a3 then some (0, s0) else (jn ((b1 (f_X0_runs s0 30) fun s3 => (bd (rec s3 1 a1 a2 (a3 + (1 : Int32))) fun r4 s4 => (b1 (f_X0_widthOf s4 a1) fun r5 => some ((r4 + r5), s4))))) fun k2 => (jn ((b1 (f_X0_runs s0 10) fun s7 => (b1 (f_X0_kindOf s7 a1) fun r8 => (bd (f_X0_boresFrom 8 s7 r8 a1 a2 (a3 + (1 : Int32))) fun r10 s10 => some ((r10 - (1 : Int32)), s10))))) fun k6 => (if a0 = 2 then k2 else (if a0 = 3 then k2 else (if a0 = 4 then k2 else (if a0 = 5 then k2 else (if a0 = 6 then k6 else (if a0 = 7 then (b1 (f_X0_runs s0 80) fun s17 => (bd (rec s17 0 a1 a2 (a3 + (1 : Int32))) fun r18 s18 => (b1 (f_X0_strengthOf s18 a1) fun r19 => some ((r18 - r19), s18)))) else k6)))))))))
set_option maxRecDepth 4000 in
theorem t_X0_carriesFrom_r {Dr : Nat} {rec : SS → Int32 → Int32 → Int32 → Int32 → Option (Int32 × SS)} (hD : 9 ≤ Dr + 1) (hrec : ∀ {r9 : Int32} {s0 s9 : SS} {h0 : List aE} {a0 : Int32} {a1 : Int32} {a2 : Int32} {a3 : Int32}, HH s0 h0 → rec s0 a0 a1 a2 a3 = some (r9, s9) → AM mX0_carriesFrom Dr [.ref 23, .int a0, .int a1, .int a2, .int a3] h0 0 0 (PI fun r' h' => r9 = r' ∧ HH s9 h' ∧ Mo s0 s9)) {r9 : Int32} {s0 s9 : SS} {h0 : List aE} {a0 : Int32} {a1 : Int32} {a2 : Int32} {a3 : Int32} (H0 : HH s0 h0) (hf : f_X0_carriesFrom_r rec s0 a0 a1 a2 a3 = some (r9, s9)) : AM mX0_carriesFrom (Dr + 1) [.ref 23, .int a0, .int a1, .int a2, .int a3] h0 0 0 (PI fun r' h' => r9 = r' ∧ HH s9 h' ∧ Mo s0 s9) := by
  unfold f_X0_carriesFrom_r at hf
  refine am_of (lv := [some (.ref 23), some (.int a0), some (.int a1), some (.int a2), some (.int a3)]) rfl (Nat.le_of_ble_eq_true rfl) rfl ?_
  refine aw_iload (pc' := 2) dX0_carriesFrom_0 rfl rfl ?_
  refine aw_bipush (v := 40) (pc' := 4) dX0_carriesFrom_2 rfl bp_40 ?_
  refine aw_cle (tgt := 9) (pc' := 7) dX0_carriesFrom_4 rfl rfl (fun c1 => ?_) (fun c1 => ?_)
  · replace hf := ifn c1 hf
    refine aw_iload_n (pc' := 10) dX0_carriesFrom_9 rfl rfl ?_
    obtain ⟨k2, ek2, hf⟩ := jn_e hf
    have hk2 : k2 = some (r9, s9) → AW mX0_carriesFrom (rmD (Dr + 1) 0 0) (fin (PI fun r' h' => r9 = r' ∧ HH s9 h' ∧ Mo s0 s9) 0 0) 48 [some (.ref 23), none, some (.int a1), some (.int a2), some (.int a3)] [] h0 0 0 := by
      intro hf
      subst ek2
      refine aw_aload_n (pc' := 49) dX0_carriesFrom_48 rfl rfl rfl ?_
      refine aw_bipush (v := 30) (pc' := 51) dX0_carriesFrom_49 rfl bp_30 ?_
      obtain ⟨s3, ec3, hf⟩ := b1_e hf
      refine aw_callVv (M' := mX0_runs) (nc' := 0) (ns' := 0) (pc' := 54) dX0_carriesFrom_51 rfl ml_RX0_80 kX0_runs (t_X0_runs H0 ec3) (H0.ob (H0.fo rfl rfl) (by decide)) rfl rfl rfl (Nat.le_of_ble_eq_true rfl) (rokD (by omega) (Nat.le_of_ble_eq_true rfl) (Nat.le_of_ble_eq_true rfl) (Nat.le_of_ble_eq_true rfl)) rfl rfl (fun h3 q3 => ?_)
      obtain ⟨H3, m3⟩ := q3
      refine aw_aload_n (pc' := 55) dX0_carriesFrom_54 rfl rfl rfl ?_
      refine aw_iconst (v := 1) (pc' := 56) dX0_carriesFrom_55 rfl ic_1 ?_
      refine aw_iload_n (pc' := 57) dX0_carriesFrom_56 rfl rfl ?_
      refine aw_iload_n (pc' := 58) dX0_carriesFrom_57 rfl rfl ?_
      refine aw_iload (pc' := 60) dX0_carriesFrom_58 rfl rfl ?_
      refine aw_iconst (v := 1) (pc' := 61) dX0_carriesFrom_60 rfl ic_1 ?_
      refine aw_iadd (pc' := 62) dX0_carriesFrom_61 rfl ?_
      obtain ⟨r4, s4, ec4, hf⟩ := bd_e hf
      refine aw_callVi (M' := mX0_carriesFrom) (nc' := 0) (ns' := 0) (pc' := 65) dX0_carriesFrom_62 rfl ml_RX0_71 kX0_carriesFrom (hrec H3 ec4) (H3.ob (H3.fo rfl rfl) (by decide)) rfl rfl rfl (Nat.le_of_ble_eq_true rfl) (rokD (by omega) (Nat.le_of_ble_eq_true rfl) (Nat.le_of_ble_eq_true rfl) (Nat.le_of_ble_eq_true rfl)) rfl rfl (fun _ h4 q4 => ?_)
      obtain ⟨rfl, H4, m4⟩ := q4
      refine aw_aload_n (pc' := 66) dX0_carriesFrom_65 rfl rfl rfl ?_
      refine aw_iload_n (pc' := 67) dX0_carriesFrom_66 rfl rfl ?_
      obtain ⟨r5, ec5, hf⟩ := b1_e hf
      refine aw_callVi (M' := mX0_widthOf) (nc' := 0) (ns' := 0) (pc' := 70) dX0_carriesFrom_67 rfl ml_RX0_84 kX0_widthOf (t_X0_widthOf H4 ec5) (H4.ob (H4.fo rfl rfl) (by decide)) rfl rfl rfl (Nat.le_of_ble_eq_true rfl) (rokD (by omega) (Nat.le_of_ble_eq_true rfl) (Nat.le_of_ble_eq_true rfl) (Nat.le_of_ble_eq_true rfl)) rfl rfl (fun _ h5 q5 => ?_)
      obtain ⟨rfl, rfl⟩ := q5
      refine aw_iadd (pc' := 71) dX0_carriesFrom_70 rfl ?_
      obtain ⟨rfl, rfl⟩ := so2 hf
      exact aw_ri dX0_carriesFrom_71 rfl rfl (Nat.le_of_ble_eq_true rfl) (Nat.le_of_ble_eq_true rfl) ⟨rfl, H4, (m3.tr m4)⟩
    clear ek2
    obtain ⟨k6, ek6, hf⟩ := jn_e hf
    have hk6 : k6 = some (r9, s9) → AW mX0_carriesFrom (rmD (Dr + 1) 0 0) (fin (PI fun r' h' => r9 = r' ∧ HH s9 h' ∧ Mo s0 s9) 0 0) 96 [some (.ref 23), none, some (.int a1), some (.int a2), some (.int a3)] [] h0 0 0 := by
      intro hf
      subst ek6
      refine aw_aload_n (pc' := 97) dX0_carriesFrom_96 rfl rfl rfl ?_
      refine aw_bipush (v := 10) (pc' := 99) dX0_carriesFrom_97 rfl bp_10 ?_
      obtain ⟨s7, ec7, hf⟩ := b1_e hf
      refine aw_callVv (M' := mX0_runs) (nc' := 0) (ns' := 0) (pc' := 102) dX0_carriesFrom_99 rfl ml_RX0_80 kX0_runs (t_X0_runs H0 ec7) (H0.ob (H0.fo rfl rfl) (by decide)) rfl rfl rfl (Nat.le_of_ble_eq_true rfl) (rokD (by omega) (Nat.le_of_ble_eq_true rfl) (Nat.le_of_ble_eq_true rfl) (Nat.le_of_ble_eq_true rfl)) rfl rfl (fun h7 q7 => ?_)
      obtain ⟨H7, m7⟩ := q7
      refine aw_aload_n (pc' := 103) dX0_carriesFrom_102 rfl rfl rfl ?_
      refine aw_aload_n (pc' := 104) dX0_carriesFrom_103 rfl rfl rfl ?_
      refine aw_iload_n (pc' := 105) dX0_carriesFrom_104 rfl rfl ?_
      obtain ⟨r8, ec8, hf⟩ := b1_e hf
      refine aw_callVi (M' := mX0_kindOf) (nc' := 0) (ns' := 0) (pc' := 108) dX0_carriesFrom_105 rfl ml_RX0_35 kX0_kindOf (t_X0_kindOf H7 ec8) (H7.ob (H7.fo rfl rfl) (by decide)) rfl rfl rfl (Nat.le_of_ble_eq_true rfl) (rokD (by omega) (Nat.le_of_ble_eq_true rfl) (Nat.le_of_ble_eq_true rfl) (Nat.le_of_ble_eq_true rfl)) rfl rfl (fun _ h8 q8 => ?_)
      obtain ⟨rfl, rfl⟩ := q8
      refine aw_iload_n (pc' := 109) dX0_carriesFrom_108 rfl rfl ?_
      refine aw_iload_n (pc' := 110) dX0_carriesFrom_109 rfl rfl ?_
      refine aw_iload (pc' := 112) dX0_carriesFrom_110 rfl rfl ?_
      refine aw_iconst (v := 1) (pc' := 113) dX0_carriesFrom_112 rfl ic_1 ?_
      refine aw_iadd (pc' := 114) dX0_carriesFrom_113 rfl ?_
      obtain ⟨r10, s10, ec10, hf⟩ := bd_e hf
      refine aw_callVi (M' := mX0_boresFrom) (nc' := 0) (ns' := 0) (pc' := 117) dX0_carriesFrom_114 rfl ml_RX0_67 kX0_boresFrom (t_X0_boresFrom 8 H7 ec10) (H7.ob (H7.fo rfl rfl) (by decide)) rfl rfl rfl (Nat.le_of_ble_eq_true rfl) (rokD (by omega) (Nat.le_of_ble_eq_true rfl) (Nat.le_of_ble_eq_true rfl) (Nat.le_of_ble_eq_true rfl)) rfl rfl (fun _ h10 q10 => ?_)
      obtain ⟨rfl, H10, m10⟩ := q10
      refine aw_iconst (v := 1) (pc' := 118) dX0_carriesFrom_117 rfl ic_1 ?_
      refine aw_isub (pc' := 119) dX0_carriesFrom_118 rfl ?_
      obtain ⟨rfl, rfl⟩ := so2 hf
      exact aw_ri dX0_carriesFrom_119 rfl rfl (Nat.le_of_ble_eq_true rfl) (Nat.le_of_ble_eq_true rfl) ⟨rfl, H10, (m7.tr m10)⟩
    clear ek6
    rcases Decidable.em (a0 = 2) with c11 | c11
    · replace hf := ifp c11 hf
      refine aw_tabIn (tgt := 48) (off := 38) dX0_carriesFrom_10 (by rw [c11]; decide) (by rw [c11]; decide) (by rw [c11]; decide) (by decide) ?_
      refine AW.lv_le (lz_k (lz_d (lz_k (lz_k (lz_k lz_0))))) ?_
      exact hk2  hf
    replace hf := ifn c11 hf
    rcases Decidable.em (a0 = 3) with c12 | c12
    · replace hf := ifp c12 hf
      refine aw_tabIn (tgt := 48) (off := 38) dX0_carriesFrom_10 (by rw [c12]; decide) (by rw [c12]; decide) (by rw [c12]; decide) (by decide) ?_
      refine AW.lv_le (lz_k (lz_d (lz_k (lz_k (lz_k lz_0))))) ?_
      exact hk2  hf
    replace hf := ifn c12 hf
    rcases Decidable.em (a0 = 4) with c13 | c13
    · replace hf := ifp c13 hf
      refine aw_tabIn (tgt := 48) (off := 38) dX0_carriesFrom_10 (by rw [c13]; decide) (by rw [c13]; decide) (by rw [c13]; decide) (by decide) ?_
      refine AW.lv_le (lz_k (lz_d (lz_k (lz_k (lz_k lz_0))))) ?_
      exact hk2  hf
    replace hf := ifn c13 hf
    rcases Decidable.em (a0 = 5) with c14 | c14
    · replace hf := ifp c14 hf
      refine aw_tabIn (tgt := 48) (off := 38) dX0_carriesFrom_10 (by rw [c14]; decide) (by rw [c14]; decide) (by rw [c14]; decide) (by decide) ?_
      refine AW.lv_le (lz_k (lz_d (lz_k (lz_k (lz_k lz_0))))) ?_
      exact hk2  hf
    replace hf := ifn c14 hf
    rcases Decidable.em (a0 = 6) with c15 | c15
    · replace hf := ifp c15 hf
      refine aw_tabIn (tgt := 96) (off := 86) dX0_carriesFrom_10 (by rw [c15]; decide) (by rw [c15]; decide) (by rw [c15]; decide) (by decide) ?_
      refine AW.lv_le (lz_k (lz_d (lz_k (lz_k (lz_k lz_0))))) ?_
      exact hk6  hf
    replace hf := ifn c15 hf
    rcases Decidable.em (a0 = 7) with c16 | c16
    · replace hf := ifp c16 hf
      refine aw_tabIn (tgt := 72) (off := 62) dX0_carriesFrom_10 (by rw [c16]; decide) (by rw [c16]; decide) (by rw [c16]; decide) (by decide) ?_
      refine aw_aload_n (pc' := 73) dX0_carriesFrom_72 rfl rfl rfl ?_
      refine aw_bipush (v := 80) (pc' := 75) dX0_carriesFrom_73 rfl bp_80 ?_
      obtain ⟨s17, ec17, hf⟩ := b1_e hf
      refine aw_callVv (M' := mX0_runs) (nc' := 0) (ns' := 0) (pc' := 78) dX0_carriesFrom_75 rfl ml_RX0_80 kX0_runs (t_X0_runs H0 ec17) (H0.ob (H0.fo rfl rfl) (by decide)) rfl rfl rfl (Nat.le_of_ble_eq_true rfl) (rokD (by omega) (Nat.le_of_ble_eq_true rfl) (Nat.le_of_ble_eq_true rfl) (Nat.le_of_ble_eq_true rfl)) rfl rfl (fun h17 q17 => ?_)
      obtain ⟨H17, m17⟩ := q17
      refine aw_aload_n (pc' := 79) dX0_carriesFrom_78 rfl rfl rfl ?_
      refine aw_iconst (v := 0) (pc' := 80) dX0_carriesFrom_79 rfl ic_0 ?_
      refine aw_iload_n (pc' := 81) dX0_carriesFrom_80 rfl rfl ?_
      refine aw_iload_n (pc' := 82) dX0_carriesFrom_81 rfl rfl ?_
      refine aw_iload (pc' := 84) dX0_carriesFrom_82 rfl rfl ?_
      refine aw_iconst (v := 1) (pc' := 85) dX0_carriesFrom_84 rfl ic_1 ?_
      refine aw_iadd (pc' := 86) dX0_carriesFrom_85 rfl ?_
      obtain ⟨r18, s18, ec18, hf⟩ := bd_e hf
      refine aw_callVi (M' := mX0_carriesFrom) (nc' := 0) (ns' := 0) (pc' := 89) dX0_carriesFrom_86 rfl ml_RX0_71 kX0_carriesFrom (hrec H17 ec18) (H17.ob (H17.fo rfl rfl) (by decide)) rfl rfl rfl (Nat.le_of_ble_eq_true rfl) (rokD (by omega) (Nat.le_of_ble_eq_true rfl) (Nat.le_of_ble_eq_true rfl) (Nat.le_of_ble_eq_true rfl)) rfl rfl (fun _ h18 q18 => ?_)
      obtain ⟨rfl, H18, m18⟩ := q18
      refine aw_aload_n (pc' := 90) dX0_carriesFrom_89 rfl rfl rfl ?_
      refine aw_iload_n (pc' := 91) dX0_carriesFrom_90 rfl rfl ?_
      obtain ⟨r19, ec19, hf⟩ := b1_e hf
      refine aw_callVi (M' := mX0_strengthOf) (nc' := 0) (ns' := 0) (pc' := 94) dX0_carriesFrom_91 rfl ml_RX0_87 kX0_strengthOf (t_X0_strengthOf H18 ec19) (H18.ob (H18.fo rfl rfl) (by decide)) rfl rfl rfl (Nat.le_of_ble_eq_true rfl) (rokD (by omega) (Nat.le_of_ble_eq_true rfl) (Nat.le_of_ble_eq_true rfl) (Nat.le_of_ble_eq_true rfl)) rfl rfl (fun _ h19 q19 => ?_)
      obtain ⟨rfl, rfl⟩ := q19
      refine aw_isub (pc' := 95) dX0_carriesFrom_94 rfl ?_
      obtain ⟨rfl, rfl⟩ := so2 hf
      exact aw_ri dX0_carriesFrom_95 rfl rfl (Nat.le_of_ble_eq_true rfl) (Nat.le_of_ble_eq_true rfl) ⟨rfl, H18, (m17.tr m18)⟩
    replace hf := ifn c16 hf
    refine aw_tabOut (tgt := 96) dX0_carriesFrom_10 (by have a0 := tneK (K := 2) (by decide) c11; have a1 := tneK (K := 3) (by decide) c12; have a2 := tneK (K := 4) (by decide) c13; have a3 := tneK (K := 5) (by decide) c14; have a4 := tneK (K := 6) (by decide) c15; have a5 := tneK (K := 7) (by decide) c16; omega) (by decide) ?_
    refine AW.lv_le (lz_k (lz_d (lz_k (lz_k (lz_k lz_0))))) ?_
    exact hk6  hf
  · replace hf := ifp c1 hf
    refine aw_iconst (v := 0) (pc' := 8) dX0_carriesFrom_7 rfl ic_0 ?_
    obtain ⟨rfl, rfl⟩ := so2 hf
    exact aw_ri dX0_carriesFrom_8 rfl rfl (Nat.le_of_ble_eq_true rfl) (Nat.le_of_ble_eq_true rfl) ⟨rfl, H0, (Mo.rf _)⟩
noncomputable def f_X0_carriesFrom : Nat → SS → Int32 → Int32 → Int32 → Int32 → Option (Int32 × SS)
  | 0, _, _, _, _, _ => none
  | n + 1, s0, a0, a1, a2, a3 => f_X0_carriesFrom_r (f_X0_carriesFrom n) s0 a0 a1 a2 a3
set_option maxRecDepth 4000 in
theorem t_X0_carriesFrom : ∀ (n : Nat) {r9 : Int32} {s0 s9 : SS} {h0 : List aE} {a0 : Int32} {a1 : Int32} {a2 : Int32} {a3 : Int32}, HH s0 h0 → f_X0_carriesFrom n s0 a0 a1 a2 a3 = some (r9, s9) → AM mX0_carriesFrom (8 + 1 * n) [.ref 23, .int a0, .int a1, .int a2, .int a3] h0 0 0 (PI fun r' h' => r9 = r' ∧ HH s9 h' ∧ Mo s0 s9) := by
  intro n
  induction n with
  | zero =>
    intro r9 s0 s9 h0 a0 a1 a2 a3 H0 hf
    cases hf
  | succ n ih =>
    intro r9 s0 s9 h0 a0 a1 a2 a3 H0 hf
    exact t_X0_carriesFrom_r (Dr := 8 + 1 * n) (by omega) ih H0 hf
/-! ThirtyThreeBelow$Bodies.holdsFrom -/
noncomputable def f_X0_holdsFrom_r (rec : SS → Int32 → Int32 → Int32 → Int32 → Option (Int32 × SS)) (s0 : SS) (a0 : Int32) (a1 : Int32) (a2 : Int32) (a3 : Int32) : Option (Int32 × SS) := (if (40 : Int32) < a3 then some (0, s0) else (jn ((b1 (f_X0_runs s0 11) fun s3 => some ((a2 ^^^ a1), s3))) fun k2 => (if a0 = 3 then (b1 (f_X0_runs s0 40) fun s5 => (bd (rec s5 2 a1 a2 (a3 + (1 : Int32))) fun r6 s6 => (b1 (f_X0_kindOf s6 a1) fun r7 => (bd (f_X0_carriesFrom 8 s6 r7 a1 1 (a3 + (1 : Int32))) fun r8 s8 => some ((r6 - r8), s8))))) else (if a0 = 4 then k2 else (if a0 = 5 then (b1 (f_X0_runs s0 60) fun s12 => (bd (rec s12 4 a1 a2 (a3 + (1 : Int32))) fun r13 s13 => some ((-r13), s13))) else (if a0 = 6 then (b1 (f_X0_runs s0 70) fun s15 => (bd (rec s15 1 a1 a2 (a3 + (1 : Int32))) fun r16 s16 => (bd (f_X0_carriesFrom 8 s16 1 a1 a2 (a3 + (1 : Int32))) fun r17 s17 => some ((r16 + r17), s17)))) else k2))))))
set_option maxRecDepth 4000 in
theorem t_X0_holdsFrom_r {Dr : Nat} {rec : SS → Int32 → Int32 → Int32 → Int32 → Option (Int32 × SS)} (hD : 17 ≤ Dr + 1) (hrec : ∀ {r9 : Int32} {s0 s9 : SS} {h0 : List aE} {a0 : Int32} {a1 : Int32} {a2 : Int32} {a3 : Int32}, HH s0 h0 → rec s0 a0 a1 a2 a3 = some (r9, s9) → AM mX0_holdsFrom Dr [.ref 23, .int a0, .int a1, .int a2, .int a3] h0 0 0 (PI fun r' h' => r9 = r' ∧ HH s9 h' ∧ Mo s0 s9)) {r9 : Int32} {s0 s9 : SS} {h0 : List aE} {a0 : Int32} {a1 : Int32} {a2 : Int32} {a3 : Int32} (H0 : HH s0 h0) (hf : f_X0_holdsFrom_r rec s0 a0 a1 a2 a3 = some (r9, s9)) : AM mX0_holdsFrom (Dr + 1) [.ref 23, .int a0, .int a1, .int a2, .int a3] h0 0 0 (PI fun r' h' => r9 = r' ∧ HH s9 h' ∧ Mo s0 s9) := by
  unfold f_X0_holdsFrom_r at hf
  refine am_of (lv := [some (.ref 23), some (.int a0), some (.int a1), some (.int a2), some (.int a3), none]) rfl (Nat.le_of_ble_eq_true rfl) rfl ?_
  refine aw_iload (pc' := 2) dX0_holdsFrom_0 rfl rfl ?_
  refine aw_bipush (v := 40) (pc' := 4) dX0_holdsFrom_2 rfl bp_40 ?_
  refine aw_cle (tgt := 9) (pc' := 7) dX0_holdsFrom_4 rfl rfl (fun c1 => ?_) (fun c1 => ?_)
  · replace hf := ifn c1 hf
    refine aw_iload_n (pc' := 10) dX0_holdsFrom_9 rfl rfl ?_
    obtain ⟨k2, ek2, hf⟩ := jn_e hf
    have hk2 : k2 = some (r9, s9) → AW mX0_holdsFrom (rmD (Dr + 1) 0 0) (fin (PI fun r' h' => r9 = r' ∧ HH s9 h' ∧ Mo s0 s9) 0 0) 131 [some (.ref 23), none, some (.int a1), some (.int a2), none, none] [] h0 0 0 := by
      intro hf
      subst ek2
      refine aw_aload_n (pc' := 132) dX0_holdsFrom_131 rfl rfl rfl ?_
      refine aw_bipush (v := 11) (pc' := 134) dX0_holdsFrom_132 rfl bp_11 ?_
      obtain ⟨s3, ec3, hf⟩ := b1_e hf
      refine aw_callVv (M' := mX0_runs) (nc' := 0) (ns' := 0) (pc' := 137) dX0_holdsFrom_134 rfl ml_RX0_80 kX0_runs (t_X0_runs H0 ec3) (H0.ob (H0.fo rfl rfl) (by decide)) rfl rfl rfl (Nat.le_of_ble_eq_true rfl) (rokD (by omega) (Nat.le_of_ble_eq_true rfl) (Nat.le_of_ble_eq_true rfl) (Nat.le_of_ble_eq_true rfl)) rfl rfl (fun h3 q3 => ?_)
      obtain ⟨H3, m3⟩ := q3
      refine aw_iload_n (pc' := 138) dX0_holdsFrom_137 rfl rfl ?_
      refine aw_iload_n (pc' := 139) dX0_holdsFrom_138 rfl rfl ?_
      refine aw_ixor (pc' := 140) dX0_holdsFrom_139 rfl ?_
      obtain ⟨rfl, rfl⟩ := so2 hf
      exact aw_ri dX0_holdsFrom_140 rfl rfl (Nat.le_of_ble_eq_true rfl) (Nat.le_of_ble_eq_true rfl) ⟨rfl, H3, m3⟩
    clear ek2
    rcases Decidable.em (a0 = 3) with c4 | c4
    · replace hf := ifp c4 hf
      refine aw_tabIn (tgt := 40) (off := 30) dX0_holdsFrom_10 (by rw [c4]; decide) (by rw [c4]; decide) (by rw [c4]; decide) (by decide) ?_
      refine aw_aload_n (pc' := 41) dX0_holdsFrom_40 rfl rfl rfl ?_
      refine aw_bipush (v := 40) (pc' := 43) dX0_holdsFrom_41 rfl bp_40 ?_
      obtain ⟨s5, ec5, hf⟩ := b1_e hf
      refine aw_callVv (M' := mX0_runs) (nc' := 0) (ns' := 0) (pc' := 46) dX0_holdsFrom_43 rfl ml_RX0_80 kX0_runs (t_X0_runs H0 ec5) (H0.ob (H0.fo rfl rfl) (by decide)) rfl rfl rfl (Nat.le_of_ble_eq_true rfl) (rokD (by omega) (Nat.le_of_ble_eq_true rfl) (Nat.le_of_ble_eq_true rfl) (Nat.le_of_ble_eq_true rfl)) rfl rfl (fun h5 q5 => ?_)
      obtain ⟨H5, m5⟩ := q5
      refine aw_aload_n (pc' := 47) dX0_holdsFrom_46 rfl rfl rfl ?_
      refine aw_iconst (v := 2) (pc' := 48) dX0_holdsFrom_47 rfl ic_2 ?_
      refine aw_iload_n (pc' := 49) dX0_holdsFrom_48 rfl rfl ?_
      refine aw_iload_n (pc' := 50) dX0_holdsFrom_49 rfl rfl ?_
      refine aw_iload (pc' := 52) dX0_holdsFrom_50 rfl rfl ?_
      refine aw_iconst (v := 1) (pc' := 53) dX0_holdsFrom_52 rfl ic_1 ?_
      refine aw_iadd (pc' := 54) dX0_holdsFrom_53 rfl ?_
      obtain ⟨r6, s6, ec6, hf⟩ := bd_e hf
      refine aw_callVi (M' := mX0_holdsFrom) (nc' := 0) (ns' := 0) (pc' := 57) dX0_holdsFrom_54 rfl ml_RX0_74 kX0_holdsFrom (hrec H5 ec6) (H5.ob (H5.fo rfl rfl) (by decide)) rfl rfl rfl (Nat.le_of_ble_eq_true rfl) (rokD (by omega) (Nat.le_of_ble_eq_true rfl) (Nat.le_of_ble_eq_true rfl) (Nat.le_of_ble_eq_true rfl)) rfl rfl (fun _ h6 q6 => ?_)
      obtain ⟨rfl, H6, m6⟩ := q6
      refine aw_istore (lv' := [_, _, _, _, _, _]) (pc' := 59) dX0_holdsFrom_57 rfl (Nat.le_of_ble_eq_true rfl) rfl ?_
      refine aw_iload (pc' := 61) dX0_holdsFrom_59 rfl rfl ?_
      refine aw_aload_n (pc' := 62) dX0_holdsFrom_61 rfl rfl rfl ?_
      refine aw_aload_n (pc' := 63) dX0_holdsFrom_62 rfl rfl rfl ?_
      refine aw_iload_n (pc' := 64) dX0_holdsFrom_63 rfl rfl ?_
      obtain ⟨r7, ec7, hf⟩ := b1_e hf
      refine aw_callVi (M' := mX0_kindOf) (nc' := 0) (ns' := 0) (pc' := 67) dX0_holdsFrom_64 rfl ml_RX0_35 kX0_kindOf (t_X0_kindOf H6 ec7) (H6.ob (H6.fo rfl rfl) (by decide)) rfl rfl rfl (Nat.le_of_ble_eq_true rfl) (rokD (by omega) (Nat.le_of_ble_eq_true rfl) (Nat.le_of_ble_eq_true rfl) (Nat.le_of_ble_eq_true rfl)) rfl rfl (fun _ h7 q7 => ?_)
      obtain ⟨rfl, rfl⟩ := q7
      refine aw_iload_n (pc' := 68) dX0_holdsFrom_67 rfl rfl ?_
      refine aw_iconst (v := 1) (pc' := 69) dX0_holdsFrom_68 rfl ic_1 ?_
      refine aw_iload (pc' := 71) dX0_holdsFrom_69 rfl rfl ?_
      refine aw_iconst (v := 1) (pc' := 72) dX0_holdsFrom_71 rfl ic_1 ?_
      refine aw_iadd (pc' := 73) dX0_holdsFrom_72 rfl ?_
      obtain ⟨r8, s8, ec8, hf⟩ := bd_e hf
      refine aw_callVi (M' := mX0_carriesFrom) (nc' := 0) (ns' := 0) (pc' := 76) dX0_holdsFrom_73 rfl ml_RX0_71 kX0_carriesFrom (t_X0_carriesFrom 8 H6 ec8) (H6.ob (H6.fo rfl rfl) (by decide)) rfl rfl rfl (Nat.le_of_ble_eq_true rfl) (rokD (by omega) (Nat.le_of_ble_eq_true rfl) (Nat.le_of_ble_eq_true rfl) (Nat.le_of_ble_eq_true rfl)) rfl rfl (fun _ h8 q8 => ?_)
      obtain ⟨rfl, H8, m8⟩ := q8
      refine aw_isub (pc' := 77) dX0_holdsFrom_76 rfl ?_
      obtain ⟨rfl, rfl⟩ := so2 hf
      exact aw_ri dX0_holdsFrom_77 rfl rfl (Nat.le_of_ble_eq_true rfl) (Nat.le_of_ble_eq_true rfl) ⟨rfl, H8, ((m5.tr m6).tr m8)⟩
    replace hf := ifn c4 hf
    rcases Decidable.em (a0 = 4) with c10 | c10
    · replace hf := ifp c10 hf
      refine aw_tabIn (tgt := 131) (off := 121) dX0_holdsFrom_10 (by rw [c10]; decide) (by rw [c10]; decide) (by rw [c10]; decide) (by decide) ?_
      refine AW.lv_le (lz_k (lz_d (lz_k (lz_k (lz_d (lz_d lz_0)))))) ?_
      exact hk2  hf
    replace hf := ifn c10 hf
    rcases Decidable.em (a0 = 5) with c11 | c11
    · replace hf := ifp c11 hf
      refine aw_tabIn (tgt := 78) (off := 68) dX0_holdsFrom_10 (by rw [c11]; decide) (by rw [c11]; decide) (by rw [c11]; decide) (by decide) ?_
      refine aw_aload_n (pc' := 79) dX0_holdsFrom_78 rfl rfl rfl ?_
      refine aw_bipush (v := 60) (pc' := 81) dX0_holdsFrom_79 rfl bp_60 ?_
      obtain ⟨s12, ec12, hf⟩ := b1_e hf
      refine aw_callVv (M' := mX0_runs) (nc' := 0) (ns' := 0) (pc' := 84) dX0_holdsFrom_81 rfl ml_RX0_80 kX0_runs (t_X0_runs H0 ec12) (H0.ob (H0.fo rfl rfl) (by decide)) rfl rfl rfl (Nat.le_of_ble_eq_true rfl) (rokD (by omega) (Nat.le_of_ble_eq_true rfl) (Nat.le_of_ble_eq_true rfl) (Nat.le_of_ble_eq_true rfl)) rfl rfl (fun h12 q12 => ?_)
      obtain ⟨H12, m12⟩ := q12
      refine aw_aload_n (pc' := 85) dX0_holdsFrom_84 rfl rfl rfl ?_
      refine aw_iconst (v := 4) (pc' := 86) dX0_holdsFrom_85 rfl ic_4 ?_
      refine aw_iload_n (pc' := 87) dX0_holdsFrom_86 rfl rfl ?_
      refine aw_iload_n (pc' := 88) dX0_holdsFrom_87 rfl rfl ?_
      refine aw_iload (pc' := 90) dX0_holdsFrom_88 rfl rfl ?_
      refine aw_iconst (v := 1) (pc' := 91) dX0_holdsFrom_90 rfl ic_1 ?_
      refine aw_iadd (pc' := 92) dX0_holdsFrom_91 rfl ?_
      obtain ⟨r13, s13, ec13, hf⟩ := bd_e hf
      refine aw_callVi (M' := mX0_holdsFrom) (nc' := 0) (ns' := 0) (pc' := 95) dX0_holdsFrom_92 rfl ml_RX0_74 kX0_holdsFrom (hrec H12 ec13) (H12.ob (H12.fo rfl rfl) (by decide)) rfl rfl rfl (Nat.le_of_ble_eq_true rfl) (rokD (by omega) (Nat.le_of_ble_eq_true rfl) (Nat.le_of_ble_eq_true rfl) (Nat.le_of_ble_eq_true rfl)) rfl rfl (fun _ h13 q13 => ?_)
      obtain ⟨rfl, H13, m13⟩ := q13
      refine aw_ineg (pc' := 96) dX0_holdsFrom_95 rfl ?_
      obtain ⟨rfl, rfl⟩ := so2 hf
      exact aw_ri dX0_holdsFrom_96 rfl rfl (Nat.le_of_ble_eq_true rfl) (Nat.le_of_ble_eq_true rfl) ⟨rfl, H13, (m12.tr m13)⟩
    replace hf := ifn c11 hf
    rcases Decidable.em (a0 = 6) with c14 | c14
    · replace hf := ifp c14 hf
      refine aw_tabIn (tgt := 97) (off := 87) dX0_holdsFrom_10 (by rw [c14]; decide) (by rw [c14]; decide) (by rw [c14]; decide) (by decide) ?_
      refine aw_aload_n (pc' := 98) dX0_holdsFrom_97 rfl rfl rfl ?_
      refine aw_bipush (v := 70) (pc' := 100) dX0_holdsFrom_98 rfl bp_70 ?_
      obtain ⟨s15, ec15, hf⟩ := b1_e hf
      refine aw_callVv (M' := mX0_runs) (nc' := 0) (ns' := 0) (pc' := 103) dX0_holdsFrom_100 rfl ml_RX0_80 kX0_runs (t_X0_runs H0 ec15) (H0.ob (H0.fo rfl rfl) (by decide)) rfl rfl rfl (Nat.le_of_ble_eq_true rfl) (rokD (by omega) (Nat.le_of_ble_eq_true rfl) (Nat.le_of_ble_eq_true rfl) (Nat.le_of_ble_eq_true rfl)) rfl rfl (fun h15 q15 => ?_)
      obtain ⟨H15, m15⟩ := q15
      refine aw_aload_n (pc' := 104) dX0_holdsFrom_103 rfl rfl rfl ?_
      refine aw_iconst (v := 1) (pc' := 105) dX0_holdsFrom_104 rfl ic_1 ?_
      refine aw_iload_n (pc' := 106) dX0_holdsFrom_105 rfl rfl ?_
      refine aw_iload_n (pc' := 107) dX0_holdsFrom_106 rfl rfl ?_
      refine aw_iload (pc' := 109) dX0_holdsFrom_107 rfl rfl ?_
      refine aw_iconst (v := 1) (pc' := 110) dX0_holdsFrom_109 rfl ic_1 ?_
      refine aw_iadd (pc' := 111) dX0_holdsFrom_110 rfl ?_
      obtain ⟨r16, s16, ec16, hf⟩ := bd_e hf
      refine aw_callVi (M' := mX0_holdsFrom) (nc' := 0) (ns' := 0) (pc' := 114) dX0_holdsFrom_111 rfl ml_RX0_74 kX0_holdsFrom (hrec H15 ec16) (H15.ob (H15.fo rfl rfl) (by decide)) rfl rfl rfl (Nat.le_of_ble_eq_true rfl) (rokD (by omega) (Nat.le_of_ble_eq_true rfl) (Nat.le_of_ble_eq_true rfl) (Nat.le_of_ble_eq_true rfl)) rfl rfl (fun _ h16 q16 => ?_)
      obtain ⟨rfl, H16, m16⟩ := q16
      refine aw_istore (lv' := [_, _, _, _, _, _]) (pc' := 116) dX0_holdsFrom_114 rfl (Nat.le_of_ble_eq_true rfl) rfl ?_
      refine aw_iload (pc' := 118) dX0_holdsFrom_116 rfl rfl ?_
      refine aw_aload_n (pc' := 119) dX0_holdsFrom_118 rfl rfl rfl ?_
      refine aw_iconst (v := 1) (pc' := 120) dX0_holdsFrom_119 rfl ic_1 ?_
      refine aw_iload_n (pc' := 121) dX0_holdsFrom_120 rfl rfl ?_
      refine aw_iload_n (pc' := 122) dX0_holdsFrom_121 rfl rfl ?_
      refine aw_iload (pc' := 124) dX0_holdsFrom_122 rfl rfl ?_
      refine aw_iconst (v := 1) (pc' := 125) dX0_holdsFrom_124 rfl ic_1 ?_
      refine aw_iadd (pc' := 126) dX0_holdsFrom_125 rfl ?_
      obtain ⟨r17, s17, ec17, hf⟩ := bd_e hf
      refine aw_callVi (M' := mX0_carriesFrom) (nc' := 0) (ns' := 0) (pc' := 129) dX0_holdsFrom_126 rfl ml_RX0_71 kX0_carriesFrom (t_X0_carriesFrom 8 H16 ec17) (H16.ob (H16.fo rfl rfl) (by decide)) rfl rfl rfl (Nat.le_of_ble_eq_true rfl) (rokD (by omega) (Nat.le_of_ble_eq_true rfl) (Nat.le_of_ble_eq_true rfl) (Nat.le_of_ble_eq_true rfl)) rfl rfl (fun _ h17 q17 => ?_)
      obtain ⟨rfl, H17, m17⟩ := q17
      refine aw_iadd (pc' := 130) dX0_holdsFrom_129 rfl ?_
      obtain ⟨rfl, rfl⟩ := so2 hf
      exact aw_ri dX0_holdsFrom_130 rfl rfl (Nat.le_of_ble_eq_true rfl) (Nat.le_of_ble_eq_true rfl) ⟨rfl, H17, ((m15.tr m16).tr m17)⟩
    replace hf := ifn c14 hf
    refine aw_tabOut (tgt := 131) dX0_holdsFrom_10 (by have a0 := tneK (K := 3) (by decide) c4; have a1 := tneK (K := 4) (by decide) c10; have a2 := tneK (K := 5) (by decide) c11; have a3 := tneK (K := 6) (by decide) c14; omega) (by decide) ?_
    refine AW.lv_le (lz_k (lz_d (lz_k (lz_k (lz_d (lz_d lz_0)))))) ?_
    exact hk2  hf
  · replace hf := ifp c1 hf
    refine aw_iconst (v := 0) (pc' := 8) dX0_holdsFrom_7 rfl ic_0 ?_
    obtain ⟨rfl, rfl⟩ := so2 hf
    exact aw_ri dX0_holdsFrom_8 rfl rfl (Nat.le_of_ble_eq_true rfl) (Nat.le_of_ble_eq_true rfl) ⟨rfl, H0, (Mo.rf _)⟩
noncomputable def f_X0_holdsFrom : Nat → SS → Int32 → Int32 → Int32 → Int32 → Option (Int32 × SS)
  | 0, _, _, _, _, _ => none
  | n + 1, s0, a0, a1, a2, a3 => f_X0_holdsFrom_r (f_X0_holdsFrom n) s0 a0 a1 a2 a3
set_option maxRecDepth 4000 in
theorem t_X0_holdsFrom : ∀ (n : Nat) {r9 : Int32} {s0 s9 : SS} {h0 : List aE} {a0 : Int32} {a1 : Int32} {a2 : Int32} {a3 : Int32}, HH s0 h0 → f_X0_holdsFrom n s0 a0 a1 a2 a3 = some (r9, s9) → AM mX0_holdsFrom (16 + 1 * n) [.ref 23, .int a0, .int a1, .int a2, .int a3] h0 0 0 (PI fun r' h' => r9 = r' ∧ HH s9 h' ∧ Mo s0 s9) := by
  intro n
  induction n with
  | zero =>
    intro r9 s0 s9 h0 a0 a1 a2 a3 H0 hf
    cases hf
  | succ n ih =>
    intro r9 s0 s9 h0 a0 a1 a2 a3 H0 hf
    exact t_X0_holdsFrom_r (Dr := 16 + 1 * n) (by omega) ih H0 hf
/-! ThirtyThreeBelow$Bodies.tellsFrom -/
noncomputable def f_X0_tellsFrom_r (rec : SS → Int32 → Int32 → Int32 → Int32 → Option (Int32 × SS)) (s0 : SS) (a0 : Int32) (a1 : Int32) (a2 : Int32) (a3 : Int32) : Option (Int32 × SS) := (if (40 : Int32) < a3 then some (0, s0) else (jn ((b1 (f_X0_runs s0 51) fun s3 => (bd (rec s3 2 a1 a2 (a3 + (1 : Int32))) fun r4 s4 => some ((r4 * (3 : Int32)), s4)))) fun k2 => (if a0 = 4 then k2 else (if a0 = 5 then k2 else (b1 (f_X0_runs s0 2) fun s7 => (b1 (f_X0_kindOf s7 a1) fun r8 => (bd (f_X0_carriesFrom 8 s7 r8 a1 a2 (a3 + (1 : Int32))) fun r10 s10 => (b1 (f_X0_kindOf s10 a1) fun r11 => (bd (f_X0_holdsFrom 8 s10 r11 a1 1 (a3 + (1 : Int32))) fun r12 s12 => some ((r10 + r12), s12))))))))))
set_option maxRecDepth 4000 in
theorem t_X0_tellsFrom_r {Dr : Nat} {rec : SS → Int32 → Int32 → Int32 → Int32 → Option (Int32 × SS)} (hD : 25 ≤ Dr + 1) (hrec : ∀ {r9 : Int32} {s0 s9 : SS} {h0 : List aE} {a0 : Int32} {a1 : Int32} {a2 : Int32} {a3 : Int32}, HH s0 h0 → rec s0 a0 a1 a2 a3 = some (r9, s9) → AM mX0_tellsFrom Dr [.ref 23, .int a0, .int a1, .int a2, .int a3] h0 0 0 (PI fun r' h' => r9 = r' ∧ HH s9 h' ∧ Mo s0 s9)) {r9 : Int32} {s0 s9 : SS} {h0 : List aE} {a0 : Int32} {a1 : Int32} {a2 : Int32} {a3 : Int32} (H0 : HH s0 h0) (hf : f_X0_tellsFrom_r rec s0 a0 a1 a2 a3 = some (r9, s9)) : AM mX0_tellsFrom (Dr + 1) [.ref 23, .int a0, .int a1, .int a2, .int a3] h0 0 0 (PI fun r' h' => r9 = r' ∧ HH s9 h' ∧ Mo s0 s9) := by
  unfold f_X0_tellsFrom_r at hf
  refine am_of (lv := [some (.ref 23), some (.int a0), some (.int a1), some (.int a2), some (.int a3), none]) rfl (Nat.le_of_ble_eq_true rfl) rfl ?_
  refine aw_iload (pc' := 2) dX0_tellsFrom_0 rfl rfl ?_
  refine aw_bipush (v := 40) (pc' := 4) dX0_tellsFrom_2 rfl bp_40 ?_
  refine aw_cle (tgt := 9) (pc' := 7) dX0_tellsFrom_4 rfl rfl (fun c1 => ?_) (fun c1 => ?_)
  · replace hf := ifn c1 hf
    refine aw_iload_n (pc' := 10) dX0_tellsFrom_9 rfl rfl ?_
    obtain ⟨k2, ek2, hf⟩ := jn_e hf
    have hk2 : k2 = some (r9, s9) → AW mX0_tellsFrom (rmD (Dr + 1) 0 0) (fin (PI fun r' h' => r9 = r' ∧ HH s9 h' ∧ Mo s0 s9) 0 0) 36 [some (.ref 23), none, some (.int a1), some (.int a2), some (.int a3), none] [] h0 0 0 := by
      intro hf
      subst ek2
      refine aw_aload_n (pc' := 37) dX0_tellsFrom_36 rfl rfl rfl ?_
      refine aw_bipush (v := 51) (pc' := 39) dX0_tellsFrom_37 rfl bp_51 ?_
      obtain ⟨s3, ec3, hf⟩ := b1_e hf
      refine aw_callVv (M' := mX0_runs) (nc' := 0) (ns' := 0) (pc' := 42) dX0_tellsFrom_39 rfl ml_RX0_80 kX0_runs (t_X0_runs H0 ec3) (H0.ob (H0.fo rfl rfl) (by decide)) rfl rfl rfl (Nat.le_of_ble_eq_true rfl) (rokD (by omega) (Nat.le_of_ble_eq_true rfl) (Nat.le_of_ble_eq_true rfl) (Nat.le_of_ble_eq_true rfl)) rfl rfl (fun h3 q3 => ?_)
      obtain ⟨H3, m3⟩ := q3
      refine aw_aload_n (pc' := 43) dX0_tellsFrom_42 rfl rfl rfl ?_
      refine aw_iconst (v := 2) (pc' := 44) dX0_tellsFrom_43 rfl ic_2 ?_
      refine aw_iload_n (pc' := 45) dX0_tellsFrom_44 rfl rfl ?_
      refine aw_iload_n (pc' := 46) dX0_tellsFrom_45 rfl rfl ?_
      refine aw_iload (pc' := 48) dX0_tellsFrom_46 rfl rfl ?_
      refine aw_iconst (v := 1) (pc' := 49) dX0_tellsFrom_48 rfl ic_1 ?_
      refine aw_iadd (pc' := 50) dX0_tellsFrom_49 rfl ?_
      obtain ⟨r4, s4, ec4, hf⟩ := bd_e hf
      refine aw_callVi (M' := mX0_tellsFrom) (nc' := 0) (ns' := 0) (pc' := 53) dX0_tellsFrom_50 rfl ml_RX0_77 kX0_tellsFrom (hrec H3 ec4) (H3.ob (H3.fo rfl rfl) (by decide)) rfl rfl rfl (Nat.le_of_ble_eq_true rfl) (rokD (by omega) (Nat.le_of_ble_eq_true rfl) (Nat.le_of_ble_eq_true rfl) (Nat.le_of_ble_eq_true rfl)) rfl rfl (fun _ h4 q4 => ?_)
      obtain ⟨rfl, H4, m4⟩ := q4
      refine aw_iconst (v := 3) (pc' := 54) dX0_tellsFrom_53 rfl ic_3 ?_
      refine aw_imul (pc' := 55) dX0_tellsFrom_54 rfl ?_
      obtain ⟨rfl, rfl⟩ := so2 hf
      exact aw_ri dX0_tellsFrom_55 rfl rfl (Nat.le_of_ble_eq_true rfl) (Nat.le_of_ble_eq_true rfl) ⟨rfl, H4, (m3.tr m4)⟩
    clear ek2
    rcases Decidable.em (a0 = 4) with c5 | c5
    · replace hf := ifp c5 hf
      refine aw_lookup (tgt := 36) (off := 26) dX0_tellsFrom_10 (by decide) (by rw [c5]; decide) (by decide) ?_
      refine AW.lv_le (lz_k (lz_d (lz_k (lz_k (lz_k (lz_d lz_0)))))) ?_
      exact hk2  hf
    replace hf := ifn c5 hf
    rcases Decidable.em (a0 = 5) with c6 | c6
    · replace hf := ifp c6 hf
      refine aw_lookup (tgt := 36) (off := 26) dX0_tellsFrom_10 (by decide) (by rw [c6]; decide) (by decide) ?_
      refine AW.lv_le (lz_k (lz_d (lz_k (lz_k (lz_k (lz_d lz_0)))))) ?_
      exact hk2  hf
    replace hf := ifn c6 hf
    refine aw_lookup (tgt := 56) (off := 46) dX0_tellsFrom_10 (by decide) (by have a0 := tneS (K := 4) (by decide) c5; have a1 := tneS (K := 5) (by decide) c6; simp [Op.lookupswitch.offset, a0, a1]) (by decide) ?_
    refine aw_aload_n (pc' := 57) dX0_tellsFrom_56 rfl rfl rfl ?_
    refine aw_iconst (v := 2) (pc' := 58) dX0_tellsFrom_57 rfl ic_2 ?_
    obtain ⟨s7, ec7, hf⟩ := b1_e hf
    refine aw_callVv (M' := mX0_runs) (nc' := 0) (ns' := 0) (pc' := 61) dX0_tellsFrom_58 rfl ml_RX0_80 kX0_runs (t_X0_runs H0 ec7) (H0.ob (H0.fo rfl rfl) (by decide)) rfl rfl rfl (Nat.le_of_ble_eq_true rfl) (rokD (by omega) (Nat.le_of_ble_eq_true rfl) (Nat.le_of_ble_eq_true rfl) (Nat.le_of_ble_eq_true rfl)) rfl rfl (fun h7 q7 => ?_)
    obtain ⟨H7, m7⟩ := q7
    refine aw_aload_n (pc' := 62) dX0_tellsFrom_61 rfl rfl rfl ?_
    refine aw_aload_n (pc' := 63) dX0_tellsFrom_62 rfl rfl rfl ?_
    refine aw_iload_n (pc' := 64) dX0_tellsFrom_63 rfl rfl ?_
    obtain ⟨r8, ec8, hf⟩ := b1_e hf
    refine aw_callVi (M' := mX0_kindOf) (nc' := 0) (ns' := 0) (pc' := 67) dX0_tellsFrom_64 rfl ml_RX0_35 kX0_kindOf (t_X0_kindOf H7 ec8) (H7.ob (H7.fo rfl rfl) (by decide)) rfl rfl rfl (Nat.le_of_ble_eq_true rfl) (rokD (by omega) (Nat.le_of_ble_eq_true rfl) (Nat.le_of_ble_eq_true rfl) (Nat.le_of_ble_eq_true rfl)) rfl rfl (fun _ h8 q8 => ?_)
    obtain ⟨rfl, rfl⟩ := q8
    refine aw_iload_n (pc' := 68) dX0_tellsFrom_67 rfl rfl ?_
    refine aw_iload_n (pc' := 69) dX0_tellsFrom_68 rfl rfl ?_
    refine aw_iload (pc' := 71) dX0_tellsFrom_69 rfl rfl ?_
    refine aw_iconst (v := 1) (pc' := 72) dX0_tellsFrom_71 rfl ic_1 ?_
    refine aw_iadd (pc' := 73) dX0_tellsFrom_72 rfl ?_
    obtain ⟨r10, s10, ec10, hf⟩ := bd_e hf
    refine aw_callVi (M' := mX0_carriesFrom) (nc' := 0) (ns' := 0) (pc' := 76) dX0_tellsFrom_73 rfl ml_RX0_71 kX0_carriesFrom (t_X0_carriesFrom 8 H7 ec10) (H7.ob (H7.fo rfl rfl) (by decide)) rfl rfl rfl (Nat.le_of_ble_eq_true rfl) (rokD (by omega) (Nat.le_of_ble_eq_true rfl) (Nat.le_of_ble_eq_true rfl) (Nat.le_of_ble_eq_true rfl)) rfl rfl (fun _ h10 q10 => ?_)
    obtain ⟨rfl, H10, m10⟩ := q10
    refine aw_istore (lv' := [_, _, _, _, _, _]) (pc' := 78) dX0_tellsFrom_76 rfl (Nat.le_of_ble_eq_true rfl) rfl ?_
    refine aw_iload (pc' := 80) dX0_tellsFrom_78 rfl rfl ?_
    refine aw_aload_n (pc' := 81) dX0_tellsFrom_80 rfl rfl rfl ?_
    refine aw_aload_n (pc' := 82) dX0_tellsFrom_81 rfl rfl rfl ?_
    refine aw_iload_n (pc' := 83) dX0_tellsFrom_82 rfl rfl ?_
    obtain ⟨r11, ec11, hf⟩ := b1_e hf
    refine aw_callVi (M' := mX0_kindOf) (nc' := 0) (ns' := 0) (pc' := 86) dX0_tellsFrom_83 rfl ml_RX0_35 kX0_kindOf (t_X0_kindOf H10 ec11) (H10.ob (H10.fo rfl rfl) (by decide)) rfl rfl rfl (Nat.le_of_ble_eq_true rfl) (rokD (by omega) (Nat.le_of_ble_eq_true rfl) (Nat.le_of_ble_eq_true rfl) (Nat.le_of_ble_eq_true rfl)) rfl rfl (fun _ h11 q11 => ?_)
    obtain ⟨rfl, rfl⟩ := q11
    refine aw_iload_n (pc' := 87) dX0_tellsFrom_86 rfl rfl ?_
    refine aw_iconst (v := 1) (pc' := 88) dX0_tellsFrom_87 rfl ic_1 ?_
    refine aw_iload (pc' := 90) dX0_tellsFrom_88 rfl rfl ?_
    refine aw_iconst (v := 1) (pc' := 91) dX0_tellsFrom_90 rfl ic_1 ?_
    refine aw_iadd (pc' := 92) dX0_tellsFrom_91 rfl ?_
    obtain ⟨r12, s12, ec12, hf⟩ := bd_e hf
    refine aw_callVi (M' := mX0_holdsFrom) (nc' := 0) (ns' := 0) (pc' := 95) dX0_tellsFrom_92 rfl ml_RX0_74 kX0_holdsFrom (t_X0_holdsFrom 8 H10 ec12) (H10.ob (H10.fo rfl rfl) (by decide)) rfl rfl rfl (Nat.le_of_ble_eq_true rfl) (rokD (by omega) (Nat.le_of_ble_eq_true rfl) (Nat.le_of_ble_eq_true rfl) (Nat.le_of_ble_eq_true rfl)) rfl rfl (fun _ h12 q12 => ?_)
    obtain ⟨rfl, H12, m12⟩ := q12
    refine aw_iadd (pc' := 96) dX0_tellsFrom_95 rfl ?_
    obtain ⟨rfl, rfl⟩ := so2 hf
    exact aw_ri dX0_tellsFrom_96 rfl rfl (Nat.le_of_ble_eq_true rfl) (Nat.le_of_ble_eq_true rfl) ⟨rfl, H12, ((m7.tr m10).tr m12)⟩
  · replace hf := ifp c1 hf
    refine aw_iconst (v := 0) (pc' := 8) dX0_tellsFrom_7 rfl ic_0 ?_
    obtain ⟨rfl, rfl⟩ := so2 hf
    exact aw_ri dX0_tellsFrom_8 rfl rfl (Nat.le_of_ble_eq_true rfl) (Nat.le_of_ble_eq_true rfl) ⟨rfl, H0, (Mo.rf _)⟩
noncomputable def f_X0_tellsFrom : Nat → SS → Int32 → Int32 → Int32 → Int32 → Option (Int32 × SS)
  | 0, _, _, _, _, _ => none
  | n + 1, s0, a0, a1, a2, a3 => f_X0_tellsFrom_r (f_X0_tellsFrom n) s0 a0 a1 a2 a3
set_option maxRecDepth 4000 in
theorem t_X0_tellsFrom : ∀ (n : Nat) {r9 : Int32} {s0 s9 : SS} {h0 : List aE} {a0 : Int32} {a1 : Int32} {a2 : Int32} {a3 : Int32}, HH s0 h0 → f_X0_tellsFrom n s0 a0 a1 a2 a3 = some (r9, s9) → AM mX0_tellsFrom (24 + 1 * n) [.ref 23, .int a0, .int a1, .int a2, .int a3] h0 0 0 (PI fun r' h' => r9 = r' ∧ HH s9 h' ∧ Mo s0 s9) := by
  intro n
  induction n with
  | zero =>
    intro r9 s0 s9 h0 a0 a1 a2 a3 H0 hf
    cases hf
  | succ n ih =>
    intro r9 s0 s9 h0 a0 a1 a2 a3 H0 hf
    exact t_X0_tellsFrom_r (Dr := 24 + 1 * n) (by omega) ih H0 hf
/-! ThirtyThreeBelow$Bodies.acted -/
noncomputable def f_X0_acted (s0 : SS) (a0 : Int32) (a1 : Int32) (a2 : Int32) : Option (Int32 × SS) := (st (pS s0 15 11 0) fun s1 => (b1 (f_X0_kindOf s1 a0) fun r2 => (if r2 < (0 : Int32) then some (0, s1) else (if a1 = 0 then (bd (f_X0_boresFrom 8 s1 r2 a0 a2 0) fun r5 s5 => some (r5, s5)) else (if a1 = 1 then (bd (f_X0_carriesFrom 8 s1 r2 a0 a2 0) fun r7 s7 => some (r7, s7)) else (if a1 = 2 then (bd (f_X0_holdsFrom 8 s1 r2 a0 a2 0) fun r10 s10 => some (r10, s10)) else (if a1 = 3 then (bd (f_X0_tellsFrom 8 s1 r2 a0 a2 0) fun r12 s12 => some (r12, s12)) else some (0, s1))))))))
set_option maxRecDepth 4000 in
theorem t_X0_acted {r9 : Int32} {s0 s9 : SS} {h0 : List aE} {a0 : Int32} {a1 : Int32} {a2 : Int32} (H0 : HH s0 h0) (hf : f_X0_acted s0 a0 a1 a2 = some (r9, s9)) : AM mX0_acted (33) [.ref 23, .int a0, .int a1, .int a2] h0 0 0 (PI fun r' h' => r9 = r' ∧ HH s9 h' ∧ Mo s0 s9) := by
  unfold f_X0_acted at hf
  refine am_of (lv := [some (.ref 23), some (.int a0), some (.int a1), some (.int a2), none]) rfl (Nat.le_of_ble_eq_true rfl) rfl ?_
  refine aw_aload_n (pc' := 1) dX0_acted_0 rfl rfl rfl ?_
  refine aw_iconst (v := 0) (pc' := 2) dX0_acted_1 rfl ic_0 ?_
  obtain ⟨s1, es1, hf⟩ := st_e hf
  refine aw_pi (q := 15) (pc' := 5) es1 H0 (H0.fo rfl rfl) (by decide) rfl dX0_acted_2 rfl fl_RX0_64 rfl (fun h1 H1 => ?_)
  have m1 := Mo.ofS es1
  refine aw_aload_n (pc' := 6) dX0_acted_5 rfl rfl rfl ?_
  refine aw_iload_n (pc' := 7) dX0_acted_6 rfl rfl ?_
  obtain ⟨r2, ec2, hf⟩ := b1_e hf
  refine aw_callVi (M' := mX0_kindOf) (nc' := 0) (ns' := 0) (pc' := 10) dX0_acted_7 rfl ml_RX0_35 kX0_kindOf (t_X0_kindOf H1 ec2) (H1.ob (H1.fo rfl rfl) (by decide)) rfl rfl rfl (Nat.le_of_ble_eq_true rfl) (rokD (by omega) (Nat.le_of_ble_eq_true rfl) (Nat.le_of_ble_eq_true rfl) (Nat.le_of_ble_eq_true rfl)) rfl rfl (fun _ h2 q2 => ?_)
  obtain ⟨rfl, rfl⟩ := q2
  refine aw_istore (lv' := [_, _, _, _, _]) (pc' := 12) dX0_acted_10 rfl (Nat.le_of_ble_eq_true rfl) rfl ?_
  refine aw_iload (pc' := 14) dX0_acted_12 rfl rfl ?_
  refine aw_zge (tgt := 19) (pc' := 17) dX0_acted_14 rfl rfl (fun c3 => ?_) (fun c3 => ?_)
  · replace hf := ifn c3 hf
    refine aw_iload_n (pc' := 20) dX0_acted_19 rfl rfl ?_
    rcases Decidable.em (a1 = 0) with c4 | c4
    · replace hf := ifp c4 hf
      refine aw_tabIn (tgt := 52) (off := 32) dX0_acted_20 (by rw [c4]; decide) (by rw [c4]; decide) (by rw [c4]; decide) (by decide) ?_
      refine aw_aload_n (pc' := 53) dX0_acted_52 rfl rfl rfl ?_
      refine aw_iload (pc' := 55) dX0_acted_53 rfl rfl ?_
      refine aw_iload_n (pc' := 56) dX0_acted_55 rfl rfl ?_
      refine aw_iload_n (pc' := 57) dX0_acted_56 rfl rfl ?_
      refine aw_iconst (v := 0) (pc' := 58) dX0_acted_57 rfl ic_0 ?_
      obtain ⟨r5, s5, ec5, hf⟩ := bd_e hf
      refine aw_callVi (M' := mX0_boresFrom) (nc' := 0) (ns' := 0) (pc' := 61) dX0_acted_58 rfl ml_RX0_67 kX0_boresFrom (t_X0_boresFrom 8 H1 ec5) (H1.ob (H1.fo rfl rfl) (by decide)) rfl rfl rfl (Nat.le_of_ble_eq_true rfl) (rokD (by omega) (Nat.le_of_ble_eq_true rfl) (Nat.le_of_ble_eq_true rfl) (Nat.le_of_ble_eq_true rfl)) rfl rfl (fun _ h5 q5 => ?_)
      obtain ⟨rfl, H5, m5⟩ := q5
      obtain ⟨rfl, rfl⟩ := so2 hf
      exact aw_ri dX0_acted_61 rfl rfl (Nat.le_of_ble_eq_true rfl) (Nat.le_of_ble_eq_true rfl) ⟨rfl, H5, (m1.tr m5)⟩
    replace hf := ifn c4 hf
    rcases Decidable.em (a1 = 1) with c6 | c6
    · replace hf := ifp c6 hf
      refine aw_tabIn (tgt := 62) (off := 42) dX0_acted_20 (by rw [c6]; decide) (by rw [c6]; decide) (by rw [c6]; decide) (by decide) ?_
      refine aw_aload_n (pc' := 63) dX0_acted_62 rfl rfl rfl ?_
      refine aw_iload (pc' := 65) dX0_acted_63 rfl rfl ?_
      refine aw_iload_n (pc' := 66) dX0_acted_65 rfl rfl ?_
      refine aw_iload_n (pc' := 67) dX0_acted_66 rfl rfl ?_
      refine aw_iconst (v := 0) (pc' := 68) dX0_acted_67 rfl ic_0 ?_
      obtain ⟨r7, s7, ec7, hf⟩ := bd_e hf
      refine aw_callVi (M' := mX0_carriesFrom) (nc' := 0) (ns' := 0) (pc' := 71) dX0_acted_68 rfl ml_RX0_71 kX0_carriesFrom (t_X0_carriesFrom 8 H1 ec7) (H1.ob (H1.fo rfl rfl) (by decide)) rfl rfl rfl (Nat.le_of_ble_eq_true rfl) (rokD (by omega) (Nat.le_of_ble_eq_true rfl) (Nat.le_of_ble_eq_true rfl) (Nat.le_of_ble_eq_true rfl)) rfl rfl (fun _ h7 q7 => ?_)
      obtain ⟨rfl, H7, m7⟩ := q7
      obtain ⟨rfl, rfl⟩ := so2 hf
      exact aw_ri dX0_acted_71 rfl rfl (Nat.le_of_ble_eq_true rfl) (Nat.le_of_ble_eq_true rfl) ⟨rfl, H7, (m1.tr m7)⟩
    replace hf := ifn c6 hf
    rcases Decidable.em (a1 = 2) with c8 | c8
    · replace hf := ifp c8 hf
      refine aw_tabIn (tgt := 72) (off := 52) dX0_acted_20 (by rw [c8]; decide) (by rw [c8]; decide) (by rw [c8]; decide) (by decide) ?_
      refine aw_aload_n (pc' := 73) dX0_acted_72 rfl rfl rfl ?_
      refine aw_iload (pc' := 75) dX0_acted_73 rfl rfl ?_
      refine aw_iload_n (pc' := 76) dX0_acted_75 rfl rfl ?_
      refine aw_iload_n (pc' := 77) dX0_acted_76 rfl rfl ?_
      refine aw_iconst (v := 0) (pc' := 78) dX0_acted_77 rfl ic_0 ?_
      obtain ⟨r10, s10, ec10, hf⟩ := bd_e hf
      refine aw_callVi (M' := mX0_holdsFrom) (nc' := 0) (ns' := 0) (pc' := 81) dX0_acted_78 rfl ml_RX0_74 kX0_holdsFrom (t_X0_holdsFrom 8 H1 ec10) (H1.ob (H1.fo rfl rfl) (by decide)) rfl rfl rfl (Nat.le_of_ble_eq_true rfl) (rokD (by omega) (Nat.le_of_ble_eq_true rfl) (Nat.le_of_ble_eq_true rfl) (Nat.le_of_ble_eq_true rfl)) rfl rfl (fun _ h10 q10 => ?_)
      obtain ⟨rfl, H10, m10⟩ := q10
      obtain ⟨rfl, rfl⟩ := so2 hf
      exact aw_ri dX0_acted_81 rfl rfl (Nat.le_of_ble_eq_true rfl) (Nat.le_of_ble_eq_true rfl) ⟨rfl, H10, (m1.tr m10)⟩
    replace hf := ifn c8 hf
    rcases Decidable.em (a1 = 3) with c11 | c11
    · replace hf := ifp c11 hf
      refine aw_tabIn (tgt := 82) (off := 62) dX0_acted_20 (by rw [c11]; decide) (by rw [c11]; decide) (by rw [c11]; decide) (by decide) ?_
      refine aw_aload_n (pc' := 83) dX0_acted_82 rfl rfl rfl ?_
      refine aw_iload (pc' := 85) dX0_acted_83 rfl rfl ?_
      refine aw_iload_n (pc' := 86) dX0_acted_85 rfl rfl ?_
      refine aw_iload_n (pc' := 87) dX0_acted_86 rfl rfl ?_
      refine aw_iconst (v := 0) (pc' := 88) dX0_acted_87 rfl ic_0 ?_
      obtain ⟨r12, s12, ec12, hf⟩ := bd_e hf
      refine aw_callVi (M' := mX0_tellsFrom) (nc' := 0) (ns' := 0) (pc' := 91) dX0_acted_88 rfl ml_RX0_77 kX0_tellsFrom (t_X0_tellsFrom 8 H1 ec12) (H1.ob (H1.fo rfl rfl) (by decide)) rfl rfl rfl (Nat.le_of_ble_eq_true rfl) (rokD (by omega) (Nat.le_of_ble_eq_true rfl) (Nat.le_of_ble_eq_true rfl) (Nat.le_of_ble_eq_true rfl)) rfl rfl (fun _ h12 q12 => ?_)
      obtain ⟨rfl, H12, m12⟩ := q12
      obtain ⟨rfl, rfl⟩ := so2 hf
      exact aw_ri dX0_acted_91 rfl rfl (Nat.le_of_ble_eq_true rfl) (Nat.le_of_ble_eq_true rfl) ⟨rfl, H12, (m1.tr m12)⟩
    replace hf := ifn c11 hf
    refine aw_tabOut (tgt := 92) dX0_acted_20 (by have a0 := tneK (K := 0) (by decide) c4; have a1 := tneK (K := 1) (by decide) c6; have a2 := tneK (K := 2) (by decide) c8; have a3 := tneK (K := 3) (by decide) c11; omega) (by decide) ?_
    refine aw_iconst (v := 0) (pc' := 93) dX0_acted_92 rfl ic_0 ?_
    obtain ⟨rfl, rfl⟩ := so2 hf
    exact aw_ri dX0_acted_93 rfl rfl (Nat.le_of_ble_eq_true rfl) (Nat.le_of_ble_eq_true rfl) ⟨rfl, H1, m1⟩
  · replace hf := ifp c3 hf
    refine aw_iconst (v := 0) (pc' := 18) dX0_acted_17 rfl ic_0 ?_
    obtain ⟨rfl, rfl⟩ := so2 hf
    exact aw_ri dX0_acted_18 rfl rfl (Nat.le_of_ble_eq_true rfl) (Nat.le_of_ble_eq_true rfl) ⟨rfl, H1, m1⟩
/-! ThirtyThreeBelow$Chart.bits -/
noncomputable def f_X1_bits (a0 : Int32) (a1 : Int32) : Option Int32 := some ((((-1) : Int32) <<< (a0 &&& 31)) &&& ((((-1) : Int32).toUInt32 >>> (((31 : Int32) - a1).toUInt32 &&& Int32.toUInt32 31)).toInt32))
set_option maxRecDepth 4000 in
theorem t_X1_bits {r9 : Int32} {h0 : List aE} {a0 : Int32} {a1 : Int32}  (hf : f_X1_bits a0 a1 = some r9) : AM mX1_bits (0) [.int a0, .int a1] h0 0 0 (PI fun r' h' => r9 = r' ∧ h0 = h') := by
  unfold f_X1_bits at hf
  refine am_of (lv := [some (.int a0), some (.int a1)]) rfl (Nat.le_of_ble_eq_true rfl) rfl ?_
  refine aw_iconst (v := (-1)) (pc' := 1) dX1_bits_0 rfl ic_m1 ?_
  refine aw_iload_n (pc' := 2) dX1_bits_1 rfl rfl ?_
  refine aw_ishl (pc' := 3) dX1_bits_2 rfl ?_
  refine aw_iconst (v := (-1)) (pc' := 4) dX1_bits_3 rfl ic_m1 ?_
  refine aw_bipush (v := 31) (pc' := 6) dX1_bits_4 rfl bp_31 ?_
  refine aw_iload_n (pc' := 7) dX1_bits_6 rfl rfl ?_
  refine aw_isub (pc' := 8) dX1_bits_7 rfl ?_
  refine aw_iushr (pc' := 9) dX1_bits_8 rfl ?_
  refine aw_iand (pc' := 10) dX1_bits_9 rfl ?_
  obtain rfl := Option.some.inj hf
  exact aw_ri dX1_bits_10 rfl rfl (Nat.le_of_ble_eq_true rfl) (Nat.le_of_ble_eq_true rfl) ⟨rfl, rfl⟩
/-! ThirtyThreeBelow.isYard -/
noncomputable def f_X11_isYard (a0 : Int32) : Option Int32 := (if a0 < (1 : Int32) then some 0 else (if (60 : Int32) < a0 then some 0 else some 1))
set_option maxRecDepth 4000 in
theorem t_X11_isYard {r9 : Int32} {h0 : List aE} {a0 : Int32}  (hf : f_X11_isYard a0 = some r9) : AM mX11_isYard (0) [.int a0] h0 0 0 (PI fun r' h' => r9 = r' ∧ h0 = h' ∧ (r9 = 0 ∨ r9 = 1)) := by
  unfold f_X11_isYard at hf
  refine am_of (lv := [some (.int a0)]) rfl (Nat.le_of_ble_eq_true rfl) rfl ?_
  refine aw_iload_n (pc' := 1) dX11_isYard_0 rfl rfl ?_
  refine aw_iconst (v := 1) (pc' := 2) dX11_isYard_1 rfl ic_1 ?_
  refine aw_clt (tgt := 15) (pc' := 5) dX11_isYard_2 rfl rfl (fun c1 => ?_) (fun c1 => ?_)
  · replace hf := ifp c1 hf
    refine aw_iconst (v := 0) (pc' := 16) dX11_isYard_15 rfl ic_0 ?_
    obtain rfl := Option.some.inj hf
    exact aw_ri dX11_isYard_16 rfl (by decide) (Nat.le_of_ble_eq_true rfl) (Nat.le_of_ble_eq_true rfl) ⟨rfl, rfl, Or.inl rfl⟩
  · replace hf := ifn c1 hf
    refine aw_iload_n (pc' := 6) dX11_isYard_5 rfl rfl ?_
    refine aw_bipush (v := 60) (pc' := 8) dX11_isYard_6 rfl bp_60 ?_
    refine aw_cgt (tgt := 15) (pc' := 11) dX11_isYard_8 rfl rfl (fun c2 => ?_) (fun c2 => ?_)
    · replace hf := ifp c2 hf
      refine aw_iconst (v := 0) (pc' := 16) dX11_isYard_15 rfl ic_0 ?_
      obtain rfl := Option.some.inj hf
      exact aw_ri dX11_isYard_16 rfl (by decide) (Nat.le_of_ble_eq_true rfl) (Nat.le_of_ble_eq_true rfl) ⟨rfl, rfl, Or.inl rfl⟩
    · replace hf := ifn c2 hf
      refine aw_iconst (v := 1) (pc' := 12) dX11_isYard_11 rfl ic_1 ?_
      refine aw_goto (tgt := 16) dX11_isYard_12 rfl ?_
      obtain rfl := Option.some.inj hf
      exact aw_ri dX11_isYard_16 rfl (by decide) (Nat.le_of_ble_eq_true rfl) (Nat.le_of_ble_eq_true rfl) ⟨rfl, rfl, Or.inr rfl⟩
/-! ThirtyThreeBelow$Chart.lists -/
noncomputable def f_X1_lists (s0 : SS) (pt : Nat) (a0 : Int32) (a1 : Int32) : Option Int32 := (b1 (f_X11_isYard a1) fun r1 => (if r1 = (0 : Int32) then some 0 else (gd (inB a1 61) (b1 (f_X1_bits a0 a0) fun r4 => (if ((zI s0 (pt + 1) (a1.toInt.toNat)) &&& r4) = (0 : Int32) then some 0 else some 1)))))
set_option maxRecDepth 4000 in
theorem t_X1_lists {r9 : Int32} {s0 : SS} {h0 : List aE} {pt : Nat} {a0 : Int32} {a1 : Int32} (H0 : HH s0 h0) (o_pt : okC s0 pt) (hf : f_X1_lists s0 pt a0 a1 = some r9) : AM mX1_lists (1) [.ref (pt + 8), .int a0, .int a1] h0 0 0 (PI fun r' h' => r9 = r' ∧ h0 = h' ∧ (r9 = 0 ∨ r9 = 1)) := by
  unfold f_X1_lists at hf
  refine am_of (lv := [some (.ref (pt + 8)), some (.int a0), some (.int a1)]) rfl (Nat.le_of_ble_eq_true rfl) rfl ?_
  refine aw_iload_n (pc' := 1) dX1_lists_0 rfl rfl ?_
  obtain ⟨r1, ec1, hf⟩ := b1_e hf
  refine aw_callSNi (host := "ThirtyThreeBelow") (M' := mX11_isYard) (nc' := 0) (ns' := 0) (pc' := 4) dX1_lists_1 rfl (by decide) kX11_isYard (t_X11_isYard ec1) rfl rfl (Nat.le_of_ble_eq_true rfl) (rokD (by omega) (Nat.le_of_ble_eq_true rfl) (Nat.le_of_ble_eq_true rfl) (Nat.le_of_ble_eq_true rfl)) rfl rfl (fun _ h1 q1 => ?_)
  obtain ⟨rfl, rfl, zb1⟩ := q1
  refine aw_if_eq (tgt := 26) (pc' := 7) dX1_lists_4 rfl rfl (fun c2 => ?_) (fun c2 => ?_)
  · replace hf := ifp c2 hf
    refine aw_iconst (v := 0) (pc' := 27) dX1_lists_26 rfl ic_0 ?_
    obtain rfl := Option.some.inj hf
    exact aw_ri dX1_lists_27 rfl (by decide) (Nat.le_of_ble_eq_true rfl) (Nat.le_of_ble_eq_true rfl) ⟨rfl, rfl, Or.inl rfl⟩
  · replace hf := ifn c2 hf
    refine aw_aload_n (pc' := 8) dX1_lists_7 rfl rfl rfl ?_
    refine aw_gr (q := pt) (e := 3) (v := .ref (pt + 1 + 8)) (pc' := 11) H0 (okC.ob o_pt) (by decide) rfl rfl dX1_lists_8 rfl fl_RX1_9 ?_
    refine aw_iload_n (pc' := 12) dX1_lists_11 rfl rfl ?_
    obtain ⟨g3, hf⟩ := gd_e hf
    refine aw_ia (q := (pt + 1)) (pc' := 13) H0 (okC.a1 o_pt) g3 dX1_lists_12 rfl ?_
    refine aw_iload_n (pc' := 14) dX1_lists_13 rfl rfl ?_
    refine aw_iload_n (pc' := 15) dX1_lists_14 rfl rfl ?_
    obtain ⟨r4, ec4, hf⟩ := b1_e hf
    refine aw_callSi (M' := mX1_bits) (nc' := 0) (ns' := 0) (pc' := 18) dX1_lists_15 rfl ml_RX1_29 kX1_bits (t_X1_bits ec4) rfl rfl (Nat.le_of_ble_eq_true rfl) (rokD (by omega) (Nat.le_of_ble_eq_true rfl) (Nat.le_of_ble_eq_true rfl) (Nat.le_of_ble_eq_true rfl)) rfl rfl (fun _ h4 q4 => ?_)
    obtain ⟨rfl, rfl⟩ := q4
    refine aw_iand (pc' := 19) dX1_lists_18 rfl ?_
    refine aw_if_eq (tgt := 26) (pc' := 22) dX1_lists_19 rfl rfl (fun c5 => ?_) (fun c5 => ?_)
    · replace hf := ifp c5 hf
      refine aw_iconst (v := 0) (pc' := 27) dX1_lists_26 rfl ic_0 ?_
      obtain rfl := Option.some.inj hf
      exact aw_ri dX1_lists_27 rfl (by decide) (Nat.le_of_ble_eq_true rfl) (Nat.le_of_ble_eq_true rfl) ⟨rfl, rfl, Or.inl rfl⟩
    · replace hf := ifn c5 hf
      refine aw_iconst (v := 1) (pc' := 23) dX1_lists_22 rfl ic_1 ?_
      refine aw_goto (tgt := 27) dX1_lists_23 rfl ?_
      obtain rfl := Option.some.inj hf
      exact aw_ri dX1_lists_27 rfl (by decide) (Nat.le_of_ble_eq_true rfl) (Nat.le_of_ble_eq_true rfl) ⟨rfl, rfl, Or.inr rfl⟩
/-! ThirtyThreeBelow$Chart.listed -/
noncomputable def f_X1_listed (s0 : SS) (pt : Nat) (a0 : Int32) (a1 : Int32) : Option (Int32 × SS) := (if (zS s0 pt 4) < (40 : Int32) then (b1 (f_X11_isYard a1) fun r2 => (if r2 = (0 : Int32) then some ((zS s0 pt 4), s0) else (gd (inB a1 61) (b1 (f_X1_bits a0 a0) fun r5 => (vl (((zI s0 (pt + 1) (a1.toInt.toNat)) ||| r5)) fun v6 => (gd (inB a1 61) (st (pI s0 (pt + 1) (a1.toInt.toNat) v6) fun s8 => (vl (((zS s8 pt 4) + (1 : Int32))) fun v10 => (st (pS s8 pt 4 v10) fun s11 => some ((zS s11 pt 4), s11)))))))))) else some ((-3), s0))
set_option maxRecDepth 4000 in
theorem t_X1_listed {r9 : Int32} {s0 s9 : SS} {h0 : List aE} {pt : Nat} {a0 : Int32} {a1 : Int32} (H0 : HH s0 h0) (o_pt : okC s0 pt) (hf : f_X1_listed s0 pt a0 a1 = some (r9, s9)) : AM mX1_listed (1) [.ref (pt + 8), .int a0, .int a1] h0 0 0 (PI fun r' h' => r9 = r' ∧ HH s9 h' ∧ Mo s0 s9) := by
  unfold f_X1_listed at hf
  refine am_of (lv := [some (.ref (pt + 8)), some (.int a0), some (.int a1)]) rfl (Nat.le_of_ble_eq_true rfl) rfl ?_
  refine aw_aload_n (pc' := 1) dX1_listed_0 rfl rfl rfl ?_
  refine aw_gi (q := pt) (pc' := 4) H0 (okC.ob o_pt) (by decide) rfl dX1_listed_1 rfl fl_RX1_33 ?_
  refine aw_bipush (v := 40) (pc' := 6) dX1_listed_4 rfl bp_40 ?_
  refine aw_clt (tgt := 12) (pc' := 9) dX1_listed_6 rfl rfl (fun c1 => ?_) (fun c1 => ?_)
  · replace hf := ifp c1 hf
    refine aw_iload_n (pc' := 13) dX1_listed_12 rfl rfl ?_
    obtain ⟨r2, ec2, hf⟩ := b1_e hf
    refine aw_callSNi (host := "ThirtyThreeBelow") (M' := mX11_isYard) (nc' := 0) (ns' := 0) (pc' := 16) dX1_listed_13 rfl (by decide) kX11_isYard (t_X11_isYard ec2) rfl rfl (Nat.le_of_ble_eq_true rfl) (rokD (by omega) (Nat.le_of_ble_eq_true rfl) (Nat.le_of_ble_eq_true rfl) (Nat.le_of_ble_eq_true rfl)) rfl rfl (fun _ h2 q2 => ?_)
    obtain ⟨rfl, rfl, zb2⟩ := q2
    refine aw_if_eq (tgt := 43) (pc' := 19) dX1_listed_16 rfl rfl (fun c3 => ?_) (fun c3 => ?_)
    · replace hf := ifp c3 hf
      refine aw_aload_n (pc' := 44) dX1_listed_43 rfl rfl rfl ?_
      refine aw_gi (q := pt) (pc' := 47) H0 (okC.ob o_pt) (by decide) rfl dX1_listed_44 rfl fl_RX1_33 ?_
      obtain ⟨rfl, rfl⟩ := so2 hf
      exact aw_ri dX1_listed_47 rfl rfl (Nat.le_of_ble_eq_true rfl) (Nat.le_of_ble_eq_true rfl) ⟨rfl, H0, (Mo.rf _)⟩
    · replace hf := ifn c3 hf
      refine aw_aload_n (pc' := 20) dX1_listed_19 rfl rfl rfl ?_
      refine aw_gr (q := pt) (e := 3) (v := .ref (pt + 1 + 8)) (pc' := 23) H0 (okC.ob o_pt) (by decide) rfl rfl dX1_listed_20 rfl fl_RX1_9 ?_
      refine aw_iload_n (pc' := 24) dX1_listed_23 rfl rfl ?_
      refine aw_dup2 (pc' := 25) dX1_listed_24 rfl rfl rfl ?_
      obtain ⟨g4, hf⟩ := gd_e hf
      refine aw_ia (q := (pt + 1)) (pc' := 26) H0 (okC.a1 o_pt) g4 dX1_listed_25 rfl ?_
      refine aw_iload_n (pc' := 27) dX1_listed_26 rfl rfl ?_
      refine aw_iload_n (pc' := 28) dX1_listed_27 rfl rfl ?_
      obtain ⟨r5, ec5, hf⟩ := b1_e hf
      refine aw_callSi (M' := mX1_bits) (nc' := 0) (ns' := 0) (pc' := 31) dX1_listed_28 rfl ml_RX1_29 kX1_bits (t_X1_bits ec5) rfl rfl (Nat.le_of_ble_eq_true rfl) (rokD (by omega) (Nat.le_of_ble_eq_true rfl) (Nat.le_of_ble_eq_true rfl) (Nat.le_of_ble_eq_true rfl)) rfl rfl (fun _ h5 q5 => ?_)
      obtain ⟨rfl, rfl⟩ := q5
      refine aw_ior (pc' := 32) dX1_listed_31 rfl ?_
      obtain ⟨v6, ev6, hf⟩ := vl_e hf
      refine aw_topi ev6 ?_
      obtain ⟨g7, hf⟩ := gd_e hf
      obtain ⟨s8, es8, hf⟩ := st_e hf
      refine aw_is (q := (pt + 1)) (pc' := 33) es8 H0 (okC.a1 o_pt) g7 dX1_listed_32 rfl (fun h8 H8 => ?_)
      have m8 := Mo.ofI es8
      refine aw_aload_n (pc' := 34) dX1_listed_33 rfl rfl rfl ?_
      refine aw_dup (pc' := 35) dX1_listed_34 rfl rfl ?_
      refine aw_gi (q := pt) (pc' := 38) H8 (okC.ob (okC.mo o_pt m8)) (by decide) rfl dX1_listed_35 rfl fl_RX1_33 ?_
      refine aw_iconst (v := 1) (pc' := 39) dX1_listed_38 rfl ic_1 ?_
      refine aw_iadd (pc' := 40) dX1_listed_39 rfl ?_
      obtain ⟨v10, ev10, hf⟩ := vl_e hf
      refine aw_topi ev10 ?_
      obtain ⟨s11, es11, hf⟩ := st_e hf
      refine aw_pi (q := pt) (pc' := 43) es11 H8 (okC.ob (okC.mo o_pt m8)) (by decide) rfl dX1_listed_40 rfl fl_RX1_33 rfl (fun h11 H11 => ?_)
      have m11 := Mo.ofS es11
      refine aw_aload_n (pc' := 44) dX1_listed_43 rfl rfl rfl ?_
      refine aw_gi (q := pt) (pc' := 47) H11 (okC.ob (okC.mo o_pt (m8.tr m11))) (by decide) rfl dX1_listed_44 rfl fl_RX1_33 ?_
      obtain ⟨rfl, rfl⟩ := so2 hf
      exact aw_ri dX1_listed_47 rfl rfl (Nat.le_of_ble_eq_true rfl) (Nat.le_of_ble_eq_true rfl) ⟨rfl, H11, (m8.tr m11)⟩
  · replace hf := ifn c1 hf
    refine aw_bipush (v := (-3)) (pc' := 11) dX1_listed_9 rfl bp_m3 ?_
    obtain ⟨rfl, rfl⟩ := so2 hf
    exact aw_ri dX1_listed_11 rfl rfl (Nat.le_of_ble_eq_true rfl) (Nat.le_of_ble_eq_true rfl) ⟨rfl, H0, (Mo.rf _)⟩
/-! ThirtyThreeBelow$Chart.isUnlike -/
noncomputable def f_X1_isUnlike (s0 : SS) (pt : Nat) (a0 : Int32) (a1 : Int32) (a2 : Int32) (a3 : Int32) : Option Int32 := (b1 (f_X1_bits a1 a2) fun r1 => (b1 (f_X11_isYard a0) fun r2 => (jn (fun (t3_0 : Int32) => (jn (fun (t4_0 : Int32) => (if a3 = 0 then (if (r1 &&& ((t3_0 ||| t4_0) ^^^ ((-1) : Int32))) = (0 : Int32) then some 1 else some 0) else (if a3 = 1 then (if (r1 &&& t3_0) = (0 : Int32) then some 1 else some 0) else (if (r1 &&& t4_0) = (0 : Int32) then some 1 else some 0)))) fun k4 => (if a0 = (zS s0 pt 2) then (b1 (f_X1_bits (zS s0 pt 0) (zS s0 pt 1)) fun r12 => (k4 r12)) else (k4 0)))) fun k3 => (if r2 = (0 : Int32) then (k3 0) else (gd (inB a0 61) (k3 (zI s0 (pt + 1) (a0.toInt.toNat))))))))
set_option maxRecDepth 4000 in
theorem t_X1_isUnlike {r9 : Int32} {s0 : SS} {h0 : List aE} {pt : Nat} {a0 : Int32} {a1 : Int32} {a2 : Int32} {a3 : Int32} (H0 : HH s0 h0) (o_pt : okC s0 pt) (hf : f_X1_isUnlike s0 pt a0 a1 a2 a3 = some r9) : AM mX1_isUnlike (1) [.ref (pt + 8), .int a0, .int a1, .int a2, .int a3] h0 0 0 (PI fun r' h' => r9 = r' ∧ h0 = h' ∧ (r9 = 0 ∨ r9 = 1)) := by
  unfold f_X1_isUnlike at hf
  refine am_of (lv := [some (.ref (pt + 8)), some (.int a0), some (.int a1), some (.int a2), some (.int a3), none, none, none]) rfl (Nat.le_of_ble_eq_true rfl) rfl ?_
  refine aw_iload_n (pc' := 1) dX1_isUnlike_0 rfl rfl ?_
  refine aw_iload_n (pc' := 2) dX1_isUnlike_1 rfl rfl ?_
  obtain ⟨r1, ec1, hf⟩ := b1_e hf
  refine aw_callSi (M' := mX1_bits) (nc' := 0) (ns' := 0) (pc' := 5) dX1_isUnlike_2 rfl ml_RX1_29 kX1_bits (t_X1_bits ec1) rfl rfl (Nat.le_of_ble_eq_true rfl) (rokD (by omega) (Nat.le_of_ble_eq_true rfl) (Nat.le_of_ble_eq_true rfl) (Nat.le_of_ble_eq_true rfl)) rfl rfl (fun _ h1 q1 => ?_)
  obtain ⟨rfl, rfl⟩ := q1
  refine aw_istore (lv' := [_, _, _, _, _, _, _, _]) (pc' := 7) dX1_isUnlike_5 rfl (Nat.le_of_ble_eq_true rfl) rfl ?_
  refine aw_iload_n (pc' := 8) dX1_isUnlike_7 rfl rfl ?_
  obtain ⟨r2, ec2, hf⟩ := b1_e hf
  refine aw_callSNi (host := "ThirtyThreeBelow") (M' := mX11_isYard) (nc' := 0) (ns' := 0) (pc' := 11) dX1_isUnlike_8 rfl (by decide) kX11_isYard (t_X11_isYard ec2) rfl rfl (Nat.le_of_ble_eq_true rfl) (rokD (by omega) (Nat.le_of_ble_eq_true rfl) (Nat.le_of_ble_eq_true rfl) (Nat.le_of_ble_eq_true rfl)) rfl rfl (fun _ h2 q2 => ?_)
  obtain ⟨rfl, rfl, zb2⟩ := q2
  obtain ⟨k3, ek3, hf⟩ := jn_e hf
  have hk3 : ∀ (t3_0 : Int32), k3 t3_0 = some r9 → AW mX1_isUnlike (rmD (1) 0 0) (fin (PI fun r' h' => r9 = r' ∧ h0 = h' ∧ (r9 = 0 ∨ r9 = 1)) 0 0) 24 [some (.ref (pt + 8)), some (.int a0), none, none, some (.int a3), some (.int r1), none, none] [.int t3_0] h0 0 0 := by
    intro t3_0 hf
    subst ek3
    refine aw_istore (lv' := [_, _, _, _, _, _, _, _]) (pc' := 26) dX1_isUnlike_24 rfl (Nat.le_of_ble_eq_true rfl) rfl ?_
    refine aw_iload_n (pc' := 27) dX1_isUnlike_26 rfl rfl ?_
    refine aw_aload_n (pc' := 28) dX1_isUnlike_27 rfl rfl rfl ?_
    refine aw_gi (q := pt) (pc' := 31) H0 (okC.ob o_pt) (by decide) rfl dX1_isUnlike_28 rfl fl_RX1_22 ?_
    obtain ⟨k4, ek4, hf⟩ := jn_e hf
    have hk4 : ∀ (t4_0 : Int32), k4 t4_0 = some r9 → AW mX1_isUnlike (rmD (1) 0 0) (fin (PI fun r' h' => r9 = r' ∧ h0 = h' ∧ (r9 = 0 ∨ r9 = 1)) 0 0) 49 [none, none, none, none, some (.int a3), some (.int r1), some (.int t3_0), none] [.int t4_0] h0 0 0 := by
      intro t4_0 hf
      subst ek4
      refine aw_istore (lv' := [_, _, _, _, _, _, _, _]) (pc' := 51) dX1_isUnlike_49 rfl (Nat.le_of_ble_eq_true rfl) rfl ?_
      refine aw_iload (pc' := 53) dX1_isUnlike_51 rfl rfl ?_
      rcases Decidable.em (a3 = 0) with c5 | c5
      · replace hf := ifp c5 hf
        refine aw_lookup (tgt := 80) (off := 27) dX1_isUnlike_53 (by decide) (by rw [c5]; decide) (by decide) ?_
        refine aw_iload (pc' := 82) dX1_isUnlike_80 rfl rfl ?_
        refine aw_iload (pc' := 84) dX1_isUnlike_82 rfl rfl ?_
        refine aw_iload (pc' := 86) dX1_isUnlike_84 rfl rfl ?_
        refine aw_ior (pc' := 87) dX1_isUnlike_86 rfl ?_
        refine aw_iconst (v := (-1)) (pc' := 88) dX1_isUnlike_87 rfl ic_m1 ?_
        refine aw_ixor (pc' := 89) dX1_isUnlike_88 rfl ?_
        refine aw_iand (pc' := 90) dX1_isUnlike_89 rfl ?_
        refine aw_if_ne (tgt := 97) (pc' := 93) dX1_isUnlike_90 rfl rfl (fun c6 => ?_) (fun c6 => ?_)
        · replace hf := ifn c6 hf
          refine aw_iconst (v := 0) (pc' := 98) dX1_isUnlike_97 rfl ic_0 ?_
          obtain rfl := Option.some.inj hf
          exact aw_ri dX1_isUnlike_98 rfl (by decide) (Nat.le_of_ble_eq_true rfl) (Nat.le_of_ble_eq_true rfl) ⟨rfl, rfl, Or.inl rfl⟩
        · replace hf := ifp c6 hf
          refine aw_iconst (v := 1) (pc' := 94) dX1_isUnlike_93 rfl ic_1 ?_
          refine aw_goto (tgt := 98) dX1_isUnlike_94 rfl ?_
          obtain rfl := Option.some.inj hf
          exact aw_ri dX1_isUnlike_98 rfl (by decide) (Nat.le_of_ble_eq_true rfl) (Nat.le_of_ble_eq_true rfl) ⟨rfl, rfl, Or.inr rfl⟩
      replace hf := ifn c5 hf
      rcases Decidable.em (a3 = 1) with c7 | c7
      · replace hf := ifp c7 hf
        refine aw_lookup (tgt := 99) (off := 46) dX1_isUnlike_53 (by decide) (by rw [c7]; decide) (by decide) ?_
        refine aw_iload (pc' := 101) dX1_isUnlike_99 rfl rfl ?_
        refine aw_iload (pc' := 103) dX1_isUnlike_101 rfl rfl ?_
        refine aw_iand (pc' := 104) dX1_isUnlike_103 rfl ?_
        refine aw_if_ne (tgt := 111) (pc' := 107) dX1_isUnlike_104 rfl rfl (fun c8 => ?_) (fun c8 => ?_)
        · replace hf := ifn c8 hf
          refine aw_iconst (v := 0) (pc' := 112) dX1_isUnlike_111 rfl ic_0 ?_
          obtain rfl := Option.some.inj hf
          exact aw_ri dX1_isUnlike_112 rfl (by decide) (Nat.le_of_ble_eq_true rfl) (Nat.le_of_ble_eq_true rfl) ⟨rfl, rfl, Or.inl rfl⟩
        · replace hf := ifp c8 hf
          refine aw_iconst (v := 1) (pc' := 108) dX1_isUnlike_107 rfl ic_1 ?_
          refine aw_goto (tgt := 112) dX1_isUnlike_108 rfl ?_
          obtain rfl := Option.some.inj hf
          exact aw_ri dX1_isUnlike_112 rfl (by decide) (Nat.le_of_ble_eq_true rfl) (Nat.le_of_ble_eq_true rfl) ⟨rfl, rfl, Or.inr rfl⟩
      replace hf := ifn c7 hf
      refine aw_lookup (tgt := 113) (off := 60) dX1_isUnlike_53 (by decide) (by have a0 := tneS (K := 0) (by decide) c5; have a1 := tneS (K := 1) (by decide) c7; simp [Op.lookupswitch.offset, a0, a1]) (by decide) ?_
      refine aw_iload (pc' := 115) dX1_isUnlike_113 rfl rfl ?_
      refine aw_iload (pc' := 117) dX1_isUnlike_115 rfl rfl ?_
      refine aw_iand (pc' := 118) dX1_isUnlike_117 rfl ?_
      refine aw_if_ne (tgt := 125) (pc' := 121) dX1_isUnlike_118 rfl rfl (fun c10 => ?_) (fun c10 => ?_)
      · replace hf := ifn c10 hf
        refine aw_iconst (v := 0) (pc' := 126) dX1_isUnlike_125 rfl ic_0 ?_
        obtain rfl := Option.some.inj hf
        exact aw_ri dX1_isUnlike_126 rfl (by decide) (Nat.le_of_ble_eq_true rfl) (Nat.le_of_ble_eq_true rfl) ⟨rfl, rfl, Or.inl rfl⟩
      · replace hf := ifp c10 hf
        refine aw_iconst (v := 1) (pc' := 122) dX1_isUnlike_121 rfl ic_1 ?_
        refine aw_goto (tgt := 126) dX1_isUnlike_122 rfl ?_
        obtain rfl := Option.some.inj hf
        exact aw_ri dX1_isUnlike_126 rfl (by decide) (Nat.le_of_ble_eq_true rfl) (Nat.le_of_ble_eq_true rfl) ⟨rfl, rfl, Or.inr rfl⟩
    clear ek4
    refine aw_icmp_ne (tgt := 48) (pc' := 34) dX1_isUnlike_31 rfl rfl (fun c11 => ?_) (fun c11 => ?_)
    · replace hf := ifn c11 hf
      refine aw_iconst (v := 0) (pc' := 49) dX1_isUnlike_48 rfl ic_0 ?_
      refine AW.lv_le (lz_d (lz_d (lz_d (lz_d (lz_k (lz_k (lz_k (lz_d lz_0)))))))) ?_
      exact hk4 _ hf
    · replace hf := ifp c11 hf
      refine aw_aload_n (pc' := 35) dX1_isUnlike_34 rfl rfl rfl ?_
      refine aw_gi (q := pt) (pc' := 38) H0 (okC.ob o_pt) (by decide) rfl dX1_isUnlike_35 rfl fl_RX1_15 ?_
      refine aw_aload_n (pc' := 39) dX1_isUnlike_38 rfl rfl rfl ?_
      refine aw_gi (q := pt) (pc' := 42) H0 (okC.ob o_pt) (by decide) rfl dX1_isUnlike_39 rfl fl_RX1_19 ?_
      obtain ⟨r12, ec12, hf⟩ := b1_e hf
      refine aw_callSi (M' := mX1_bits) (nc' := 0) (ns' := 0) (pc' := 45) dX1_isUnlike_42 rfl ml_RX1_29 kX1_bits (t_X1_bits ec12) rfl rfl (Nat.le_of_ble_eq_true rfl) (rokD (by omega) (Nat.le_of_ble_eq_true rfl) (Nat.le_of_ble_eq_true rfl) (Nat.le_of_ble_eq_true rfl)) rfl rfl (fun _ h12 q12 => ?_)
      obtain ⟨rfl, rfl⟩ := q12
      refine aw_goto (tgt := 49) dX1_isUnlike_45 rfl ?_
      refine AW.lv_le (lz_d (lz_d (lz_d (lz_d (lz_k (lz_k (lz_k (lz_d lz_0)))))))) ?_
      exact hk4 _ hf
  clear ek3
  refine aw_if_eq (tgt := 23) (pc' := 14) dX1_isUnlike_11 rfl rfl (fun c13 => ?_) (fun c13 => ?_)
  · replace hf := ifp c13 hf
    refine aw_iconst (v := 0) (pc' := 24) dX1_isUnlike_23 rfl ic_0 ?_
    refine AW.lv_le (lz_k (lz_k (lz_d (lz_d (lz_k (lz_k (lz_d (lz_d lz_0)))))))) ?_
    exact hk3 _ hf
  · replace hf := ifn c13 hf
    refine aw_aload_n (pc' := 15) dX1_isUnlike_14 rfl rfl rfl ?_
    refine aw_gr (q := pt) (e := 3) (v := .ref (pt + 1 + 8)) (pc' := 18) H0 (okC.ob o_pt) (by decide) rfl rfl dX1_isUnlike_15 rfl fl_RX1_9 ?_
    refine aw_iload_n (pc' := 19) dX1_isUnlike_18 rfl rfl ?_
    obtain ⟨g14, hf⟩ := gd_e hf
    refine aw_ia (q := (pt + 1)) (pc' := 20) H0 (okC.a1 o_pt) g14 dX1_isUnlike_19 rfl ?_
    refine aw_goto (tgt := 24) dX1_isUnlike_20 rfl ?_
    refine AW.lv_le (lz_k (lz_k (lz_d (lz_d (lz_k (lz_k (lz_d (lz_d lz_0)))))))) ?_
    exact hk3 _ hf
/-! ThirtyThreeBelow$Chart.edge -/
noncomputable def f_X1_edge (s0 : SS) (pt : Nat) (a0 : Int32) : Option Int32 := (if a0 = 0 then some (zS s0 pt 0) else (if a0 = 1 then some (zS s0 pt 1) else (if a0 = 2 then some (zS s0 pt 2) else (if a0 = 3 then some (zS s0 pt 2) else (if a0 = 4 then some (zS s0 pt 0) else (if a0 = 5 then some (zS s0 pt 1) else some (zS s0 pt 2)))))))
set_option maxRecDepth 4000 in
theorem t_X1_edge {r9 : Int32} {s0 : SS} {h0 : List aE} {pt : Nat} {a0 : Int32} (H0 : HH s0 h0) (o_pt : okC s0 pt) (hf : f_X1_edge s0 pt a0 = some r9) : AM mX1_edge (0) [.ref (pt + 8), .int a0] h0 0 0 (PI fun r' h' => r9 = r' ∧ h0 = h') := by
  unfold f_X1_edge at hf
  refine am_of (lv := [some (.ref (pt + 8)), some (.int a0)]) rfl (Nat.le_of_ble_eq_true rfl) rfl ?_
  refine aw_iload_n (pc' := 1) dX1_edge_0 rfl rfl ?_
  rcases Decidable.em (a0 = 0) with c1 | c1
  · replace hf := ifp c1 hf
    refine aw_tabIn (tgt := 40) (off := 39) dX1_edge_1 (by rw [c1]; decide) (by rw [c1]; decide) (by rw [c1]; decide) (by decide) ?_
    refine aw_aload_n (pc' := 41) dX1_edge_40 rfl rfl rfl ?_
    refine aw_gi (q := pt) (pc' := 44) H0 (okC.ob o_pt) (by decide) rfl dX1_edge_41 rfl fl_RX1_15 ?_
    obtain rfl := Option.some.inj hf
    exact aw_ri dX1_edge_44 rfl rfl (Nat.le_of_ble_eq_true rfl) (Nat.le_of_ble_eq_true rfl) ⟨rfl, rfl⟩
  replace hf := ifn c1 hf
  rcases Decidable.em (a0 = 1) with c2 | c2
  · replace hf := ifp c2 hf
    refine aw_tabIn (tgt := 45) (off := 44) dX1_edge_1 (by rw [c2]; decide) (by rw [c2]; decide) (by rw [c2]; decide) (by decide) ?_
    refine aw_aload_n (pc' := 46) dX1_edge_45 rfl rfl rfl ?_
    refine aw_gi (q := pt) (pc' := 49) H0 (okC.ob o_pt) (by decide) rfl dX1_edge_46 rfl fl_RX1_19 ?_
    obtain rfl := Option.some.inj hf
    exact aw_ri dX1_edge_49 rfl rfl (Nat.le_of_ble_eq_true rfl) (Nat.le_of_ble_eq_true rfl) ⟨rfl, rfl⟩
  replace hf := ifn c2 hf
  rcases Decidable.em (a0 = 2) with c3 | c3
  · replace hf := ifp c3 hf
    refine aw_tabIn (tgt := 50) (off := 49) dX1_edge_1 (by rw [c3]; decide) (by rw [c3]; decide) (by rw [c3]; decide) (by decide) ?_
    refine aw_aload_n (pc' := 51) dX1_edge_50 rfl rfl rfl ?_
    refine aw_gi (q := pt) (pc' := 54) H0 (okC.ob o_pt) (by decide) rfl dX1_edge_51 rfl fl_RX1_22 ?_
    obtain rfl := Option.some.inj hf
    exact aw_ri dX1_edge_54 rfl rfl (Nat.le_of_ble_eq_true rfl) (Nat.le_of_ble_eq_true rfl) ⟨rfl, rfl⟩
  replace hf := ifn c3 hf
  rcases Decidable.em (a0 = 3) with c4 | c4
  · replace hf := ifp c4 hf
    refine aw_tabIn (tgt := 50) (off := 49) dX1_edge_1 (by rw [c4]; decide) (by rw [c4]; decide) (by rw [c4]; decide) (by decide) ?_
    refine aw_aload_n (pc' := 51) dX1_edge_50 rfl rfl rfl ?_
    refine aw_gi (q := pt) (pc' := 54) H0 (okC.ob o_pt) (by decide) rfl dX1_edge_51 rfl fl_RX1_22 ?_
    obtain rfl := Option.some.inj hf
    exact aw_ri dX1_edge_54 rfl rfl (Nat.le_of_ble_eq_true rfl) (Nat.le_of_ble_eq_true rfl) ⟨rfl, rfl⟩
  replace hf := ifn c4 hf
  rcases Decidable.em (a0 = 4) with c5 | c5
  · replace hf := ifp c5 hf
    refine aw_tabIn (tgt := 40) (off := 39) dX1_edge_1 (by rw [c5]; decide) (by rw [c5]; decide) (by rw [c5]; decide) (by decide) ?_
    refine aw_aload_n (pc' := 41) dX1_edge_40 rfl rfl rfl ?_
    refine aw_gi (q := pt) (pc' := 44) H0 (okC.ob o_pt) (by decide) rfl dX1_edge_41 rfl fl_RX1_15 ?_
    obtain rfl := Option.some.inj hf
    exact aw_ri dX1_edge_44 rfl rfl (Nat.le_of_ble_eq_true rfl) (Nat.le_of_ble_eq_true rfl) ⟨rfl, rfl⟩
  replace hf := ifn c5 hf
  rcases Decidable.em (a0 = 5) with c6 | c6
  · replace hf := ifp c6 hf
    refine aw_tabIn (tgt := 45) (off := 44) dX1_edge_1 (by rw [c6]; decide) (by rw [c6]; decide) (by rw [c6]; decide) (by decide) ?_
    refine aw_aload_n (pc' := 46) dX1_edge_45 rfl rfl rfl ?_
    refine aw_gi (q := pt) (pc' := 49) H0 (okC.ob o_pt) (by decide) rfl dX1_edge_46 rfl fl_RX1_19 ?_
    obtain rfl := Option.some.inj hf
    exact aw_ri dX1_edge_49 rfl rfl (Nat.le_of_ble_eq_true rfl) (Nat.le_of_ble_eq_true rfl) ⟨rfl, rfl⟩
  replace hf := ifn c6 hf
  refine aw_tabOut (tgt := 50) dX1_edge_1 (by have a0 := tneK (K := 0) (by decide) c1; have a1 := tneK (K := 1) (by decide) c2; have a2 := tneK (K := 2) (by decide) c3; have a3 := tneK (K := 3) (by decide) c4; have a4 := tneK (K := 4) (by decide) c5; have a5 := tneK (K := 5) (by decide) c6; omega) (by decide) ?_
  refine aw_aload_n (pc' := 51) dX1_edge_50 rfl rfl rfl ?_
  refine aw_gi (q := pt) (pc' := 54) H0 (okC.ob o_pt) (by decide) rfl dX1_edge_51 rfl fl_RX1_22 ?_
  obtain rfl := Option.some.inj hf
  exact aw_ri dX1_edge_54 rfl rfl (Nat.le_of_ble_eq_true rfl) (Nat.le_of_ble_eq_true rfl) ⟨rfl, rfl⟩
/-! ThirtyThreeBelow$Crew.comes -/
noncomputable def f_X2_comes (s0 : SS) (a0 : Int32) (a1 : Int32) (a2 : Int32) (a3 : Int32) : Option SS := (if a0 < (0 : Int32) then some s0 else (if a0 < (120 : Int32) then (gd (inB a0 120) (st (pI s0 7 (a0.toInt.toNat) a1) fun s4 => (gd (inB a0 120) (st (pI s4 8 (a0.toInt.toNat) a2) fun s6 => (gd (inB a0 120) (st (pI s6 9 (a0.toInt.toNat) a3) fun s8 => (gd (inB a0 120) (st (pI s8 10 (a0.toInt.toNat) 1) fun s11 => (vl (((zS s11 6 4) + (1 : Int32))) fun v12 => (st (pS s11 6 4 v12) fun s13 => some s13)))))))))) else some s0))
set_option maxRecDepth 4000 in
theorem t_X2_comes {s0 s9 : SS} {h0 : List aE} {a0 : Int32} {a1 : Int32} {a2 : Int32} {a3 : Int32} (H0 : HH s0 h0) (hf : f_X2_comes s0 a0 a1 a2 a3 = some s9) : AM mX2_comes (0) [.ref 14, .int a0, .int a1, .int a2, .int a3] h0 0 0 (PV fun h' => HH s9 h' ∧ Mo s0 s9) := by
  unfold f_X2_comes at hf
  refine am_of (lv := [some (.ref 14), some (.int a0), some (.int a1), some (.int a2), some (.int a3)]) rfl (Nat.le_of_ble_eq_true rfl) rfl ?_
  refine aw_iload_n (pc' := 1) dX2_comes_0 rfl rfl ?_
  refine aw_zlt (tgt := 10) (pc' := 4) dX2_comes_1 rfl rfl (fun c1 => ?_) (fun c1 => ?_)
  · replace hf := ifp c1 hf
    obtain rfl := Option.some.inj hf
    exact aw_rv dX2_comes_10 rfl (Nat.le_of_ble_eq_true rfl) (Nat.le_of_ble_eq_true rfl) ⟨H0, (Mo.rf _)⟩
  · replace hf := ifn c1 hf
    refine aw_iload_n (pc' := 5) dX2_comes_4 rfl rfl ?_
    refine aw_bipush (v := 120) (pc' := 7) dX2_comes_5 rfl bp_120 ?_
    refine aw_clt (tgt := 11) (pc' := 10) dX2_comes_7 rfl rfl (fun c2 => ?_) (fun c2 => ?_)
    · replace hf := ifp c2 hf
      refine aw_aload_n (pc' := 12) dX2_comes_11 rfl rfl rfl ?_
      refine aw_gr (q := 6) (e := 3) (v := .ref 15) (pc' := 15) H0 (H0.fo rfl rfl) (l13 rfl) rfl rfl dX2_comes_12 rfl fl_RX2_9 ?_
      refine aw_iload_n (pc' := 16) dX2_comes_15 rfl rfl ?_
      refine aw_iload_n (pc' := 17) dX2_comes_16 rfl rfl ?_
      obtain ⟨g3, hf⟩ := gd_e hf
      obtain ⟨s4, es4, hf⟩ := st_e hf
      refine aw_is (q := 7) (pc' := 18) es4 H0 (H0.fa rfl rfl rfl) g3 dX2_comes_17 rfl (fun h4 H4 => ?_)
      have m4 := Mo.ofI es4
      refine aw_aload_n (pc' := 19) dX2_comes_18 rfl rfl rfl ?_
      refine aw_gr (q := 6) (e := 5) (v := .ref 16) (pc' := 22) H4 (H4.fo rfl rfl) (l13 rfl) rfl rfl dX2_comes_19 rfl fl_RX2_15 ?_
      refine aw_iload_n (pc' := 23) dX2_comes_22 rfl rfl ?_
      refine aw_iload_n (pc' := 24) dX2_comes_23 rfl rfl ?_
      obtain ⟨g5, hf⟩ := gd_e hf
      obtain ⟨s6, es6, hf⟩ := st_e hf
      refine aw_is (q := 8) (pc' := 25) es6 H4 (H4.fa rfl rfl rfl) g5 dX2_comes_24 rfl (fun h6 H6 => ?_)
      have m6 := Mo.ofI es6
      refine aw_aload_n (pc' := 26) dX2_comes_25 rfl rfl rfl ?_
      refine aw_gr (q := 6) (e := 7) (v := .ref 17) (pc' := 29) H6 (H6.fo rfl rfl) (l13 rfl) rfl rfl dX2_comes_26 rfl fl_RX2_18 ?_
      refine aw_iload_n (pc' := 30) dX2_comes_29 rfl rfl ?_
      refine aw_iload (pc' := 32) dX2_comes_30 rfl rfl ?_
      obtain ⟨g7, hf⟩ := gd_e hf
      obtain ⟨s8, es8, hf⟩ := st_e hf
      refine aw_is (q := 9) (pc' := 33) es8 H6 (H6.fa rfl rfl rfl) g7 dX2_comes_32 rfl (fun h8 H8 => ?_)
      have m8 := Mo.ofI es8
      refine aw_aload_n (pc' := 34) dX2_comes_33 rfl rfl rfl ?_
      refine aw_gr (q := 6) (e := 9) (v := .ref 18) (pc' := 37) H8 (H8.fo rfl rfl) (l13 rfl) rfl rfl dX2_comes_34 rfl fl_RX2_21 ?_
      refine aw_iload_n (pc' := 38) dX2_comes_37 rfl rfl ?_
      refine aw_iconst (v := 1) (pc' := 39) dX2_comes_38 rfl ic_1 ?_
      obtain ⟨g10, hf⟩ := gd_e hf
      obtain ⟨s11, es11, hf⟩ := st_e hf
      refine aw_is (q := 10) (pc' := 40) es11 H8 (H8.fa rfl rfl rfl) g10 dX2_comes_39 rfl (fun h11 H11 => ?_)
      have m11 := Mo.ofI es11
      refine aw_aload_n (pc' := 41) dX2_comes_40 rfl rfl rfl ?_
      refine aw_dup (pc' := 42) dX2_comes_41 rfl rfl ?_
      refine aw_gi (q := 6) (pc' := 45) H11 (H11.fo rfl rfl) (l13 rfl) rfl dX2_comes_42 rfl fl_RX2_36 ?_
      refine aw_iconst (v := 1) (pc' := 46) dX2_comes_45 rfl ic_1 ?_
      refine aw_iadd (pc' := 47) dX2_comes_46 rfl ?_
      obtain ⟨v12, ev12, hf⟩ := vl_e hf
      refine aw_topi ev12 ?_
      obtain ⟨s13, es13, hf⟩ := st_e hf
      refine aw_pi (q := 6) (pc' := 50) es13 H11 (H11.fo rfl rfl) (by decide) rfl dX2_comes_47 rfl fl_RX2_36 rfl (fun h13 H13 => ?_)
      have m13 := Mo.ofS es13
      obtain rfl := Option.some.inj hf
      exact aw_rv dX2_comes_50 rfl (Nat.le_of_ble_eq_true rfl) (Nat.le_of_ble_eq_true rfl) ⟨H13, ((((m4.tr m6).tr m8).tr m11).tr m13)⟩
    · replace hf := ifn c2 hf
      obtain rfl := Option.some.inj hf
      exact aw_rv dX2_comes_10 rfl (Nat.le_of_ble_eq_true rfl) (Nat.le_of_ble_eq_true rfl) ⟨H0, (Mo.rf _)⟩
/-! ThirtyThreeBelow$Crew.ofMan -/
noncomputable def f_X2_ofMan (s0 : SS) (a0 : Int32) (a1 : Int32) : Option Int32 := (if a0 < (0 : Int32) then some (-2000000000) else (if a0 < (120 : Int32) then (if a1 = 1 then (gd (inB a0 120) (some (zI s0 7 (a0.toInt.toNat)))) else (if a1 = 2 then (gd (inB a0 120) (some (zI s0 8 (a0.toInt.toNat)))) else (if a1 = 3 then (gd (inB a0 120) (some (zI s0 9 (a0.toInt.toNat)))) else (if a1 = 4 then (gd (inB a0 120) (some (zI s0 10 (a0.toInt.toNat)))) else some (-2000000000))))) else some (-2000000000)))
set_option maxRecDepth 4000 in
theorem t_X2_ofMan {r9 : Int32} {s0 : SS} {h0 : List aE} {a0 : Int32} {a1 : Int32} (H0 : HH s0 h0) (hf : f_X2_ofMan s0 a0 a1 = some r9) : AM mX2_ofMan (0) [.ref 14, .int a0, .int a1] h0 0 0 (PI fun r' h' => r9 = r' ∧ h0 = h') := by
  unfold f_X2_ofMan at hf
  refine am_of (lv := [some (.ref 14), some (.int a0), some (.int a1)]) rfl (Nat.le_of_ble_eq_true rfl) rfl ?_
  refine aw_iload_n (pc' := 1) dX2_ofMan_0 rfl rfl ?_
  refine aw_zlt (tgt := 10) (pc' := 4) dX2_ofMan_1 rfl rfl (fun c1 => ?_) (fun c1 => ?_)
  · replace hf := ifp c1 hf
    refine aw_ldc (pc' := 12) dX2_ofMan_10 rfl ct_RX2_40 ?_
    obtain rfl := Option.some.inj hf
    exact aw_ri dX2_ofMan_12 rfl rfl (Nat.le_of_ble_eq_true rfl) (Nat.le_of_ble_eq_true rfl) ⟨rfl, rfl⟩
  · replace hf := ifn c1 hf
    refine aw_iload_n (pc' := 5) dX2_ofMan_4 rfl rfl ?_
    refine aw_bipush (v := 120) (pc' := 7) dX2_ofMan_5 rfl bp_120 ?_
    refine aw_clt (tgt := 13) (pc' := 10) dX2_ofMan_7 rfl rfl (fun c2 => ?_) (fun c2 => ?_)
    · replace hf := ifp c2 hf
      refine aw_iload_n (pc' := 14) dX2_ofMan_13 rfl rfl ?_
      rcases Decidable.em (a1 = 1) with c3 | c3
      · replace hf := ifp c3 hf
        refine aw_tabIn (tgt := 44) (off := 30) dX2_ofMan_14 (by rw [c3]; decide) (by rw [c3]; decide) (by rw [c3]; decide) (by decide) ?_
        refine aw_aload_n (pc' := 45) dX2_ofMan_44 rfl rfl rfl ?_
        refine aw_gr (q := 6) (e := 3) (v := .ref 15) (pc' := 48) H0 (H0.fo rfl rfl) (l13 rfl) rfl rfl dX2_ofMan_45 rfl fl_RX2_9 ?_
        refine aw_iload_n (pc' := 49) dX2_ofMan_48 rfl rfl ?_
        obtain ⟨g4, hf⟩ := gd_e hf
        refine aw_ia (q := 7) (pc' := 50) H0 (H0.fa rfl rfl rfl) g4 dX2_ofMan_49 rfl ?_
        obtain rfl := Option.some.inj hf
        exact aw_ri dX2_ofMan_50 rfl rfl (Nat.le_of_ble_eq_true rfl) (Nat.le_of_ble_eq_true rfl) ⟨rfl, rfl⟩
      replace hf := ifn c3 hf
      rcases Decidable.em (a1 = 2) with c5 | c5
      · replace hf := ifp c5 hf
        refine aw_tabIn (tgt := 51) (off := 37) dX2_ofMan_14 (by rw [c5]; decide) (by rw [c5]; decide) (by rw [c5]; decide) (by decide) ?_
        refine aw_aload_n (pc' := 52) dX2_ofMan_51 rfl rfl rfl ?_
        refine aw_gr (q := 6) (e := 5) (v := .ref 16) (pc' := 55) H0 (H0.fo rfl rfl) (l13 rfl) rfl rfl dX2_ofMan_52 rfl fl_RX2_15 ?_
        refine aw_iload_n (pc' := 56) dX2_ofMan_55 rfl rfl ?_
        obtain ⟨g6, hf⟩ := gd_e hf
        refine aw_ia (q := 8) (pc' := 57) H0 (H0.fa rfl rfl rfl) g6 dX2_ofMan_56 rfl ?_
        obtain rfl := Option.some.inj hf
        exact aw_ri dX2_ofMan_57 rfl rfl (Nat.le_of_ble_eq_true rfl) (Nat.le_of_ble_eq_true rfl) ⟨rfl, rfl⟩
      replace hf := ifn c5 hf
      rcases Decidable.em (a1 = 3) with c7 | c7
      · replace hf := ifp c7 hf
        refine aw_tabIn (tgt := 58) (off := 44) dX2_ofMan_14 (by rw [c7]; decide) (by rw [c7]; decide) (by rw [c7]; decide) (by decide) ?_
        refine aw_aload_n (pc' := 59) dX2_ofMan_58 rfl rfl rfl ?_
        refine aw_gr (q := 6) (e := 7) (v := .ref 17) (pc' := 62) H0 (H0.fo rfl rfl) (l13 rfl) rfl rfl dX2_ofMan_59 rfl fl_RX2_18 ?_
        refine aw_iload_n (pc' := 63) dX2_ofMan_62 rfl rfl ?_
        obtain ⟨g8, hf⟩ := gd_e hf
        refine aw_ia (q := 9) (pc' := 64) H0 (H0.fa rfl rfl rfl) g8 dX2_ofMan_63 rfl ?_
        obtain rfl := Option.some.inj hf
        exact aw_ri dX2_ofMan_64 rfl rfl (Nat.le_of_ble_eq_true rfl) (Nat.le_of_ble_eq_true rfl) ⟨rfl, rfl⟩
      replace hf := ifn c7 hf
      rcases Decidable.em (a1 = 4) with c10 | c10
      · replace hf := ifp c10 hf
        refine aw_tabIn (tgt := 65) (off := 51) dX2_ofMan_14 (by rw [c10]; decide) (by rw [c10]; decide) (by rw [c10]; decide) (by decide) ?_
        refine aw_aload_n (pc' := 66) dX2_ofMan_65 rfl rfl rfl ?_
        refine aw_gr (q := 6) (e := 9) (v := .ref 18) (pc' := 69) H0 (H0.fo rfl rfl) (l13 rfl) rfl rfl dX2_ofMan_66 rfl fl_RX2_21 ?_
        refine aw_iload_n (pc' := 70) dX2_ofMan_69 rfl rfl ?_
        obtain ⟨g11, hf⟩ := gd_e hf
        refine aw_ia (q := 10) (pc' := 71) H0 (H0.fa rfl rfl rfl) g11 dX2_ofMan_70 rfl ?_
        obtain rfl := Option.some.inj hf
        exact aw_ri dX2_ofMan_71 rfl rfl (Nat.le_of_ble_eq_true rfl) (Nat.le_of_ble_eq_true rfl) ⟨rfl, rfl⟩
      replace hf := ifn c10 hf
      refine aw_tabOut (tgt := 72) dX2_ofMan_14 (by have a0 := tneK (K := 1) (by decide) c3; have a1 := tneK (K := 2) (by decide) c5; have a2 := tneK (K := 3) (by decide) c7; have a3 := tneK (K := 4) (by decide) c10; omega) (by decide) ?_
      refine aw_ldc (pc' := 74) dX2_ofMan_72 rfl ct_RX2_40 ?_
      obtain rfl := Option.some.inj hf
      exact aw_ri dX2_ofMan_74 rfl rfl (Nat.le_of_ble_eq_true rfl) (Nat.le_of_ble_eq_true rfl) ⟨rfl, rfl⟩
    · replace hf := ifn c2 hf
      refine aw_ldc (pc' := 12) dX2_ofMan_10 rfl ct_RX2_40 ?_
      obtain rfl := Option.some.inj hf
      exact aw_ri dX2_ofMan_12 rfl rfl (Nat.le_of_ble_eq_true rfl) (Nat.le_of_ble_eq_true rfl) ⟨rfl, rfl⟩
/-! ThirtyThreeBelow.held -/
noncomputable def f_X11_held (a0 : Int32) (a1 : Int32) (a2 : Int32) : Option Int32 := (b1 (f_J9_min_7cf53 a2 a0) fun r1 => (b1 (f_J9_max_7cf53 a1 r1) fun r2 => some r2))
set_option maxRecDepth 4000 in
theorem t_X11_held {r9 : Int32} {h0 : List aE} {a0 : Int32} {a1 : Int32} {a2 : Int32}  (hf : f_X11_held a0 a1 a2 = some r9) : AM mX11_held (1) [.int a0, .int a1, .int a2] h0 0 0 (PI fun r' h' => r9 = r' ∧ h0 = h') := by
  unfold f_X11_held at hf
  refine am_of (lv := [some (.int a0), some (.int a1), some (.int a2)]) rfl (Nat.le_of_ble_eq_true rfl) rfl ?_
  refine aw_iload_n (pc' := 1) dX11_held_0 rfl rfl ?_
  refine aw_iload_n (pc' := 2) dX11_held_1 rfl rfl ?_
  refine aw_iload_n (pc' := 3) dX11_held_2 rfl rfl ?_
  obtain ⟨r1, ec1, hf⟩ := b1_e hf
  refine aw_callSi (M' := mJ9_min_7cf53) (nc' := 0) (ns' := 0) (pc' := 6) dX11_held_3 rfl ml_RX11_255 kJ9_min_7cf53 (t_J9_min_7cf53 ec1) rfl rfl (Nat.le_of_ble_eq_true rfl) (rokD (by omega) (Nat.le_of_ble_eq_true rfl) (Nat.le_of_ble_eq_true rfl) (Nat.le_of_ble_eq_true rfl)) rfl rfl (fun _ h1 q1 => ?_)
  obtain ⟨rfl, rfl⟩ := q1
  obtain ⟨r2, ec2, hf⟩ := b1_e hf
  refine aw_callSi (M' := mJ9_max_7cf53) (nc' := 0) (ns' := 0) (pc' := 9) dX11_held_6 rfl ml_RX11_247 kJ9_max_7cf53 (t_J9_max_7cf53 ec2) rfl rfl (Nat.le_of_ble_eq_true rfl) (rokD (by omega) (Nat.le_of_ble_eq_true rfl) (Nat.le_of_ble_eq_true rfl) (Nat.le_of_ble_eq_true rfl)) rfl rfl (fun _ h2 q2 => ?_)
  obtain ⟨rfl, rfl⟩ := q2
  obtain rfl := Option.some.inj hf
  exact aw_ri dX11_held_9 rfl rfl (Nat.le_of_ble_eq_true rfl) (Nat.le_of_ble_eq_true rfl) ⟨rfl, rfl⟩
