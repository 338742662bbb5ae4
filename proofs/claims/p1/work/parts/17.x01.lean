set_option maxRecDepth 4000 in
theorem x_spread (h : List aE) (hx : Fx 0 h) (hlen : h.length = 126) (v : Int32) : AM mX11_spread 0 [.ref 8, .int v] h 0 0 (PI fun r h' => r = sp_spread v ∧ Sm h h') := by
  refine am_of (lv := [some (.ref 8), some (.int v), none]) rfl (Nat.le_of_ble_eq_true rfl) rfl ?_
  refine aw_iload_n (pc' := 1) dX11_spread_0 rfl rfl ?_
  refine aw_zlt (tgt := 10) (pc' := 4) dX11_spread_1 (by decide) rfl (fun c1 => ?_) (fun c1 => ?_)
  · refine aw_iconst (v := (-1)) (pc' := 11) dX11_spread_10 rfl (by decide) ?_
    exact aw_ri dX11_spread_11 rfl rfl (Nat.le_of_ble_eq_true rfl) (Nat.le_of_ble_eq_true rfl) ⟨(by first | (simp [sp_spread, cnd, okC, okS, okW, okN, inR, n2_, n3_, n5_, n31_, c1]; done) | (simp_all [sp_spread, cnd, okC, okS, okW, okN, inR, n2_, n3_, n5_, n31_]; done) | skip), sm_rf⟩
  · refine aw_iload_n (pc' := 5) dX11_spread_4 rfl rfl ?_
    refine aw_bipush (v := 8) (pc' := 7) dX11_spread_5 rfl (by decide) ?_
    refine aw_cle (tgt := 12) (pc' := 10) dX11_spread_7 (by decide) rfl (fun c2 => ?_) (fun c2 => ?_)
    · refine aw_aload_n (pc' := 13) dX11_spread_12 rfl rfl rfl ?_
      refine aw_get clsAll (pc' := 16) dX11_spread_13 rfl fl_RX11_94 hx.1 rfl ?_
      refine aw_istore_n (lv' := [_, _, _]) (pc' := 17) dX11_spread_16 rfl (Nat.le_of_ble_eq_true rfl) rfl ?_
      refine aw_aload_n (pc' := 18) dX11_spread_17 rfl rfl rfl ?_
      refine aw_iload_n (pc' := 19) dX11_spread_18 rfl rfl ?_
      refine aw_putG clsAll (pc' := 22) dX11_spread_19 rfl fl_RX11_94 hx.1 (Nat.le_of_ble_eq_true rfl) rfl (fun h3 e3 => ?_)
      refine aw_iload_n (pc' := 23) dX11_spread_22 rfl rfl ?_
      exact aw_ri dX11_spread_23 rfl rfl (Nat.le_of_ble_eq_true rfl) (Nat.le_of_ble_eq_true rfl) ⟨(by first | (simp [sp_spread, cnd, okC, okS, okW, okN, inR, n2_, n3_, n5_, n31_, c1, c2]; done) | (simp_all [sp_spread, cnd, okC, okS, okW, okN, inR, n2_, n3_, n5_, n31_]; done) | skip), (sm_set e3 (by decide) sm_rf)⟩
    · refine aw_iconst (v := (-1)) (pc' := 11) dX11_spread_10 rfl (by decide) ?_
      exact aw_ri dX11_spread_11 rfl rfl (Nat.le_of_ble_eq_true rfl) (Nat.le_of_ble_eq_true rfl) ⟨(by first | (simp [sp_spread, cnd, okC, okS, okW, okN, inR, n2_, n3_, n5_, n31_, c1, c2]; done) | (simp_all [sp_spread, cnd, okC, okS, okW, okN, inR, n2_, n3_, n5_, n31_]; done) | skip), sm_rf⟩
set_option maxRecDepth 4000 in
theorem x_canBe (h : List aE) (hx : Fx 0 h) (hlen : h.length = 126) (b : Int32) (y : Int32) (w : Int32) : AM mX11_canBe 1 [.ref 8, .int b, .int y, .int w] h 0 0 (PI fun r h' => r = sp_canBe b y w ∧ Sm h h') := by
  refine am_of (lv := [some (.ref 8), some (.int b), some (.int y), some (.int w), none, none, none]) rfl (Nat.le_of_ble_eq_true rfl) rfl ?_
  refine aw_aload_n (pc' := 1) dX11_canBe_0 rfl rfl rfl ?_
  refine aw_get clsAll (pc' := 4) dX11_canBe_1 rfl fl_RX11_28 hx.1 rfl ?_
  refine aw_iload_n (pc' := 5) dX11_canBe_4 rfl rfl ?_
  have cc1 : AM mX0_holeOf 0 [.ref 23, .int b] h 0 0 (PA fun r h' => (b < 0 ∧ Value.null = r ∧ h = h') ∨ (¬ (b < 0) ∧ Value.null = r ∧ h = h')) := by
    refine am_of (lv := [some (.ref 23), some (.int b)]) rfl (Nat.le_of_ble_eq_true rfl) rfl ?_
    refine aw_iload_n (pc' := 1) dX0_holeOf_0 rfl rfl ?_
    refine aw_zlt (tgt := 12) (pc' := 4) dX0_holeOf_1 (by decide) rfl (fun c2 => ?_) (fun c2 => ?_)
    · refine aw_null (pc' := 13) dX0_holeOf_12 rfl ?_
      refine aw_goto (tgt := 22) dX0_holeOf_13 (by decide) ?_
      exact aw_ra dX0_holeOf_22 rfl (Or.inl ⟨_, rfl⟩) rfl (Nat.le_of_ble_eq_true rfl) (Nat.le_of_ble_eq_true rfl) (Or.inl ⟨c2, rfl, rfl⟩)
    · refine aw_iload_n (pc' := 5) dX0_holeOf_4 rfl rfl ?_
      refine aw_aload_n (pc' := 6) dX0_holeOf_5 rfl rfl rfl ?_
      refine aw_get clsAll (pc' := 9) dX0_holeOf_6 rfl fl_RX0_32 ((hx.2 15 (by decide) (by decide)).trans h0_15) rfl ?_
      refine aw_clt (tgt := 16) (pc' := 12) dX0_holeOf_9 (by decide) rfl (fun c => absurd c c2) (fun _ => ?_)
      refine aw_null (pc' := 13) dX0_holeOf_12 rfl ?_
      refine aw_goto (tgt := 22) dX0_holeOf_13 (by decide) ?_
      exact aw_ra dX0_holeOf_22 rfl (Or.inl ⟨_, rfl⟩) rfl (Nat.le_of_ble_eq_true rfl) (Nat.le_of_ble_eq_true rfl) (Or.inr ⟨c2, rfl, rfl⟩)
  refine aw_callVa (M' := mX0_holeOf) (nc' := 0) (ns' := 0) (pc' := 8) dX11_canBe_5 rfl ml_RX11_139 kX0_holeOf cc1 ((hx.2 15 (by decide) (by decide)).trans h0_15) rfl rfl rfl (Nat.le_of_ble_eq_true rfl) (rok rfl) rfl rfl (fun r5 h5 q5 => ?_)
  rcases q5 with ⟨c3, rfl, rfl⟩ | ⟨c4, rfl, rfl⟩
  · refine aw_astore (lv' := [_, _, _, _, _, _, _]) (pc' := 10) dX11_canBe_8 rfl (Nat.le_of_ble_eq_true rfl) rfl rfl ?_
    refine aw_aload (pc' := 12) dX11_canBe_10 rfl rfl rfl ?_
    refine aw_ifnull_n (tgt := 38) dX11_canBe_12 (by decide) ?_
    refine aw_iconst (v := (-1)) (pc' := 39) dX11_canBe_38 rfl (by decide) ?_
    exact aw_ri dX11_canBe_39 rfl rfl (Nat.le_of_ble_eq_true rfl) (Nat.le_of_ble_eq_true rfl) ⟨(by first | (simp [sp_canBe, cnd, okC, okS, okW, okN, inR, n2_, n3_, n5_, n31_, c3]; done) | (simp_all [sp_canBe, cnd, okC, okS, okW, okN, inR, n2_, n3_, n5_, n31_]; done) | skip), sm_rf⟩
  · refine aw_astore (lv' := [_, _, _, _, _, _, _]) (pc' := 10) dX11_canBe_8 rfl (Nat.le_of_ble_eq_true rfl) rfl rfl ?_
    refine aw_aload (pc' := 12) dX11_canBe_10 rfl rfl rfl ?_
    refine aw_ifnull_n (tgt := 38) dX11_canBe_12 (by decide) ?_
    refine aw_iconst (v := (-1)) (pc' := 39) dX11_canBe_38 rfl (by decide) ?_
    exact aw_ri dX11_canBe_39 rfl rfl (Nat.le_of_ble_eq_true rfl) (Nat.le_of_ble_eq_true rfl) ⟨(by first | (simp [sp_canBe, cnd, okC, okS, okW, okN, inR, n2_, n3_, n5_, n31_, c4]; done) | (simp_all [sp_canBe, cnd, okC, okS, okW, okN, inR, n2_, n3_, n5_, n31_]; done) | skip), sm_rf⟩
set_option maxRecDepth 4000 in
theorem x_map (h : List aE) (hx : Fx 0 h) (hlen : h.length = 126) (s : Int32) (y : Int32) : AM mX11_map 2 [.ref 8, .int s, .int y] h 2 66 (PI fun r h' => r = sp_map s y ∧ Sm h h') := by
  refine am_of (lv := [some (.ref 8), some (.int s), some (.int y)]) rfl (Nat.le_of_ble_eq_true rfl) rfl ?_
  refine aw_iload_n (pc' := 1) dX11_map_0 rfl rfl ?_
  have cc1 : AM mX11_isSpan 0 [.int s] h 0 0 (PI fun r h' => (s < 0 ∧ 0 = r ∧ h = h') ∨ (¬ (s < 0) ∧ (s % 100) < (s / 100) ∧ 0 = r ∧ h = h') ∨ (¬ (s < 0) ∧ ¬ ((s % 100) < (s / 100)) ∧ ¬ ((s % 100) < 32) ∧ 0 = r ∧ h = h') ∨ (¬ (s < 0) ∧ ¬ ((s % 100) < (s / 100)) ∧ (s % 100) < 32 ∧ 1 = r ∧ h = h')) := by
    refine am_of (lv := [some (.int s)]) rfl (Nat.le_of_ble_eq_true rfl) rfl ?_
    refine aw_iload_n (pc' := 1) dX11_isSpan_0 rfl rfl ?_
    refine aw_zlt (tgt := 28) (pc' := 4) dX11_isSpan_1 (by decide) rfl (fun c2 => ?_) (fun c2 => ?_)
    · refine aw_iconst (v := 0) (pc' := 29) dX11_isSpan_28 rfl (by decide) ?_
      exact aw_ri dX11_isSpan_29 rfl (by decide) (Nat.le_of_ble_eq_true rfl) (Nat.le_of_ble_eq_true rfl) (Or.inl ⟨c2, rfl, rfl⟩)
    · refine aw_iload_n (pc' := 5) dX11_isSpan_4 rfl rfl ?_
      refine aw_bipush (v := 100) (pc' := 7) dX11_isSpan_5 rfl (by decide) ?_
      refine aw_idiv (pc' := 8) dX11_isSpan_7 rfl (by decide) ?_
      refine aw_iload_n (pc' := 9) dX11_isSpan_8 rfl rfl ?_
      refine aw_bipush (v := 100) (pc' := 11) dX11_isSpan_9 rfl (by decide) ?_
      refine aw_irem (pc' := 12) dX11_isSpan_11 rfl (by decide) ?_
      refine aw_cgt (tgt := 28) (pc' := 15) dX11_isSpan_12 (by decide) rfl (fun c3 => ?_) (fun c3 => ?_)
      · refine aw_iconst (v := 0) (pc' := 29) dX11_isSpan_28 rfl (by decide) ?_
        exact aw_ri dX11_isSpan_29 rfl (by decide) (Nat.le_of_ble_eq_true rfl) (Nat.le_of_ble_eq_true rfl) (Or.inr (Or.inl ⟨c2, c3, rfl, rfl⟩))
      · refine aw_iload_n (pc' := 16) dX11_isSpan_15 rfl rfl ?_
        refine aw_bipush (v := 100) (pc' := 18) dX11_isSpan_16 rfl (by decide) ?_
        refine aw_irem (pc' := 19) dX11_isSpan_18 rfl (by decide) ?_
        refine aw_bipush (v := 32) (pc' := 21) dX11_isSpan_19 rfl (by decide) ?_
        refine aw_cge (tgt := 28) (pc' := 24) dX11_isSpan_21 (by decide) rfl (fun c4 => ?_) (fun c4 => ?_)
        · refine aw_iconst (v := 0) (pc' := 29) dX11_isSpan_28 rfl (by decide) ?_
          exact aw_ri dX11_isSpan_29 rfl (by decide) (Nat.le_of_ble_eq_true rfl) (Nat.le_of_ble_eq_true rfl) (Or.inr (Or.inr (Or.inl ⟨c2, c3, c4, rfl, rfl⟩)))
        · refine aw_iconst (v := 1) (pc' := 25) dX11_isSpan_24 rfl (by decide) ?_
          refine aw_goto (tgt := 29) dX11_isSpan_25 (by decide) ?_
          exact aw_ri dX11_isSpan_29 rfl (by decide) (Nat.le_of_ble_eq_true rfl) (Nat.le_of_ble_eq_true rfl) (Or.inr (Or.inr (Or.inr ⟨c2, c3, c4, rfl, rfl⟩)))
  refine aw_callSi (M' := mX11_isSpan) (nc' := 0) (ns' := 0) (pc' := 4) dX11_map_1 rfl ml_RX11_118 kX11_isSpan cc1 rfl rfl (Nat.le_of_ble_eq_true rfl) (rok rfl) rfl rfl (fun r14 h14 q14 => ?_)
  rcases q14 with ⟨c5, rfl, rfl⟩ | ⟨c6, c7, rfl, rfl⟩ | ⟨c8, c9, c10, rfl, rfl⟩ | ⟨c11, c12, c13, rfl, rfl⟩
  · refine aw_if_eq (tgt := 14) (pc' := 7) dX11_map_4 (by decide) rfl (fun _ => ?_) (fun c => absurd (by decide) c)
    refine aw_iconst (v := (-1)) (pc' := 15) dX11_map_14 rfl (by decide) ?_
    exact aw_ri dX11_map_15 rfl rfl (Nat.le_of_ble_eq_true rfl) (Nat.le_of_ble_eq_true rfl) ⟨(by first | (simp [sp_map, cnd, okC, okS, okW, okN, inR, n2_, n3_, n5_, n31_, c5]; done) | (simp_all [sp_map, cnd, okC, okS, okW, okN, inR, n2_, n3_, n5_, n31_]; done) | skip), sm_rf⟩
  · refine aw_if_eq (tgt := 14) (pc' := 7) dX11_map_4 (by decide) rfl (fun _ => ?_) (fun c => absurd (by decide) c)
    refine aw_iconst (v := (-1)) (pc' := 15) dX11_map_14 rfl (by decide) ?_
    exact aw_ri dX11_map_15 rfl rfl (Nat.le_of_ble_eq_true rfl) (Nat.le_of_ble_eq_true rfl) ⟨(by first | (simp [sp_map, cnd, okC, okS, okW, okN, inR, n2_, n3_, n5_, n31_, c6, c7]; done) | (simp_all [sp_map, cnd, okC, okS, okW, okN, inR, n2_, n3_, n5_, n31_]; done) | skip), sm_rf⟩
  · refine aw_if_eq (tgt := 14) (pc' := 7) dX11_map_4 (by decide) rfl (fun _ => ?_) (fun c => absurd (by decide) c)
    refine aw_iconst (v := (-1)) (pc' := 15) dX11_map_14 rfl (by decide) ?_
    exact aw_ri dX11_map_15 rfl rfl (Nat.le_of_ble_eq_true rfl) (Nat.le_of_ble_eq_true rfl) ⟨(by first | (simp [sp_map, cnd, okC, okS, okW, okN, inR, n2_, n3_, n5_, n31_, c8, c9, c10]; done) | (simp_all [sp_map, cnd, okC, okS, okW, okN, inR, n2_, n3_, n5_, n31_]; done) | skip), sm_rf⟩
  · refine aw_if_eq (tgt := 14) (pc' := 7) dX11_map_4 (by decide) rfl (fun c => absurd c (by decide)) (fun _ => ?_)
    refine aw_iload_n (pc' := 8) dX11_map_7 rfl rfl ?_
    have cc15 : AM mX11_isYard 0 [.int y] h 0 0 (PI fun r h' => (y < 1 ∧ 0 = r ∧ h = h') ∨ (¬ (y < 1) ∧ 60 < y ∧ 0 = r ∧ h = h') ∨ (¬ (y < 1) ∧ ¬ (60 < y) ∧ 1 = r ∧ h = h')) := by
      refine am_of (lv := [some (.int y)]) rfl (Nat.le_of_ble_eq_true rfl) rfl ?_
      refine aw_iload_n (pc' := 1) dX11_isYard_0 rfl rfl ?_
      refine aw_iconst (v := 1) (pc' := 2) dX11_isYard_1 rfl (by decide) ?_
      refine aw_clt (tgt := 15) (pc' := 5) dX11_isYard_2 (by decide) rfl (fun c16 => ?_) (fun c16 => ?_)
      · refine aw_iconst (v := 0) (pc' := 16) dX11_isYard_15 rfl (by decide) ?_
        exact aw_ri dX11_isYard_16 rfl (by decide) (Nat.le_of_ble_eq_true rfl) (Nat.le_of_ble_eq_true rfl) (Or.inl ⟨c16, rfl, rfl⟩)
      · refine aw_iload_n (pc' := 6) dX11_isYard_5 rfl rfl ?_
        refine aw_bipush (v := 60) (pc' := 8) dX11_isYard_6 rfl (by decide) ?_
        refine aw_cgt (tgt := 15) (pc' := 11) dX11_isYard_8 (by decide) rfl (fun c17 => ?_) (fun c17 => ?_)
        · refine aw_iconst (v := 0) (pc' := 16) dX11_isYard_15 rfl (by decide) ?_
          exact aw_ri dX11_isYard_16 rfl (by decide) (Nat.le_of_ble_eq_true rfl) (Nat.le_of_ble_eq_true rfl) (Or.inr (Or.inl ⟨c16, c17, rfl, rfl⟩))
        · refine aw_iconst (v := 1) (pc' := 12) dX11_isYard_11 rfl (by decide) ?_
          refine aw_goto (tgt := 16) dX11_isYard_12 (by decide) ?_
          exact aw_ri dX11_isYard_16 rfl (by decide) (Nat.le_of_ble_eq_true rfl) (Nat.le_of_ble_eq_true rfl) (Or.inr (Or.inr ⟨c16, c17, rfl, rfl⟩))
    refine aw_callSi (M' := mX11_isYard) (nc' := 0) (ns' := 0) (pc' := 11) dX11_map_8 rfl ml_RX11_122 kX11_isYard cc15 rfl rfl (Nat.le_of_ble_eq_true rfl) (rok rfl) rfl rfl (fun r23 h23 q23 => ?_)
    rcases q23 with ⟨c18, rfl, rfl⟩ | ⟨c19, c20, rfl, rfl⟩ | ⟨c21, c22, rfl, rfl⟩
    · refine aw_if_ne (tgt := 16) (pc' := 14) dX11_map_11 (by decide) rfl (fun c => absurd (by decide) c) (fun _ => ?_)
      refine aw_iconst (v := (-1)) (pc' := 15) dX11_map_14 rfl (by decide) ?_
      exact aw_ri dX11_map_15 rfl rfl (Nat.le_of_ble_eq_true rfl) (Nat.le_of_ble_eq_true rfl) ⟨(by first | (simp [sp_map, cnd, okC, okS, okW, okN, inR, n2_, n3_, n5_, n31_, c11, c12, c13, c18]; done) | (simp_all [sp_map, cnd, okC, okS, okW, okN, inR, n2_, n3_, n5_, n31_]; done) | skip), sm_rf⟩
    · refine aw_if_ne (tgt := 16) (pc' := 14) dX11_map_11 (by decide) rfl (fun c => absurd (by decide) c) (fun _ => ?_)
      refine aw_iconst (v := (-1)) (pc' := 15) dX11_map_14 rfl (by decide) ?_
      exact aw_ri dX11_map_15 rfl rfl (Nat.le_of_ble_eq_true rfl) (Nat.le_of_ble_eq_true rfl) ⟨(by first | (simp [sp_map, cnd, okC, okS, okW, okN, inR, n2_, n3_, n5_, n31_, c11, c12, c13, c19, c20]; done) | (simp_all [sp_map, cnd, okC, okS, okW, okN, inR, n2_, n3_, n5_, n31_]; done) | skip), sm_rf⟩
    · refine aw_if_ne (tgt := 16) (pc' := 14) dX11_map_11 (by decide) rfl (fun _ => ?_) (fun c => absurd c (by decide))
      refine aw_aload_n (pc' := 17) dX11_map_16 rfl rfl rfl ?_
      refine aw_get clsAll (pc' := 20) dX11_map_17 rfl fl_RX11_220 hx.1 rfl ?_
      refine aw_bipush (v := 8) (pc' := 22) dX11_map_20 rfl (by decide) ?_
      refine aw_clt (tgt := 28) (pc' := 25) dX11_map_22 (by decide) rfl (fun _ => ?_) (fun c => absurd (by decide) c)
      refine aw_aload_n (pc' := 29) dX11_map_28 rfl rfl rfl ?_
      refine aw_get clsAll (pc' := 32) dX11_map_29 rfl fl_RX11_41 hx.1 rfl ?_
      refine aw_aload_n (pc' := 33) dX11_map_32 rfl rfl rfl ?_
      refine aw_get clsAll (pc' := 36) dX11_map_33 rfl fl_RX11_220 hx.1 rfl ?_
      refine aw_newG clsAll (ci := 1) (r := 126) (fs := [.int 0, .int 0, .int 0, .null, .int 0]) (nc' := 1) (ns' := 5) (pc' := 39) dX11_map_36 rfl rfl cl_RX11_39 ins_RX1 ini_RX1 tyX1_ok (by decide) (fun _ => rfl) (by decide) (by decide) hlen rfl rfl (fun h24 e24 => ?_)
      refine aw_dup (pc' := 40) dX11_map_39 rfl rfl ?_
      refine aw_iload_n (pc' := 41) dX11_map_40 rfl rfl ?_
      refine aw_bipush (v := 100) (pc' := 43) dX11_map_41 rfl (by decide) ?_
      refine aw_idiv (pc' := 44) dX11_map_43 rfl (by decide) ?_
      refine aw_iload_n (pc' := 45) dX11_map_44 rfl rfl ?_
      refine aw_bipush (v := 100) (pc' := 47) dX11_map_45 rfl (by decide) ?_
      refine aw_irem (pc' := 48) dX11_map_47 rfl (by decide) ?_
      refine aw_iload_n (pc' := 49) dX11_map_48 rfl rfl ?_
      have cc25 : AM mX1_init 1 [.ref 134, .int (s / 100), .int (s % 100), .int y] h24 1 61 (PV fun h' => (∃ h31 : List aE, h24 ++ [.inl (0, 61, .inl (fun _ => 0))] = h31 ∧ ∃ h32 : List aE, h31.set 126 (.inr (1, [.int 0, .int 0, .int 0, .ref 135, .int 0])) = h32 ∧ ∃ h33 : List aE, h32.set 126 (.inr (1, [.int (s / 100), .int 0, .int 0, .ref 135, .int 0])) = h33 ∧ ∃ h34 : List aE, h33.set 126 (.inr (1, [.int (s / 100), .int (s % 100), .int 0, .ref 135, .int 0])) = h34 ∧ ∃ h35 : List aE, h34.set 126 (.inr (1, [.int (s / 100), .int (s % 100), .int y, .ref 135, .int 0])) = h35 ∧ h35 = h')) := by
        refine am_of (lv := [some (.ref 134), some (.int (s / 100)), some (.int (s % 100)), some (.int y)]) rfl (Nat.le_of_ble_eq_true rfl) rfl ?_
        refine aw_aload_n (pc' := 1) dX1_init_0 rfl rfl rfl ?_
        refine aw_objInit (pc' := 4) dX1_init_1 rfl ml_RX1_3 oi_i oi_c (Nat.le_of_ble_eq_true rfl) (by decide) (by decide) ?_
        refine aw_aload_n (pc' := 5) dX1_init_4 rfl rfl rfl ?_
        refine aw_bipush (v := 61) (pc' := 7) dX1_init_5 rfl (by decide) ?_
        refine aw_newiG (N := 61) (r := 127) (nc' := 1) (ns' := 61) (pc' := 9) dX1_init_7 rfl (by decide) (by decide) (by decide) (by decide) (by decide) (lp_ (m := 127) e24 hlen rfl) rfl rfl (fun h26 e26 => ?_)
        refine aw_putFG clsAll (pc' := 12) dX1_init_9 rfl fl_RX1_9 rfl rfl (gpn e26 (gps e24 hlen)) (Nat.le_of_ble_eq_true rfl) rfl (fun h27 e27 => ?_)
        refine aw_aload_n (pc' := 13) dX1_init_12 rfl rfl rfl ?_
        refine aw_iload_n (pc' := 14) dX1_init_13 rfl rfl ?_
        refine aw_putFG clsAll (pc' := 17) dX1_init_14 rfl fl_RX1_15 rfl rfl (gss e27 (gpn e26 (gps e24 hlen))) (Nat.le_of_ble_eq_true rfl) rfl (fun h28 e28 => ?_)
        refine aw_aload_n (pc' := 18) dX1_init_17 rfl rfl rfl ?_
        refine aw_iload_n (pc' := 19) dX1_init_18 rfl rfl ?_
        refine aw_putFG clsAll (pc' := 22) dX1_init_19 rfl fl_RX1_19 rfl rfl (gss e28 (gss e27 (gpn e26 (gps e24 hlen)))) (Nat.le_of_ble_eq_true rfl) rfl (fun h29 e29 => ?_)
        refine aw_aload_n (pc' := 23) dX1_init_22 rfl rfl rfl ?_
        refine aw_iload_n (pc' := 24) dX1_init_23 rfl rfl ?_
        refine aw_putFG clsAll (pc' := 27) dX1_init_24 rfl fl_RX1_22 rfl rfl (gss e29 (gss e28 (gss e27 (gpn e26 (gps e24 hlen))))) (Nat.le_of_ble_eq_true rfl) rfl (fun h30 e30 => ?_)
        exact aw_rv dX1_init_27 rfl (Nat.le_of_ble_eq_true rfl) (Nat.le_of_ble_eq_true rfl) ⟨h26, e26, h27, e27, h28, e28, h29, e29, h30, e30, rfl⟩
      refine aw_callIv (M' := mX1_init) (nc' := 2) (ns' := 66) (pc' := 52) dX11_map_49 rfl ml_RX11_223 kX1_init cc25 rfl rfl (Nat.le_of_ble_eq_true rfl) (rok rfl) rfl rfl (fun h36 q36 => ?_)
      obtain ⟨h31, e31, h32, e32, h33, e33, h34, e34, h35, e35, rfl⟩ := q36
      refine aw_aastG (pc' := 53) dX11_map_52 rfl (gsn e35 (by decide) (gsn e34 (by decide) (gsn e33 (by decide) (gsn e32 (by decide) (gpn e31 (gpn e24 ((hx.2 23 (by decide) (by decide)).trans h0_23))))))) (by decide) rfl (gss e35 (gss e34 (gss e33 (gss e32 (gpn e31 (gps e24 hlen)))))) rfl (vpc (by decide)) (fun h37 e37 => ?_)
      refine aw_aload_n (pc' := 54) dX11_map_53 rfl rfl rfl ?_
      refine aw_dup (pc' := 55) dX11_map_54 rfl rfl ?_
      refine aw_get clsAll (pc' := 58) dX11_map_55 rfl fl_RX11_220 (gsn e37 (by decide) (gsn e35 (by decide) (gsn e34 (by decide) (gsn e33 (by decide) (gsn e32 (by decide) (gpn e31 (gpn e24 hx.1))))))) rfl ?_
      refine aw_iconst (v := 1) (pc' := 59) dX11_map_58 rfl (by decide) ?_
      refine aw_iadd (pc' := 60) dX11_map_59 rfl ?_
      refine aw_topi (v := 1) (by decide) ?_
      refine aw_putG clsAll (pc' := 63) dX11_map_60 rfl fl_RX11_220 (gsn e37 (by decide) (gsn e35 (by decide) (gsn e34 (by decide) (gsn e33 (by decide) (gsn e32 (by decide) (gpn e31 (gpn e24 hx.1))))))) (Nat.le_of_ble_eq_true rfl) rfl (fun h38 e38 => ?_)
      refine aw_aload_n (pc' := 64) dX11_map_63 rfl rfl rfl ?_
      refine aw_get clsAll (pc' := 67) dX11_map_64 rfl fl_RX11_220 (gss e38 (gsn e37 (by decide) (gsn e35 (by decide) (gsn e34 (by decide) (gsn e33 (by decide) (gsn e32 (by decide) (gpn e31 (gpn e24 hx.1)))))))) rfl ?_
      refine aw_iconst (v := 1) (pc' := 68) dX11_map_67 rfl (by decide) ?_
      refine aw_isub (pc' := 69) dX11_map_68 rfl ?_
      refine aw_topi (v := 0) (by decide) ?_
      exact aw_ri dX11_map_69 rfl rfl (Nat.le_of_ble_eq_true rfl) (Nat.le_of_ble_eq_true rfl) ⟨(by first | (simp [sp_map, cnd, okC, okS, okW, okN, inR, n2_, n3_, n5_, n31_, c11, c12, c13, c21, c22]; done) | (simp_all [sp_map, cnd, okC, okS, okW, okN, inR, n2_, n3_, n5_, n31_]; done) | skip), (sm_set e38 (by decide) (sm_set e37 (by decide) (sm_set2 e35 (by decide) (sm_set2 e34 (by decide) (sm_set2 e33 (by decide) (sm_set2 e32 (by decide) (sm_push e31 (lp_ (m := 127) e24 hlen rfl) (by decide) (sm_push e24 hlen (by decide) sm_rf))))))))⟩
set_option maxRecDepth 4000 in
theorem x_old (h : List aE) (hx : Fx 0 h) (hlen : h.length = 126) (m : Int32) (c : Int32) : AM mX11_old 1 [.ref 8, .int m, .int c] h 0 0 (PI fun r h' => r = sp_old m c ∧ Sm h h') := by
  refine am_of (lv := [some (.ref 8), some (.int m), some (.int c), none]) rfl (Nat.le_of_ble_eq_true rfl) rfl ?_
  refine aw_aload_n (pc' := 1) dX11_old_0 rfl rfl rfl ?_
  refine aw_iload_n (pc' := 2) dX11_old_1 rfl rfl ?_
  have cc1 : AM mX11_chartOf 0 [.ref 8, .int m] h 0 0 (PA fun r h' => (m < 0 ∧ Value.null = r ∧ h = h') ∨ (¬ (m < 0) ∧ Value.null = r ∧ h = h')) := by
    refine am_of (lv := [some (.ref 8), some (.int m)]) rfl (Nat.le_of_ble_eq_true rfl) rfl ?_
    refine aw_iload_n (pc' := 1) dX11_chartOf_0 rfl rfl ?_
    refine aw_zlt (tgt := 12) (pc' := 4) dX11_chartOf_1 (by decide) rfl (fun c2 => ?_) (fun c2 => ?_)
    · refine aw_null (pc' := 13) dX11_chartOf_12 rfl ?_
      refine aw_goto (tgt := 22) dX11_chartOf_13 (by decide) ?_
      exact aw_ra dX11_chartOf_22 rfl (Or.inl ⟨_, rfl⟩) rfl (Nat.le_of_ble_eq_true rfl) (Nat.le_of_ble_eq_true rfl) (Or.inl ⟨c2, rfl, rfl⟩)
    · refine aw_iload_n (pc' := 5) dX11_chartOf_4 rfl rfl ?_
      refine aw_aload_n (pc' := 6) dX11_chartOf_5 rfl rfl rfl ?_
      refine aw_get clsAll (pc' := 9) dX11_chartOf_6 rfl fl_RX11_220 hx.1 rfl ?_
      refine aw_clt (tgt := 16) (pc' := 12) dX11_chartOf_9 (by decide) rfl (fun c => absurd c c2) (fun _ => ?_)
      refine aw_null (pc' := 13) dX11_chartOf_12 rfl ?_
      refine aw_goto (tgt := 22) dX11_chartOf_13 (by decide) ?_
      exact aw_ra dX11_chartOf_22 rfl (Or.inl ⟨_, rfl⟩) rfl (Nat.le_of_ble_eq_true rfl) (Nat.le_of_ble_eq_true rfl) (Or.inr ⟨c2, rfl, rfl⟩)
  refine aw_callVa (M' := mX11_chartOf) (nc' := 0) (ns' := 0) (pc' := 5) dX11_old_2 rfl ml_RX11_226 kX11_chartOf cc1 hx.1 rfl rfl rfl (Nat.le_of_ble_eq_true rfl) (rok rfl) rfl rfl (fun r5 h5 q5 => ?_)
  rcases q5 with ⟨c3, rfl, rfl⟩ | ⟨c4, rfl, rfl⟩
  · refine aw_astore_n (lv' := [_, _, _, _]) (pc' := 6) dX11_old_5 rfl (Nat.le_of_ble_eq_true rfl) rfl rfl ?_
    refine aw_aload_n (pc' := 7) dX11_old_6 rfl rfl rfl ?_
    refine aw_ifnull_n (tgt := 32) dX11_old_7 (by decide) ?_
    refine aw_iconst (v := (-1)) (pc' := 33) dX11_old_32 rfl (by decide) ?_
    exact aw_ri dX11_old_33 rfl rfl (Nat.le_of_ble_eq_true rfl) (Nat.le_of_ble_eq_true rfl) ⟨(by first | (simp [sp_old, cnd, okC, okS, okW, okN, inR, n2_, n3_, n5_, n31_, c3]; done) | (simp_all [sp_old, cnd, okC, okS, okW, okN, inR, n2_, n3_, n5_, n31_]; done) | skip), sm_rf⟩
  · refine aw_astore_n (lv' := [_, _, _, _]) (pc' := 6) dX11_old_5 rfl (Nat.le_of_ble_eq_true rfl) rfl rfl ?_
    refine aw_aload_n (pc' := 7) dX11_old_6 rfl rfl rfl ?_
    refine aw_ifnull_n (tgt := 32) dX11_old_7 (by decide) ?_
    refine aw_iconst (v := (-1)) (pc' := 33) dX11_old_32 rfl (by decide) ?_
    exact aw_ri dX11_old_33 rfl rfl (Nat.le_of_ble_eq_true rfl) (Nat.le_of_ble_eq_true rfl) ⟨(by first | (simp [sp_old, cnd, okC, okS, okW, okN, inR, n2_, n3_, n5_, n31_, c4]; done) | (simp_all [sp_old, cnd, okC, okS, okW, okN, inR, n2_, n3_, n5_, n31_]; done) | skip), sm_rf⟩
set_option maxRecDepth 4000 in
theorem x_wrong (h : List aE) (hx : Fx 0 h) (hlen : h.length = 126) (m : Int32) : AM mX11_wrong 1 [.ref 8, .int m] h 0 0 (PI fun r h' => r = sp_wrong m ∧ Sm h h') := by
  refine am_of (lv := [some (.ref 8), some (.int m), none]) rfl (Nat.le_of_ble_eq_true rfl) rfl ?_
  refine aw_aload_n (pc' := 1) dX11_wrong_0 rfl rfl rfl ?_
  refine aw_iload_n (pc' := 2) dX11_wrong_1 rfl rfl ?_
  have cc1 : AM mX11_chartOf 0 [.ref 8, .int m] h 0 0 (PA fun r h' => (m < 0 ∧ Value.null = r ∧ h = h') ∨ (¬ (m < 0) ∧ Value.null = r ∧ h = h')) := by
    refine am_of (lv := [some (.ref 8), some (.int m)]) rfl (Nat.le_of_ble_eq_true rfl) rfl ?_
    refine aw_iload_n (pc' := 1) dX11_chartOf_0 rfl rfl ?_
    refine aw_zlt (tgt := 12) (pc' := 4) dX11_chartOf_1 (by decide) rfl (fun c2 => ?_) (fun c2 => ?_)
    · refine aw_null (pc' := 13) dX11_chartOf_12 rfl ?_
      refine aw_goto (tgt := 22) dX11_chartOf_13 (by decide) ?_
      exact aw_ra dX11_chartOf_22 rfl (Or.inl ⟨_, rfl⟩) rfl (Nat.le_of_ble_eq_true rfl) (Nat.le_of_ble_eq_true rfl) (Or.inl ⟨c2, rfl, rfl⟩)
    · refine aw_iload_n (pc' := 5) dX11_chartOf_4 rfl rfl ?_
      refine aw_aload_n (pc' := 6) dX11_chartOf_5 rfl rfl rfl ?_
      refine aw_get clsAll (pc' := 9) dX11_chartOf_6 rfl fl_RX11_220 hx.1 rfl ?_
      refine aw_clt (tgt := 16) (pc' := 12) dX11_chartOf_9 (by decide) rfl (fun c => absurd c c2) (fun _ => ?_)
      refine aw_null (pc' := 13) dX11_chartOf_12 rfl ?_
      refine aw_goto (tgt := 22) dX11_chartOf_13 (by decide) ?_
      exact aw_ra dX11_chartOf_22 rfl (Or.inl ⟨_, rfl⟩) rfl (Nat.le_of_ble_eq_true rfl) (Nat.le_of_ble_eq_true rfl) (Or.inr ⟨c2, rfl, rfl⟩)
  refine aw_callVa (M' := mX11_chartOf) (nc' := 0) (ns' := 0) (pc' := 5) dX11_wrong_2 rfl ml_RX11_226 kX11_chartOf cc1 hx.1 rfl rfl rfl (Nat.le_of_ble_eq_true rfl) (rok rfl) rfl rfl (fun r5 h5 q5 => ?_)
  rcases q5 with ⟨c3, rfl, rfl⟩ | ⟨c4, rfl, rfl⟩
  · refine aw_astore_n (lv' := [_, _, _]) (pc' := 6) dX11_wrong_5 rfl (Nat.le_of_ble_eq_true rfl) rfl rfl ?_
    refine aw_aload_n (pc' := 7) dX11_wrong_6 rfl rfl rfl ?_
    refine aw_ifnonnull_n (pc' := 10) dX11_wrong_7 rfl ?_
    refine aw_iconst (v := (-1)) (pc' := 11) dX11_wrong_10 rfl (by decide) ?_
    refine aw_goto (tgt := 19) dX11_wrong_11 (by decide) ?_
    exact aw_ri dX11_wrong_19 rfl rfl (Nat.le_of_ble_eq_true rfl) (Nat.le_of_ble_eq_true rfl) ⟨(by first | (simp [sp_wrong, cnd, okC, okS, okW, okN, inR, n2_, n3_, n5_, n31_, c3]; done) | (simp_all [sp_wrong, cnd, okC, okS, okW, okN, inR, n2_, n3_, n5_, n31_]; done) | skip), sm_rf⟩
  · refine aw_astore_n (lv' := [_, _, _]) (pc' := 6) dX11_wrong_5 rfl (Nat.le_of_ble_eq_true rfl) rfl rfl ?_
    refine aw_aload_n (pc' := 7) dX11_wrong_6 rfl rfl rfl ?_
    refine aw_ifnonnull_n (pc' := 10) dX11_wrong_7 rfl ?_
    refine aw_iconst (v := (-1)) (pc' := 11) dX11_wrong_10 rfl (by decide) ?_
    refine aw_goto (tgt := 19) dX11_wrong_11 (by decide) ?_
    exact aw_ri dX11_wrong_19 rfl rfl (Nat.le_of_ble_eq_true rfl) (Nat.le_of_ble_eq_true rfl) ⟨(by first | (simp [sp_wrong, cnd, okC, okS, okW, okN, inR, n2_, n3_, n5_, n31_, c4]; done) | (simp_all [sp_wrong, cnd, okC, okS, okW, okN, inR, n2_, n3_, n5_, n31_]; done) | skip), sm_rf⟩
set_option maxRecDepth 4000 in
theorem x_known (h : List aE) (hx : Fx 0 h) (hlen : h.length = 126) (w : Int32) : AM mX11_known 0 [.ref 8, .int w] h 0 0 (PI fun r h' => r = sp_known w ∧ Sm h h') := by
  refine am_of (lv := [some (.ref 8), some (.int w), none, none, none, none, none, none, none, none, none]) rfl (Nat.le_of_ble_eq_true rfl) rfl ?_
  refine aw_iload_n (pc' := 1) dX11_known_0 rfl rfl ?_
  refine aw_zlt (tgt := 9) (pc' := 4) dX11_known_1 (by decide) rfl (fun c1 => ?_) (fun c1 => ?_)
  · refine aw_iconst (v := (-1)) (pc' := 10) dX11_known_9 rfl (by decide) ?_
    exact aw_ri dX11_known_10 rfl rfl (Nat.le_of_ble_eq_true rfl) (Nat.le_of_ble_eq_true rfl) ⟨(by first | (simp [sp_known, cnd, okC, okS, okW, okN, inR, n3_, n31_, c1]; done) | (simp_all [sp_known, cnd, okC, okS, okW, okN, inR, n3_, n31_]; done) | skip), sm_rf⟩
  · refine aw_iload_n (pc' := 5) dX11_known_4 rfl rfl ?_
    refine aw_iconst (v := 5) (pc' := 6) dX11_known_5 rfl (by decide) ?_
    refine aw_cle (tgt := 11) (pc' := 9) dX11_known_6 (by decide) rfl (fun c2 => ?_) (fun c2 => ?_)
    · refine aw_bipush (v := (-2)) (pc' := 13) dX11_known_11 rfl (by decide) ?_
      refine aw_istore_n (lv' := [_, _, _, _, _, _, _, _, _, _, _]) (pc' := 14) dX11_known_13 rfl (Nat.le_of_ble_eq_true rfl) rfl ?_
      refine aw_iconst (v := 1) (pc' := 15) dX11_known_14 rfl (by decide) ?_
      refine aw_istore_n (lv' := [_, _, _, _, _, _, _, _, _, _, _]) (pc' := 16) dX11_known_15 rfl (Nat.le_of_ble_eq_true rfl) rfl ?_
      refine aw_bipush (v := 32) (pc' := 18) dX11_known_16 rfl (by decide) ?_
      refine aw_istore (lv' := [_, _, _, _, _, _, _, _, _, _, _]) (pc' := 20) dX11_known_18 rfl (Nat.le_of_ble_eq_true rfl) rfl ?_
      refine aw_iconst (v := (-1)) (pc' := 21) dX11_known_20 rfl (by decide) ?_
      refine aw_istore (lv' := [_, _, _, _, _, _, _, _, _, _, _]) (pc' := 23) dX11_known_21 rfl (Nat.le_of_ble_eq_true rfl) rfl ?_
      refine aw_iconst (v := 0) (pc' := 24) dX11_known_23 rfl (by decide) ?_
      refine aw_istore (lv' := [_, _, _, _, _, _, _, _, _, _, _]) (pc' := 26) dX11_known_24 rfl (Nat.le_of_ble_eq_true rfl) rfl ?_
      refine aw_iconst (v := 0) (pc' := 27) dX11_known_26 rfl (by decide) ?_
      refine aw_istore (lv' := [_, _, _, _, _, _, _, _, _, _, _]) (pc' := 29) dX11_known_27 rfl (Nat.le_of_ble_eq_true rfl) rfl ?_
      refine aw_iload (pc' := 31) dX11_known_29 rfl rfl ?_
      refine aw_aload_n (pc' := 32) dX11_known_31 rfl rfl rfl ?_
      refine aw_get clsAll (pc' := 35) dX11_known_32 rfl fl_RX11_220 hx.1 rfl ?_
      refine aw_cge (tgt := 189) (pc' := 38) dX11_known_35 (by decide) rfl (fun _ => ?_) (fun c => absurd c (by decide))
      refine aw_iload_n (pc' := 190) dX11_known_189 rfl rfl ?_
      refine aw_iconst (v := 4) (pc' := 191) dX11_known_190 rfl (by decide) ?_
      refine aw_clt (tgt := 208) (pc' := 194) dX11_known_191 (by decide) rfl (fun c3 => ?_) (fun c3 => ?_)
      · refine aw_iload_n (pc' := 209) dX11_known_208 rfl rfl ?_
        exact aw_ri dX11_known_209 rfl rfl (Nat.le_of_ble_eq_true rfl) (Nat.le_of_ble_eq_true rfl) ⟨(by first | (simp [sp_known, cnd, okC, okS, okW, okN, inR, n3_, n31_, c1, c2, c3]; done) | (simp_all [sp_known, cnd, okC, okS, okW, okN, inR, n3_, n31_]; done) | skip), sm_rf⟩
      · refine aw_iload_n (pc' := 195) dX11_known_194 rfl rfl ?_
        refine aw_if_eq (tgt := 205) (pc' := 198) dX11_known_195 (by decide) rfl (fun c => absurd c (by decide)) (fun _ => ?_)
        refine aw_iload (pc' := 200) dX11_known_198 rfl rfl ?_
        refine aw_iload (pc' := 202) dX11_known_200 rfl rfl ?_
        refine aw_cle (tgt := 208) (pc' := 205) dX11_known_202 (by decide) rfl (fun _ => ?_) (fun c => absurd c (by decide))
        refine aw_iload_n (pc' := 209) dX11_known_208 rfl rfl ?_
        exact aw_ri dX11_known_209 rfl rfl (Nat.le_of_ble_eq_true rfl) (Nat.le_of_ble_eq_true rfl) ⟨(by first | (simp [sp_known, cnd, okC, okS, okW, okN, inR, n3_, n31_, c1, c2, c3]; done) | (simp_all [sp_known, cnd, okC, okS, okW, okN, inR, n3_, n31_]; done) | skip), sm_rf⟩
    · refine aw_iconst (v := (-1)) (pc' := 10) dX11_known_9 rfl (by decide) ?_
      exact aw_ri dX11_known_10 rfl rfl (Nat.le_of_ble_eq_true rfl) (Nat.le_of_ble_eq_true rfl) ⟨(by first | (simp [sp_known, cnd, okC, okS, okW, okN, inR, n3_, n31_, c1, c2]; done) | (simp_all [sp_known, cnd, okC, okS, okW, okN, inR, n3_, n31_]; done) | skip), sm_rf⟩
set_option maxRecDepth 4000 in
theorem x_feed (h : List aE) (hx : Fx 0 h) (hlen : h.length = 126) (n : Int32) (v : Int32) : AM mX11_feed 1 [.ref 8, .int n, .int v] h 0 0 (PI fun r h' => r = sp_feed n v ∧ Sm h h') := by
  refine am_of (lv := [some (.ref 8), some (.int n), some (.int v)]) rfl (Nat.le_of_ble_eq_true rfl) rfl ?_
  refine aw_iload_n (pc' := 1) dX11_feed_0 rfl rfl ?_
  refine aw_iconst (v := 1) (pc' := 2) dX11_feed_1 rfl (by decide) ?_
  refine aw_clt (tgt := 10) (pc' := 5) dX11_feed_2 (by decide) rfl (fun c1 => ?_) (fun c1 => ?_)
  · refine aw_iconst (v := (-1)) (pc' := 11) dX11_feed_10 rfl (by decide) ?_
    exact aw_ri dX11_feed_11 rfl rfl (Nat.le_of_ble_eq_true rfl) (Nat.le_of_ble_eq_true rfl) ⟨(by first | (simp [sp_feed, cnd, okC, okS, okW, okN, inR, n2_, n3_, n5_, n31_, c1]; done) | (simp_all [sp_feed, cnd, okC, okS, okW, okN, inR, n2_, n3_, n5_, n31_]; done) | skip), sm_rf⟩
  · refine aw_iload_n (pc' := 6) dX11_feed_5 rfl rfl ?_
    refine aw_iconst (v := 4) (pc' := 7) dX11_feed_6 rfl (by decide) ?_
    refine aw_cle (tgt := 12) (pc' := 10) dX11_feed_7 (by decide) rfl (fun c2 => ?_) (fun c2 => ?_)
    · refine aw_aload_n (pc' := 13) dX11_feed_12 rfl rfl rfl ?_
      refine aw_get clsAll (pc' := 16) dX11_feed_13 rfl fl_RX11_48 hx.1 rfl ?_
      refine aw_iload_n (pc' := 17) dX11_feed_16 rfl rfl ?_
      refine aw_iload_n (pc' := 18) dX11_feed_17 rfl rfl ?_
      have cc3 : AM mX7_fed 0 [.ref 32, .int n, .int v] h 0 0 (PI fun r h' => (n = 1 ∧ 1 = r ∧ ∃ h24 : List aE, h.set 25 (.inl (0, 160, .inl (upd (fun _ => 0) (0 : Int32).toNatClampNeg ((v >>> (0 &&& 31)) &&& 255)))) = h24 ∧ ∃ h25 : List aE, h24.set 24 (.inr (7, [.ref 33, .int 1, .ref 34, .int 0, .int 0, .int 0])) = h25 ∧ h25 = h') ∨ (n = 2 ∧ 2 = r ∧ ∃ h26 : List aE, h.set 25 (.inl (0, 160, .inl (upd (fun _ => 0) (0 : Int32).toNatClampNeg ((v >>> (0 &&& 31)) &&& 255)))) = h26 ∧ ∃ h27 : List aE, h26.set 24 (.inr (7, [.ref 33, .int 1, .ref 34, .int 0, .int 0, .int 0])) = h27 ∧ ∃ h28 : List aE, h27.set 25 (.inl (0, 160, .inl (upd (upd (fun _ => 0) (0 : Int32).toNatClampNeg ((v >>> (0 &&& 31)) &&& 255)) (1 : Int32).toNatClampNeg ((v >>> (8 &&& 31)) &&& 255)))) = h28 ∧ ∃ h29 : List aE, h28.set 24 (.inr (7, [.ref 33, .int 2, .ref 34, .int 0, .int 0, .int 0])) = h29 ∧ h29 = h') ∨ (n = 3 ∧ 3 = r ∧ ∃ h30 : List aE, h.set 25 (.inl (0, 160, .inl (upd (fun _ => 0) (0 : Int32).toNatClampNeg ((v >>> (0 &&& 31)) &&& 255)))) = h30 ∧ ∃ h31 : List aE, h30.set 24 (.inr (7, [.ref 33, .int 1, .ref 34, .int 0, .int 0, .int 0])) = h31 ∧ ∃ h32 : List aE, h31.set 25 (.inl (0, 160, .inl (upd (upd (fun _ => 0) (0 : Int32).toNatClampNeg ((v >>> (0 &&& 31)) &&& 255)) (1 : Int32).toNatClampNeg ((v >>> (8 &&& 31)) &&& 255)))) = h32 ∧ ∃ h33 : List aE, h32.set 24 (.inr (7, [.ref 33, .int 2, .ref 34, .int 0, .int 0, .int 0])) = h33 ∧ ∃ h34 : List aE, h33.set 25 (.inl (0, 160, .inl (upd (upd (upd (fun _ => 0) (0 : Int32).toNatClampNeg ((v >>> (0 &&& 31)) &&& 255)) (1 : Int32).toNatClampNeg ((v >>> (8 &&& 31)) &&& 255)) (2 : Int32).toNatClampNeg ((v >>> (16 &&& 31)) &&& 255)))) = h34 ∧ ∃ h35 : List aE, h34.set 24 (.inr (7, [.ref 33, .int 3, .ref 34, .int 0, .int 0, .int 0])) = h35 ∧ h35 = h') ∨ (n = 4 ∧ 4 = r ∧ ∃ h36 : List aE, h.set 25 (.inl (0, 160, .inl (upd (fun _ => 0) (0 : Int32).toNatClampNeg ((v >>> (0 &&& 31)) &&& 255)))) = h36 ∧ ∃ h37 : List aE, h36.set 24 (.inr (7, [.ref 33, .int 1, .ref 34, .int 0, .int 0, .int 0])) = h37 ∧ ∃ h38 : List aE, h37.set 25 (.inl (0, 160, .inl (upd (upd (fun _ => 0) (0 : Int32).toNatClampNeg ((v >>> (0 &&& 31)) &&& 255)) (1 : Int32).toNatClampNeg ((v >>> (8 &&& 31)) &&& 255)))) = h38 ∧ ∃ h39 : List aE, h38.set 24 (.inr (7, [.ref 33, .int 2, .ref 34, .int 0, .int 0, .int 0])) = h39 ∧ ∃ h40 : List aE, h39.set 25 (.inl (0, 160, .inl (upd (upd (upd (fun _ => 0) (0 : Int32).toNatClampNeg ((v >>> (0 &&& 31)) &&& 255)) (1 : Int32).toNatClampNeg ((v >>> (8 &&& 31)) &&& 255)) (2 : Int32).toNatClampNeg ((v >>> (16 &&& 31)) &&& 255)))) = h40 ∧ ∃ h41 : List aE, h40.set 24 (.inr (7, [.ref 33, .int 3, .ref 34, .int 0, .int 0, .int 0])) = h41 ∧ ∃ h42 : List aE, h41.set 25 (.inl (0, 160, .inl (upd (upd (upd (upd (fun _ => 0) (0 : Int32).toNatClampNeg ((v >>> (0 &&& 31)) &&& 255)) (1 : Int32).toNatClampNeg ((v >>> (8 &&& 31)) &&& 255)) (2 : Int32).toNatClampNeg ((v >>> (16 &&& 31)) &&& 255)) (3 : Int32).toNatClampNeg ((v >>> (24 &&& 31)) &&& 255)))) = h42 ∧ ∃ h43 : List aE, h42.set 24 (.inr (7, [.ref 33, .int 4, .ref 34, .int 0, .int 0, .int 0])) = h43 ∧ h43 = h')) := by
        refine am_of (lv := [some (.ref 32), some (.int n), some (.int v), none]) rfl (Nat.le_of_ble_eq_true rfl) rfl ?_
        rcases four_ c1 c2 with rfl | rfl | rfl | rfl
        · refine aw_aload_n (pc' := 1) dX7_fed_0 rfl rfl rfl ?_
          refine aw_get clsAll (pc' := 4) dX7_fed_1 rfl fl_RX7_18 ((hx.2 24 (by decide) (by decide)).trans h0_24) rfl ?_
          refine aw_iload_n (pc' := 5) dX7_fed_4 rfl rfl ?_
          refine aw_iadd (pc' := 6) dX7_fed_5 rfl ?_
          refine aw_topi (v := 1) (by decide) ?_
          refine aw_sipush (v := 160) (pc' := 9) dX7_fed_6 rfl (by decide) ?_
          refine aw_cle (tgt := 15) (pc' := 12) dX7_fed_9 (by decide) rfl (fun _ => ?_) (fun c => absurd c (by decide))
          refine aw_iconst (v := 0) (pc' := 16) dX7_fed_15 rfl (by decide) ?_
          refine aw_istore_n (lv' := [_, _, _, _]) (pc' := 17) dX7_fed_16 rfl (Nat.le_of_ble_eq_true rfl) rfl ?_
          refine aw_iload_n (pc' := 18) dX7_fed_17 rfl rfl ?_
          refine aw_iload_n (pc' := 19) dX7_fed_18 rfl rfl ?_
          refine aw_cge (tgt := 57) (pc' := 22) dX7_fed_19 (by decide) rfl (fun c => absurd (by decide) c) (fun _ => ?_)
          refine aw_aload_n (pc' := 23) dX7_fed_22 rfl rfl rfl ?_
          refine aw_get clsAll (pc' := 26) dX7_fed_23 rfl fl_RX7_11 ((hx.2 24 (by decide) (by decide)).trans h0_24) rfl ?_
          refine aw_aload_n (pc' := 27) dX7_fed_26 rfl rfl rfl ?_
          refine aw_get clsAll (pc' := 30) dX7_fed_27 rfl fl_RX7_18 ((hx.2 24 (by decide) (by decide)).trans h0_24) rfl ?_
          refine aw_iload_n (pc' := 31) dX7_fed_30 rfl rfl ?_
          refine aw_bipush (v := 8) (pc' := 33) dX7_fed_31 rfl (by decide) ?_
          refine aw_iload_n (pc' := 34) dX7_fed_33 rfl rfl ?_
          refine aw_imul (pc' := 35) dX7_fed_34 rfl ?_
          refine aw_topi (v := 0) (by decide) ?_
          refine aw_ishr (pc' := 36) dX7_fed_35 rfl ?_
          refine aw_sipush (v := 255) (pc' := 39) dX7_fed_36 rfl (by decide) ?_
          refine aw_iand (pc' := 40) dX7_fed_39 rfl ?_
          refine aw_iastG (pc' := 41) dX7_fed_40 rfl ((hx.2 25 (by decide) (by decide)).trans h0_25) (vpc (by decide)) (fun h4 e4 => ?_)
          refine aw_aload_n (pc' := 42) dX7_fed_41 rfl rfl rfl ?_
          refine aw_dup (pc' := 43) dX7_fed_42 rfl rfl ?_
          refine aw_get clsAll (pc' := 46) dX7_fed_43 rfl fl_RX7_18 (gsn e4 (by decide) ((hx.2 24 (by decide) (by decide)).trans h0_24)) rfl ?_
          refine aw_iconst (v := 1) (pc' := 47) dX7_fed_46 rfl (by decide) ?_
          refine aw_iadd (pc' := 48) dX7_fed_47 rfl ?_
          refine aw_topi (v := 1) (by decide) ?_
          refine aw_putG clsAll (pc' := 51) dX7_fed_48 rfl fl_RX7_18 (gsn e4 (by decide) ((hx.2 24 (by decide) (by decide)).trans h0_24)) (Nat.le_of_ble_eq_true rfl) rfl (fun h5 e5 => ?_)
          refine aw_iinc (lv' := [_, _, _, _]) (pc' := 54) dX7_fed_51 rfl rfl (Nat.le_of_ble_eq_true rfl) rfl ?_
          refine aw_goto (tgt := 17) dX7_fed_54 (by decide) ?_
          refine aw_iload_n (pc' := 18) dX7_fed_17 rfl rfl ?_
          refine aw_iload_n (pc' := 19) dX7_fed_18 rfl rfl ?_
          refine aw_cge (tgt := 57) (pc' := 22) dX7_fed_19 (by decide) rfl (fun _ => ?_) (fun c => absurd c (by decide))
          refine aw_aload_n (pc' := 58) dX7_fed_57 rfl rfl rfl ?_
          refine aw_get clsAll (pc' := 61) dX7_fed_58 rfl fl_RX7_18 (gss e5 (gsn e4 (by decide) ((hx.2 24 (by decide) (by decide)).trans h0_24))) rfl ?_
          exact aw_ri dX7_fed_61 rfl rfl (Nat.le_of_ble_eq_true rfl) (Nat.le_of_ble_eq_true rfl) (Or.inl ⟨rfl, rfl, h4, e4, h5, e5, rfl⟩)
        · refine aw_aload_n (pc' := 1) dX7_fed_0 rfl rfl rfl ?_
          refine aw_get clsAll (pc' := 4) dX7_fed_1 rfl fl_RX7_18 ((hx.2 24 (by decide) (by decide)).trans h0_24) rfl ?_
          refine aw_iload_n (pc' := 5) dX7_fed_4 rfl rfl ?_
          refine aw_iadd (pc' := 6) dX7_fed_5 rfl ?_
          refine aw_topi (v := 2) (by decide) ?_
          refine aw_sipush (v := 160) (pc' := 9) dX7_fed_6 rfl (by decide) ?_
          refine aw_cle (tgt := 15) (pc' := 12) dX7_fed_9 (by decide) rfl (fun _ => ?_) (fun c => absurd c (by decide))
          refine aw_iconst (v := 0) (pc' := 16) dX7_fed_15 rfl (by decide) ?_
          refine aw_istore_n (lv' := [_, _, _, _]) (pc' := 17) dX7_fed_16 rfl (Nat.le_of_ble_eq_true rfl) rfl ?_
          refine aw_iload_n (pc' := 18) dX7_fed_17 rfl rfl ?_
          refine aw_iload_n (pc' := 19) dX7_fed_18 rfl rfl ?_
          refine aw_cge (tgt := 57) (pc' := 22) dX7_fed_19 (by decide) rfl (fun c => absurd (by decide) c) (fun _ => ?_)
          refine aw_aload_n (pc' := 23) dX7_fed_22 rfl rfl rfl ?_
          refine aw_get clsAll (pc' := 26) dX7_fed_23 rfl fl_RX7_11 ((hx.2 24 (by decide) (by decide)).trans h0_24) rfl ?_
          refine aw_aload_n (pc' := 27) dX7_fed_26 rfl rfl rfl ?_
          refine aw_get clsAll (pc' := 30) dX7_fed_27 rfl fl_RX7_18 ((hx.2 24 (by decide) (by decide)).trans h0_24) rfl ?_
          refine aw_iload_n (pc' := 31) dX7_fed_30 rfl rfl ?_
          refine aw_bipush (v := 8) (pc' := 33) dX7_fed_31 rfl (by decide) ?_
          refine aw_iload_n (pc' := 34) dX7_fed_33 rfl rfl ?_
          refine aw_imul (pc' := 35) dX7_fed_34 rfl ?_
          refine aw_topi (v := 0) (by decide) ?_
          refine aw_ishr (pc' := 36) dX7_fed_35 rfl ?_
          refine aw_sipush (v := 255) (pc' := 39) dX7_fed_36 rfl (by decide) ?_
          refine aw_iand (pc' := 40) dX7_fed_39 rfl ?_
          refine aw_iastG (pc' := 41) dX7_fed_40 rfl ((hx.2 25 (by decide) (by decide)).trans h0_25) (vpc (by decide)) (fun h6 e6 => ?_)
          refine aw_aload_n (pc' := 42) dX7_fed_41 rfl rfl rfl ?_
          refine aw_dup (pc' := 43) dX7_fed_42 rfl rfl ?_
          refine aw_get clsAll (pc' := 46) dX7_fed_43 rfl fl_RX7_18 (gsn e6 (by decide) ((hx.2 24 (by decide) (by decide)).trans h0_24)) rfl ?_
          refine aw_iconst (v := 1) (pc' := 47) dX7_fed_46 rfl (by decide) ?_
          refine aw_iadd (pc' := 48) dX7_fed_47 rfl ?_
          refine aw_topi (v := 1) (by decide) ?_
          refine aw_putG clsAll (pc' := 51) dX7_fed_48 rfl fl_RX7_18 (gsn e6 (by decide) ((hx.2 24 (by decide) (by decide)).trans h0_24)) (Nat.le_of_ble_eq_true rfl) rfl (fun h7 e7 => ?_)
          refine aw_iinc (lv' := [_, _, _, _]) (pc' := 54) dX7_fed_51 rfl rfl (Nat.le_of_ble_eq_true rfl) rfl ?_
          refine aw_goto (tgt := 17) dX7_fed_54 (by decide) ?_
          refine aw_iload_n (pc' := 18) dX7_fed_17 rfl rfl ?_
          refine aw_iload_n (pc' := 19) dX7_fed_18 rfl rfl ?_
          refine aw_cge (tgt := 57) (pc' := 22) dX7_fed_19 (by decide) rfl (fun c => absurd (by decide) c) (fun _ => ?_)
          refine aw_aload_n (pc' := 23) dX7_fed_22 rfl rfl rfl ?_
          refine aw_get clsAll (pc' := 26) dX7_fed_23 rfl fl_RX7_11 (gss e7 (gsn e6 (by decide) ((hx.2 24 (by decide) (by decide)).trans h0_24))) rfl ?_
          refine aw_aload_n (pc' := 27) dX7_fed_26 rfl rfl rfl ?_
          refine aw_get clsAll (pc' := 30) dX7_fed_27 rfl fl_RX7_18 (gss e7 (gsn e6 (by decide) ((hx.2 24 (by decide) (by decide)).trans h0_24))) rfl ?_
          refine aw_iload_n (pc' := 31) dX7_fed_30 rfl rfl ?_
          refine aw_bipush (v := 8) (pc' := 33) dX7_fed_31 rfl (by decide) ?_
          refine aw_iload_n (pc' := 34) dX7_fed_33 rfl rfl ?_
          refine aw_imul (pc' := 35) dX7_fed_34 rfl ?_
          refine aw_topi (v := 8) (by decide) ?_
          refine aw_ishr (pc' := 36) dX7_fed_35 rfl ?_
          refine aw_sipush (v := 255) (pc' := 39) dX7_fed_36 rfl (by decide) ?_
          refine aw_iand (pc' := 40) dX7_fed_39 rfl ?_
          refine aw_iastG (pc' := 41) dX7_fed_40 rfl (gsn e7 (by decide) (gss e6 ((hx.2 25 (by decide) (by decide)).trans h0_25))) (vpc (by decide)) (fun h8 e8 => ?_)
          refine aw_aload_n (pc' := 42) dX7_fed_41 rfl rfl rfl ?_
          refine aw_dup (pc' := 43) dX7_fed_42 rfl rfl ?_
          refine aw_get clsAll (pc' := 46) dX7_fed_43 rfl fl_RX7_18 (gsn e8 (by decide) (gss e7 (gsn e6 (by decide) ((hx.2 24 (by decide) (by decide)).trans h0_24)))) rfl ?_
          refine aw_iconst (v := 1) (pc' := 47) dX7_fed_46 rfl (by decide) ?_
          refine aw_iadd (pc' := 48) dX7_fed_47 rfl ?_
          refine aw_topi (v := 2) (by decide) ?_
          refine aw_putG clsAll (pc' := 51) dX7_fed_48 rfl fl_RX7_18 (gsn e8 (by decide) (gss e7 (gsn e6 (by decide) ((hx.2 24 (by decide) (by decide)).trans h0_24)))) (Nat.le_of_ble_eq_true rfl) rfl (fun h9 e9 => ?_)
          refine aw_iinc (lv' := [_, _, _, _]) (pc' := 54) dX7_fed_51 rfl rfl (Nat.le_of_ble_eq_true rfl) rfl ?_
          refine aw_goto (tgt := 17) dX7_fed_54 (by decide) ?_
          refine aw_iload_n (pc' := 18) dX7_fed_17 rfl rfl ?_
          refine aw_iload_n (pc' := 19) dX7_fed_18 rfl rfl ?_
          refine aw_cge (tgt := 57) (pc' := 22) dX7_fed_19 (by decide) rfl (fun _ => ?_) (fun c => absurd c (by decide))
          refine aw_aload_n (pc' := 58) dX7_fed_57 rfl rfl rfl ?_
          refine aw_get clsAll (pc' := 61) dX7_fed_58 rfl fl_RX7_18 (gss e9 (gsn e8 (by decide) (gss e7 (gsn e6 (by decide) ((hx.2 24 (by decide) (by decide)).trans h0_24))))) rfl ?_
          exact aw_ri dX7_fed_61 rfl rfl (Nat.le_of_ble_eq_true rfl) (Nat.le_of_ble_eq_true rfl) (Or.inr (Or.inl ⟨rfl, rfl, h6, e6, h7, e7, h8, e8, h9, e9, rfl⟩))
        · refine aw_aload_n (pc' := 1) dX7_fed_0 rfl rfl rfl ?_
          refine aw_get clsAll (pc' := 4) dX7_fed_1 rfl fl_RX7_18 ((hx.2 24 (by decide) (by decide)).trans h0_24) rfl ?_
          refine aw_iload_n (pc' := 5) dX7_fed_4 rfl rfl ?_
          refine aw_iadd (pc' := 6) dX7_fed_5 rfl ?_
          refine aw_topi (v := 3) (by decide) ?_
          refine aw_sipush (v := 160) (pc' := 9) dX7_fed_6 rfl (by decide) ?_
          refine aw_cle (tgt := 15) (pc' := 12) dX7_fed_9 (by decide) rfl (fun _ => ?_) (fun c => absurd c (by decide))
          refine aw_iconst (v := 0) (pc' := 16) dX7_fed_15 rfl (by decide) ?_
          refine aw_istore_n (lv' := [_, _, _, _]) (pc' := 17) dX7_fed_16 rfl (Nat.le_of_ble_eq_true rfl) rfl ?_
          refine aw_iload_n (pc' := 18) dX7_fed_17 rfl rfl ?_
          refine aw_iload_n (pc' := 19) dX7_fed_18 rfl rfl ?_
          refine aw_cge (tgt := 57) (pc' := 22) dX7_fed_19 (by decide) rfl (fun c => absurd (by decide) c) (fun _ => ?_)
          refine aw_aload_n (pc' := 23) dX7_fed_22 rfl rfl rfl ?_
          refine aw_get clsAll (pc' := 26) dX7_fed_23 rfl fl_RX7_11 ((hx.2 24 (by decide) (by decide)).trans h0_24) rfl ?_
          refine aw_aload_n (pc' := 27) dX7_fed_26 rfl rfl rfl ?_
          refine aw_get clsAll (pc' := 30) dX7_fed_27 rfl fl_RX7_18 ((hx.2 24 (by decide) (by decide)).trans h0_24) rfl ?_
          refine aw_iload_n (pc' := 31) dX7_fed_30 rfl rfl ?_
          refine aw_bipush (v := 8) (pc' := 33) dX7_fed_31 rfl (by decide) ?_
          refine aw_iload_n (pc' := 34) dX7_fed_33 rfl rfl ?_
          refine aw_imul (pc' := 35) dX7_fed_34 rfl ?_
          refine aw_topi (v := 0) (by decide) ?_
          refine aw_ishr (pc' := 36) dX7_fed_35 rfl ?_
          refine aw_sipush (v := 255) (pc' := 39) dX7_fed_36 rfl (by decide) ?_
          refine aw_iand (pc' := 40) dX7_fed_39 rfl ?_
          refine aw_iastG (pc' := 41) dX7_fed_40 rfl ((hx.2 25 (by decide) (by decide)).trans h0_25) (vpc (by decide)) (fun h10 e10 => ?_)
          refine aw_aload_n (pc' := 42) dX7_fed_41 rfl rfl rfl ?_
          refine aw_dup (pc' := 43) dX7_fed_42 rfl rfl ?_
          refine aw_get clsAll (pc' := 46) dX7_fed_43 rfl fl_RX7_18 (gsn e10 (by decide) ((hx.2 24 (by decide) (by decide)).trans h0_24)) rfl ?_
          refine aw_iconst (v := 1) (pc' := 47) dX7_fed_46 rfl (by decide) ?_
          refine aw_iadd (pc' := 48) dX7_fed_47 rfl ?_
          refine aw_topi (v := 1) (by decide) ?_
          refine aw_putG clsAll (pc' := 51) dX7_fed_48 rfl fl_RX7_18 (gsn e10 (by decide) ((hx.2 24 (by decide) (by decide)).trans h0_24)) (Nat.le_of_ble_eq_true rfl) rfl (fun h11 e11 => ?_)
          refine aw_iinc (lv' := [_, _, _, _]) (pc' := 54) dX7_fed_51 rfl rfl (Nat.le_of_ble_eq_true rfl) rfl ?_
          refine aw_goto (tgt := 17) dX7_fed_54 (by decide) ?_
          refine aw_iload_n (pc' := 18) dX7_fed_17 rfl rfl ?_
          refine aw_iload_n (pc' := 19) dX7_fed_18 rfl rfl ?_
          refine aw_cge (tgt := 57) (pc' := 22) dX7_fed_19 (by decide) rfl (fun c => absurd (by decide) c) (fun _ => ?_)
          refine aw_aload_n (pc' := 23) dX7_fed_22 rfl rfl rfl ?_
          refine aw_get clsAll (pc' := 26) dX7_fed_23 rfl fl_RX7_11 (gss e11 (gsn e10 (by decide) ((hx.2 24 (by decide) (by decide)).trans h0_24))) rfl ?_
          refine aw_aload_n (pc' := 27) dX7_fed_26 rfl rfl rfl ?_
          refine aw_get clsAll (pc' := 30) dX7_fed_27 rfl fl_RX7_18 (gss e11 (gsn e10 (by decide) ((hx.2 24 (by decide) (by decide)).trans h0_24))) rfl ?_
          refine aw_iload_n (pc' := 31) dX7_fed_30 rfl rfl ?_
          refine aw_bipush (v := 8) (pc' := 33) dX7_fed_31 rfl (by decide) ?_
          refine aw_iload_n (pc' := 34) dX7_fed_33 rfl rfl ?_
          refine aw_imul (pc' := 35) dX7_fed_34 rfl ?_
          refine aw_topi (v := 8) (by decide) ?_
          refine aw_ishr (pc' := 36) dX7_fed_35 rfl ?_
          refine aw_sipush (v := 255) (pc' := 39) dX7_fed_36 rfl (by decide) ?_
          refine aw_iand (pc' := 40) dX7_fed_39 rfl ?_
          refine aw_iastG (pc' := 41) dX7_fed_40 rfl (gsn e11 (by decide) (gss e10 ((hx.2 25 (by decide) (by decide)).trans h0_25))) (vpc (by decide)) (fun h12 e12 => ?_)
          refine aw_aload_n (pc' := 42) dX7_fed_41 rfl rfl rfl ?_
          refine aw_dup (pc' := 43) dX7_fed_42 rfl rfl ?_
          refine aw_get clsAll (pc' := 46) dX7_fed_43 rfl fl_RX7_18 (gsn e12 (by decide) (gss e11 (gsn e10 (by decide) ((hx.2 24 (by decide) (by decide)).trans h0_24)))) rfl ?_
          refine aw_iconst (v := 1) (pc' := 47) dX7_fed_46 rfl (by decide) ?_
          refine aw_iadd (pc' := 48) dX7_fed_47 rfl ?_
          refine aw_topi (v := 2) (by decide) ?_
          refine aw_putG clsAll (pc' := 51) dX7_fed_48 rfl fl_RX7_18 (gsn e12 (by decide) (gss e11 (gsn e10 (by decide) ((hx.2 24 (by decide) (by decide)).trans h0_24)))) (Nat.le_of_ble_eq_true rfl) rfl (fun h13 e13 => ?_)
          refine aw_iinc (lv' := [_, _, _, _]) (pc' := 54) dX7_fed_51 rfl rfl (Nat.le_of_ble_eq_true rfl) rfl ?_
          refine aw_goto (tgt := 17) dX7_fed_54 (by decide) ?_
          refine aw_iload_n (pc' := 18) dX7_fed_17 rfl rfl ?_
          refine aw_iload_n (pc' := 19) dX7_fed_18 rfl rfl ?_
          refine aw_cge (tgt := 57) (pc' := 22) dX7_fed_19 (by decide) rfl (fun c => absurd (by decide) c) (fun _ => ?_)
          refine aw_aload_n (pc' := 23) dX7_fed_22 rfl rfl rfl ?_
          refine aw_get clsAll (pc' := 26) dX7_fed_23 rfl fl_RX7_11 (gss e13 (gsn e12 (by decide) (gss e11 (gsn e10 (by decide) ((hx.2 24 (by decide) (by decide)).trans h0_24))))) rfl ?_
          refine aw_aload_n (pc' := 27) dX7_fed_26 rfl rfl rfl ?_
          refine aw_get clsAll (pc' := 30) dX7_fed_27 rfl fl_RX7_18 (gss e13 (gsn e12 (by decide) (gss e11 (gsn e10 (by decide) ((hx.2 24 (by decide) (by decide)).trans h0_24))))) rfl ?_
          refine aw_iload_n (pc' := 31) dX7_fed_30 rfl rfl ?_
          refine aw_bipush (v := 8) (pc' := 33) dX7_fed_31 rfl (by decide) ?_
          refine aw_iload_n (pc' := 34) dX7_fed_33 rfl rfl ?_
          refine aw_imul (pc' := 35) dX7_fed_34 rfl ?_
          refine aw_topi (v := 16) (by decide) ?_
          refine aw_ishr (pc' := 36) dX7_fed_35 rfl ?_
          refine aw_sipush (v := 255) (pc' := 39) dX7_fed_36 rfl (by decide) ?_
          refine aw_iand (pc' := 40) dX7_fed_39 rfl ?_
          refine aw_iastG (pc' := 41) dX7_fed_40 rfl (gsn e13 (by decide) (gss e12 (gsn e11 (by decide) (gss e10 ((hx.2 25 (by decide) (by decide)).trans h0_25))))) (vpc (by decide)) (fun h14 e14 => ?_)
          refine aw_aload_n (pc' := 42) dX7_fed_41 rfl rfl rfl ?_
          refine aw_dup (pc' := 43) dX7_fed_42 rfl rfl ?_
          refine aw_get clsAll (pc' := 46) dX7_fed_43 rfl fl_RX7_18 (gsn e14 (by decide) (gss e13 (gsn e12 (by decide) (gss e11 (gsn e10 (by decide) ((hx.2 24 (by decide) (by decide)).trans h0_24)))))) rfl ?_
          refine aw_iconst (v := 1) (pc' := 47) dX7_fed_46 rfl (by decide) ?_
          refine aw_iadd (pc' := 48) dX7_fed_47 rfl ?_
          refine aw_topi (v := 3) (by decide) ?_
          refine aw_putG clsAll (pc' := 51) dX7_fed_48 rfl fl_RX7_18 (gsn e14 (by decide) (gss e13 (gsn e12 (by decide) (gss e11 (gsn e10 (by decide) ((hx.2 24 (by decide) (by decide)).trans h0_24)))))) (Nat.le_of_ble_eq_true rfl) rfl (fun h15 e15 => ?_)
          refine aw_iinc (lv' := [_, _, _, _]) (pc' := 54) dX7_fed_51 rfl rfl (Nat.le_of_ble_eq_true rfl) rfl ?_
          refine aw_goto (tgt := 17) dX7_fed_54 (by decide) ?_
          refine aw_iload_n (pc' := 18) dX7_fed_17 rfl rfl ?_
          refine aw_iload_n (pc' := 19) dX7_fed_18 rfl rfl ?_
          refine aw_cge (tgt := 57) (pc' := 22) dX7_fed_19 (by decide) rfl (fun _ => ?_) (fun c => absurd c (by decide))
          refine aw_aload_n (pc' := 58) dX7_fed_57 rfl rfl rfl ?_
          refine aw_get clsAll (pc' := 61) dX7_fed_58 rfl fl_RX7_18 (gss e15 (gsn e14 (by decide) (gss e13 (gsn e12 (by decide) (gss e11 (gsn e10 (by decide) ((hx.2 24 (by decide) (by decide)).trans h0_24))))))) rfl ?_
          exact aw_ri dX7_fed_61 rfl rfl (Nat.le_of_ble_eq_true rfl) (Nat.le_of_ble_eq_true rfl) (Or.inr (Or.inr (Or.inl ⟨rfl, rfl, h10, e10, h11, e11, h12, e12, h13, e13, h14, e14, h15, e15, rfl⟩)))
        · refine aw_aload_n (pc' := 1) dX7_fed_0 rfl rfl rfl ?_
          refine aw_get clsAll (pc' := 4) dX7_fed_1 rfl fl_RX7_18 ((hx.2 24 (by decide) (by decide)).trans h0_24) rfl ?_
          refine aw_iload_n (pc' := 5) dX7_fed_4 rfl rfl ?_
          refine aw_iadd (pc' := 6) dX7_fed_5 rfl ?_
          refine aw_topi (v := 4) (by decide) ?_
          refine aw_sipush (v := 160) (pc' := 9) dX7_fed_6 rfl (by decide) ?_
          refine aw_cle (tgt := 15) (pc' := 12) dX7_fed_9 (by decide) rfl (fun _ => ?_) (fun c => absurd c (by decide))
          refine aw_iconst (v := 0) (pc' := 16) dX7_fed_15 rfl (by decide) ?_
          refine aw_istore_n (lv' := [_, _, _, _]) (pc' := 17) dX7_fed_16 rfl (Nat.le_of_ble_eq_true rfl) rfl ?_
          refine aw_iload_n (pc' := 18) dX7_fed_17 rfl rfl ?_
          refine aw_iload_n (pc' := 19) dX7_fed_18 rfl rfl ?_
          refine aw_cge (tgt := 57) (pc' := 22) dX7_fed_19 (by decide) rfl (fun c => absurd (by decide) c) (fun _ => ?_)
          refine aw_aload_n (pc' := 23) dX7_fed_22 rfl rfl rfl ?_
          refine aw_get clsAll (pc' := 26) dX7_fed_23 rfl fl_RX7_11 ((hx.2 24 (by decide) (by decide)).trans h0_24) rfl ?_
          refine aw_aload_n (pc' := 27) dX7_fed_26 rfl rfl rfl ?_
          refine aw_get clsAll (pc' := 30) dX7_fed_27 rfl fl_RX7_18 ((hx.2 24 (by decide) (by decide)).trans h0_24) rfl ?_
          refine aw_iload_n (pc' := 31) dX7_fed_30 rfl rfl ?_
          refine aw_bipush (v := 8) (pc' := 33) dX7_fed_31 rfl (by decide) ?_
          refine aw_iload_n (pc' := 34) dX7_fed_33 rfl rfl ?_
          refine aw_imul (pc' := 35) dX7_fed_34 rfl ?_
          refine aw_topi (v := 0) (by decide) ?_
          refine aw_ishr (pc' := 36) dX7_fed_35 rfl ?_
          refine aw_sipush (v := 255) (pc' := 39) dX7_fed_36 rfl (by decide) ?_
          refine aw_iand (pc' := 40) dX7_fed_39 rfl ?_
          refine aw_iastG (pc' := 41) dX7_fed_40 rfl ((hx.2 25 (by decide) (by decide)).trans h0_25) (vpc (by decide)) (fun h16 e16 => ?_)
          refine aw_aload_n (pc' := 42) dX7_fed_41 rfl rfl rfl ?_
          refine aw_dup (pc' := 43) dX7_fed_42 rfl rfl ?_
          refine aw_get clsAll (pc' := 46) dX7_fed_43 rfl fl_RX7_18 (gsn e16 (by decide) ((hx.2 24 (by decide) (by decide)).trans h0_24)) rfl ?_
          refine aw_iconst (v := 1) (pc' := 47) dX7_fed_46 rfl (by decide) ?_
          refine aw_iadd (pc' := 48) dX7_fed_47 rfl ?_
          refine aw_topi (v := 1) (by decide) ?_
          refine aw_putG clsAll (pc' := 51) dX7_fed_48 rfl fl_RX7_18 (gsn e16 (by decide) ((hx.2 24 (by decide) (by decide)).trans h0_24)) (Nat.le_of_ble_eq_true rfl) rfl (fun h17 e17 => ?_)
          refine aw_iinc (lv' := [_, _, _, _]) (pc' := 54) dX7_fed_51 rfl rfl (Nat.le_of_ble_eq_true rfl) rfl ?_
          refine aw_goto (tgt := 17) dX7_fed_54 (by decide) ?_
          refine aw_iload_n (pc' := 18) dX7_fed_17 rfl rfl ?_
          refine aw_iload_n (pc' := 19) dX7_fed_18 rfl rfl ?_
          refine aw_cge (tgt := 57) (pc' := 22) dX7_fed_19 (by decide) rfl (fun c => absurd (by decide) c) (fun _ => ?_)
          refine aw_aload_n (pc' := 23) dX7_fed_22 rfl rfl rfl ?_
          refine aw_get clsAll (pc' := 26) dX7_fed_23 rfl fl_RX7_11 (gss e17 (gsn e16 (by decide) ((hx.2 24 (by decide) (by decide)).trans h0_24))) rfl ?_
          refine aw_aload_n (pc' := 27) dX7_fed_26 rfl rfl rfl ?_
          refine aw_get clsAll (pc' := 30) dX7_fed_27 rfl fl_RX7_18 (gss e17 (gsn e16 (by decide) ((hx.2 24 (by decide) (by decide)).trans h0_24))) rfl ?_
          refine aw_iload_n (pc' := 31) dX7_fed_30 rfl rfl ?_
          refine aw_bipush (v := 8) (pc' := 33) dX7_fed_31 rfl (by decide) ?_
          refine aw_iload_n (pc' := 34) dX7_fed_33 rfl rfl ?_
          refine aw_imul (pc' := 35) dX7_fed_34 rfl ?_
          refine aw_topi (v := 8) (by decide) ?_
          refine aw_ishr (pc' := 36) dX7_fed_35 rfl ?_
          refine aw_sipush (v := 255) (pc' := 39) dX7_fed_36 rfl (by decide) ?_
          refine aw_iand (pc' := 40) dX7_fed_39 rfl ?_
          refine aw_iastG (pc' := 41) dX7_fed_40 rfl (gsn e17 (by decide) (gss e16 ((hx.2 25 (by decide) (by decide)).trans h0_25))) (vpc (by decide)) (fun h18 e18 => ?_)
          refine aw_aload_n (pc' := 42) dX7_fed_41 rfl rfl rfl ?_
          refine aw_dup (pc' := 43) dX7_fed_42 rfl rfl ?_
          refine aw_get clsAll (pc' := 46) dX7_fed_43 rfl fl_RX7_18 (gsn e18 (by decide) (gss e17 (gsn e16 (by decide) ((hx.2 24 (by decide) (by decide)).trans h0_24)))) rfl ?_
          refine aw_iconst (v := 1) (pc' := 47) dX7_fed_46 rfl (by decide) ?_
          refine aw_iadd (pc' := 48) dX7_fed_47 rfl ?_
          refine aw_topi (v := 2) (by decide) ?_
          refine aw_putG clsAll (pc' := 51) dX7_fed_48 rfl fl_RX7_18 (gsn e18 (by decide) (gss e17 (gsn e16 (by decide) ((hx.2 24 (by decide) (by decide)).trans h0_24)))) (Nat.le_of_ble_eq_true rfl) rfl (fun h19 e19 => ?_)
          refine aw_iinc (lv' := [_, _, _, _]) (pc' := 54) dX7_fed_51 rfl rfl (Nat.le_of_ble_eq_true rfl) rfl ?_
          refine aw_goto (tgt := 17) dX7_fed_54 (by decide) ?_
          refine aw_iload_n (pc' := 18) dX7_fed_17 rfl rfl ?_
          refine aw_iload_n (pc' := 19) dX7_fed_18 rfl rfl ?_
          refine aw_cge (tgt := 57) (pc' := 22) dX7_fed_19 (by decide) rfl (fun c => absurd (by decide) c) (fun _ => ?_)
          refine aw_aload_n (pc' := 23) dX7_fed_22 rfl rfl rfl ?_
          refine aw_get clsAll (pc' := 26) dX7_fed_23 rfl fl_RX7_11 (gss e19 (gsn e18 (by decide) (gss e17 (gsn e16 (by decide) ((hx.2 24 (by decide) (by decide)).trans h0_24))))) rfl ?_
          refine aw_aload_n (pc' := 27) dX7_fed_26 rfl rfl rfl ?_
          refine aw_get clsAll (pc' := 30) dX7_fed_27 rfl fl_RX7_18 (gss e19 (gsn e18 (by decide) (gss e17 (gsn e16 (by decide) ((hx.2 24 (by decide) (by decide)).trans h0_24))))) rfl ?_
          refine aw_iload_n (pc' := 31) dX7_fed_30 rfl rfl ?_
          refine aw_bipush (v := 8) (pc' := 33) dX7_fed_31 rfl (by decide) ?_
          refine aw_iload_n (pc' := 34) dX7_fed_33 rfl rfl ?_
          refine aw_imul (pc' := 35) dX7_fed_34 rfl ?_
          refine aw_topi (v := 16) (by decide) ?_
          refine aw_ishr (pc' := 36) dX7_fed_35 rfl ?_
          refine aw_sipush (v := 255) (pc' := 39) dX7_fed_36 rfl (by decide) ?_
          refine aw_iand (pc' := 40) dX7_fed_39 rfl ?_
          refine aw_iastG (pc' := 41) dX7_fed_40 rfl (gsn e19 (by decide) (gss e18 (gsn e17 (by decide) (gss e16 ((hx.2 25 (by decide) (by decide)).trans h0_25))))) (vpc (by decide)) (fun h20 e20 => ?_)
          refine aw_aload_n (pc' := 42) dX7_fed_41 rfl rfl rfl ?_
          refine aw_dup (pc' := 43) dX7_fed_42 rfl rfl ?_
          refine aw_get clsAll (pc' := 46) dX7_fed_43 rfl fl_RX7_18 (gsn e20 (by decide) (gss e19 (gsn e18 (by decide) (gss e17 (gsn e16 (by decide) ((hx.2 24 (by decide) (by decide)).trans h0_24)))))) rfl ?_
          refine aw_iconst (v := 1) (pc' := 47) dX7_fed_46 rfl (by decide) ?_
          refine aw_iadd (pc' := 48) dX7_fed_47 rfl ?_
          refine aw_topi (v := 3) (by decide) ?_
          refine aw_putG clsAll (pc' := 51) dX7_fed_48 rfl fl_RX7_18 (gsn e20 (by decide) (gss e19 (gsn e18 (by decide) (gss e17 (gsn e16 (by decide) ((hx.2 24 (by decide) (by decide)).trans h0_24)))))) (Nat.le_of_ble_eq_true rfl) rfl (fun h21 e21 => ?_)
          refine aw_iinc (lv' := [_, _, _, _]) (pc' := 54) dX7_fed_51 rfl rfl (Nat.le_of_ble_eq_true rfl) rfl ?_
          refine aw_goto (tgt := 17) dX7_fed_54 (by decide) ?_
          refine aw_iload_n (pc' := 18) dX7_fed_17 rfl rfl ?_
          refine aw_iload_n (pc' := 19) dX7_fed_18 rfl rfl ?_
          refine aw_cge (tgt := 57) (pc' := 22) dX7_fed_19 (by decide) rfl (fun c => absurd (by decide) c) (fun _ => ?_)
          refine aw_aload_n (pc' := 23) dX7_fed_22 rfl rfl rfl ?_
          refine aw_get clsAll (pc' := 26) dX7_fed_23 rfl fl_RX7_11 (gss e21 (gsn e20 (by decide) (gss e19 (gsn e18 (by decide) (gss e17 (gsn e16 (by decide) ((hx.2 24 (by decide) (by decide)).trans h0_24))))))) rfl ?_
          refine aw_aload_n (pc' := 27) dX7_fed_26 rfl rfl rfl ?_
          refine aw_get clsAll (pc' := 30) dX7_fed_27 rfl fl_RX7_18 (gss e21 (gsn e20 (by decide) (gss e19 (gsn e18 (by decide) (gss e17 (gsn e16 (by decide) ((hx.2 24 (by decide) (by decide)).trans h0_24))))))) rfl ?_
          refine aw_iload_n (pc' := 31) dX7_fed_30 rfl rfl ?_
          refine aw_bipush (v := 8) (pc' := 33) dX7_fed_31 rfl (by decide) ?_
          refine aw_iload_n (pc' := 34) dX7_fed_33 rfl rfl ?_
          refine aw_imul (pc' := 35) dX7_fed_34 rfl ?_
          refine aw_topi (v := 24) (by decide) ?_
          refine aw_ishr (pc' := 36) dX7_fed_35 rfl ?_
          refine aw_sipush (v := 255) (pc' := 39) dX7_fed_36 rfl (by decide) ?_
          refine aw_iand (pc' := 40) dX7_fed_39 rfl ?_
          refine aw_iastG (pc' := 41) dX7_fed_40 rfl (gsn e21 (by decide) (gss e20 (gsn e19 (by decide) (gss e18 (gsn e17 (by decide) (gss e16 ((hx.2 25 (by decide) (by decide)).trans h0_25))))))) (vpc (by decide)) (fun h22 e22 => ?_)
          refine aw_aload_n (pc' := 42) dX7_fed_41 rfl rfl rfl ?_
          refine aw_dup (pc' := 43) dX7_fed_42 rfl rfl ?_
          refine aw_get clsAll (pc' := 46) dX7_fed_43 rfl fl_RX7_18 (gsn e22 (by decide) (gss e21 (gsn e20 (by decide) (gss e19 (gsn e18 (by decide) (gss e17 (gsn e16 (by decide) ((hx.2 24 (by decide) (by decide)).trans h0_24)))))))) rfl ?_
          refine aw_iconst (v := 1) (pc' := 47) dX7_fed_46 rfl (by decide) ?_
          refine aw_iadd (pc' := 48) dX7_fed_47 rfl ?_
          refine aw_topi (v := 4) (by decide) ?_
          refine aw_putG clsAll (pc' := 51) dX7_fed_48 rfl fl_RX7_18 (gsn e22 (by decide) (gss e21 (gsn e20 (by decide) (gss e19 (gsn e18 (by decide) (gss e17 (gsn e16 (by decide) ((hx.2 24 (by decide) (by decide)).trans h0_24)))))))) (Nat.le_of_ble_eq_true rfl) rfl (fun h23 e23 => ?_)
          refine aw_iinc (lv' := [_, _, _, _]) (pc' := 54) dX7_fed_51 rfl rfl (Nat.le_of_ble_eq_true rfl) rfl ?_
          refine aw_goto (tgt := 17) dX7_fed_54 (by decide) ?_
          refine aw_iload_n (pc' := 18) dX7_fed_17 rfl rfl ?_
          refine aw_iload_n (pc' := 19) dX7_fed_18 rfl rfl ?_
          refine aw_cge (tgt := 57) (pc' := 22) dX7_fed_19 (by decide) rfl (fun _ => ?_) (fun c => absurd c (by decide))
          refine aw_aload_n (pc' := 58) dX7_fed_57 rfl rfl rfl ?_
          refine aw_get clsAll (pc' := 61) dX7_fed_58 rfl fl_RX7_18 (gss e23 (gsn e22 (by decide) (gss e21 (gsn e20 (by decide) (gss e19 (gsn e18 (by decide) (gss e17 (gsn e16 (by decide) ((hx.2 24 (by decide) (by decide)).trans h0_24))))))))) rfl ?_
          exact aw_ri dX7_fed_61 rfl rfl (Nat.le_of_ble_eq_true rfl) (Nat.le_of_ble_eq_true rfl) (Or.inr (Or.inr (Or.inr ⟨rfl, rfl, h16, e16, h17, e17, h18, e18, h19, e19, h20, e20, h21, e21, h22, e22, h23, e23, rfl⟩)))
      refine aw_callVi (M' := mX7_fed) (nc' := 0) (ns' := 0) (pc' := 21) dX11_feed_18 rfl ml_RX11_261 kX7_fed cc3 ((hx.2 24 (by decide) (by decide)).trans h0_24) rfl rfl rfl (Nat.le_of_ble_eq_true rfl) (rok rfl) rfl rfl (fun r44 h44 q44 => ?_)
      rcases q44 with ⟨rfl, rfl, h24, e24, h25, e25, rfl⟩ | ⟨rfl, rfl, h26, e26, h27, e27, h28, e28, h29, e29, rfl⟩ | ⟨rfl, rfl, h30, e30, h31, e31, h32, e32, h33, e33, h34, e34, h35, e35, rfl⟩ | ⟨rfl, rfl, h36, e36, h37, e37, h38, e38, h39, e39, h40, e40, h41, e41, h42, e42, h43, e43, rfl⟩
      · exact aw_ri dX11_feed_21 rfl rfl (Nat.le_of_ble_eq_true rfl) (Nat.le_of_ble_eq_true rfl) ⟨(by first | (simp [sp_feed, cnd, okC, okS, okW, okN, inR, n2_, n3_, n5_, n31_]; done) | (simp_all [sp_feed, cnd, okC, okS, okW, okN, inR, n2_, n3_, n5_, n31_]; done) | skip), (sm_set e25 (by decide) (sm_set e24 (by decide) sm_rf))⟩
      · exact aw_ri dX11_feed_21 rfl rfl (Nat.le_of_ble_eq_true rfl) (Nat.le_of_ble_eq_true rfl) ⟨(by first | (simp [sp_feed, cnd, okC, okS, okW, okN, inR, n2_, n3_, n5_, n31_]; done) | (simp_all [sp_feed, cnd, okC, okS, okW, okN, inR, n2_, n3_, n5_, n31_]; done) | skip), (sm_set e29 (by decide) (sm_set e28 (by decide) (sm_set e27 (by decide) (sm_set e26 (by decide) sm_rf))))⟩
      · exact aw_ri dX11_feed_21 rfl rfl (Nat.le_of_ble_eq_true rfl) (Nat.le_of_ble_eq_true rfl) ⟨(by first | (simp [sp_feed, cnd, okC, okS, okW, okN, inR, n2_, n3_, n5_, n31_]; done) | (simp_all [sp_feed, cnd, okC, okS, okW, okN, inR, n2_, n3_, n5_, n31_]; done) | skip), (sm_set e35 (by decide) (sm_set e34 (by decide) (sm_set e33 (by decide) (sm_set e32 (by decide) (sm_set e31 (by decide) (sm_set e30 (by decide) sm_rf))))))⟩
      · exact aw_ri dX11_feed_21 rfl rfl (Nat.le_of_ble_eq_true rfl) (Nat.le_of_ble_eq_true rfl) ⟨(by first | (simp [sp_feed, cnd, okC, okS, okW, okN, inR, n2_, n3_, n5_, n31_]; done) | (simp_all [sp_feed, cnd, okC, okS, okW, okN, inR, n2_, n3_, n5_, n31_]; done) | skip), (sm_set e43 (by decide) (sm_set e42 (by decide) (sm_set e41 (by decide) (sm_set e40 (by decide) (sm_set e39 (by decide) (sm_set e38 (by decide) (sm_set e37 (by decide) (sm_set e36 (by decide) sm_rf))))))))⟩
    · refine aw_iconst (v := (-1)) (pc' := 11) dX11_feed_10 rfl (by decide) ?_
      exact aw_ri dX11_feed_11 rfl rfl (Nat.le_of_ble_eq_true rfl) (Nat.le_of_ble_eq_true rfl) ⟨(by first | (simp [sp_feed, cnd, okC, okS, okW, okN, inR, n2_, n3_, n5_, n31_, c1, c2]; done) | (simp_all [sp_feed, cnd, okC, okS, okW, okN, inR, n2_, n3_, n5_, n31_]; done) | skip), sm_rf⟩
set_option maxRecDepth 4000 in
theorem x_text (h : List aE) (hx : Fx 0 h) (hlen : h.length = 126) (w : Int32) (t : Int32) : AM mX11_text 10 [.ref 8, .int w, .int t] h 0 0 (PI fun r h' => r = sp_text w t ∧ Sm h h') := by
  refine am_of (lv := [some (.ref 8), some (.int w), some (.int t), none]) rfl (Nat.le_of_ble_eq_true rfl) rfl ?_
  refine aw_iload_n (pc' := 1) dX11_text_0 rfl rfl ?_
  have cc1 : AM mX11_isOrder 0 [.int w] h 0 0 (PI fun r h' => (w < 0 ∧ 0 = r ∧ h = h') ∨ (¬ (w < 0) ∧ 1 < (w / 10) ∧ 0 = r ∧ h = h') ∨ (¬ (w < 0) ∧ ¬ (1 < (w / 10)) ∧ 2 < (w % 10) ∧ 0 = r ∧ h = h') ∨ (¬ (w < 0) ∧ ¬ (1 < (w / 10)) ∧ ¬ (2 < (w % 10)) ∧ 1 = r ∧ h = h')) := by
    refine am_of (lv := [some (.int w)]) rfl (Nat.le_of_ble_eq_true rfl) rfl ?_
    refine aw_iload_n (pc' := 1) dX11_isOrder_0 rfl rfl ?_
    refine aw_zlt (tgt := 24) (pc' := 4) dX11_isOrder_1 (by decide) rfl (fun c2 => ?_) (fun c2 => ?_)
    · refine aw_iconst (v := 0) (pc' := 25) dX11_isOrder_24 rfl (by decide) ?_
      exact aw_ri dX11_isOrder_25 rfl (by decide) (Nat.le_of_ble_eq_true rfl) (Nat.le_of_ble_eq_true rfl) (Or.inl ⟨c2, rfl, rfl⟩)
    · refine aw_iload_n (pc' := 5) dX11_isOrder_4 rfl rfl ?_
      refine aw_bipush (v := 10) (pc' := 7) dX11_isOrder_5 rfl (by decide) ?_
      refine aw_idiv (pc' := 8) dX11_isOrder_7 rfl (by decide) ?_
      refine aw_iconst (v := 1) (pc' := 9) dX11_isOrder_8 rfl (by decide) ?_
      refine aw_cgt (tgt := 24) (pc' := 12) dX11_isOrder_9 (by decide) rfl (fun c3 => ?_) (fun c3 => ?_)
      · refine aw_iconst (v := 0) (pc' := 25) dX11_isOrder_24 rfl (by decide) ?_
        exact aw_ri dX11_isOrder_25 rfl (by decide) (Nat.le_of_ble_eq_true rfl) (Nat.le_of_ble_eq_true rfl) (Or.inr (Or.inl ⟨c2, c3, rfl, rfl⟩))
      · refine aw_iload_n (pc' := 13) dX11_isOrder_12 rfl rfl ?_
        refine aw_bipush (v := 10) (pc' := 15) dX11_isOrder_13 rfl (by decide) ?_
        refine aw_irem (pc' := 16) dX11_isOrder_15 rfl (by decide) ?_
        refine aw_iconst (v := 2) (pc' := 17) dX11_isOrder_16 rfl (by decide) ?_
        refine aw_cgt (tgt := 24) (pc' := 20) dX11_isOrder_17 (by decide) rfl (fun c4 => ?_) (fun c4 => ?_)
        · refine aw_iconst (v := 0) (pc' := 25) dX11_isOrder_24 rfl (by decide) ?_
          exact aw_ri dX11_isOrder_25 rfl (by decide) (Nat.le_of_ble_eq_true rfl) (Nat.le_of_ble_eq_true rfl) (Or.inr (Or.inr (Or.inl ⟨c2, c3, c4, rfl, rfl⟩)))
        · refine aw_iconst (v := 1) (pc' := 21) dX11_isOrder_20 rfl (by decide) ?_
          refine aw_goto (tgt := 25) dX11_isOrder_21 (by decide) ?_
          exact aw_ri dX11_isOrder_25 rfl (by decide) (Nat.le_of_ble_eq_true rfl) (Nat.le_of_ble_eq_true rfl) (Or.inr (Or.inr (Or.inr ⟨c2, c3, c4, rfl, rfl⟩)))
  refine aw_callSi (M' := mX11_isOrder) (nc' := 0) (ns' := 0) (pc' := 4) dX11_text_1 rfl ml_RX11_264 kX11_isOrder cc1 rfl rfl (Nat.le_of_ble_eq_true rfl) (rok rfl) rfl rfl (fun r14 h14 q14 => ?_)
  rcases q14 with ⟨c5, rfl, rfl⟩ | ⟨c6, c7, rfl, rfl⟩ | ⟨c8, c9, c10, rfl, rfl⟩ | ⟨c11, c12, c13, rfl, rfl⟩
  · refine aw_if_eq (tgt := 22) (pc' := 7) dX11_text_4 (by decide) rfl (fun _ => ?_) (fun c => absurd (by decide) c)
    refine aw_iconst (v := (-1)) (pc' := 23) dX11_text_22 rfl (by decide) ?_
    exact aw_ri dX11_text_23 rfl rfl (Nat.le_of_ble_eq_true rfl) (Nat.le_of_ble_eq_true rfl) ⟨(by first | (simp [sp_text, cnd, okC, okS, okW, okN, inR, n3_, n31_, c5]; done) | (simp_all [sp_text, cnd, okC, okS, okW, okN, inR, n3_, n31_]; done) | skip), sm_rf⟩
  · refine aw_if_eq (tgt := 22) (pc' := 7) dX11_text_4 (by decide) rfl (fun _ => ?_) (fun c => absurd (by decide) c)
    refine aw_iconst (v := (-1)) (pc' := 23) dX11_text_22 rfl (by decide) ?_
    exact aw_ri dX11_text_23 rfl rfl (Nat.le_of_ble_eq_true rfl) (Nat.le_of_ble_eq_true rfl) ⟨(by first | (simp [sp_text, cnd, okC, okS, okW, okN, inR, n3_, n31_, c6, c7]; done) | (simp_all [sp_text, cnd, okC, okS, okW, okN, inR, n3_, n31_]; done) | skip), sm_rf⟩
  · refine aw_if_eq (tgt := 22) (pc' := 7) dX11_text_4 (by decide) rfl (fun _ => ?_) (fun c => absurd (by decide) c)
    refine aw_iconst (v := (-1)) (pc' := 23) dX11_text_22 rfl (by decide) ?_
    exact aw_ri dX11_text_23 rfl rfl (Nat.le_of_ble_eq_true rfl) (Nat.le_of_ble_eq_true rfl) ⟨(by first | (simp [sp_text, cnd, okC, okS, okW, okN, inR, n3_, n31_, c8, c9, c10]; done) | (simp_all [sp_text, cnd, okC, okS, okW, okN, inR, n3_, n31_]; done) | skip), sm_rf⟩
  · refine aw_if_eq (tgt := 22) (pc' := 7) dX11_text_4 (by decide) rfl (fun c => absurd c (by decide)) (fun _ => ?_)
    refine aw_iload_n (pc' := 8) dX11_text_7 rfl rfl ?_
    refine aw_aload_n (pc' := 9) dX11_text_8 rfl rfl rfl ?_
    refine aw_get clsAll (pc' := 12) dX11_text_9 rfl fl_RX11_168 hx.1 rfl ?_
    refine aw_clt (tgt := 22) (pc' := 15) dX11_text_12 (by decide) rfl (fun c15 => ?_) (fun c15 => ?_)
    · refine aw_iconst (v := (-1)) (pc' := 23) dX11_text_22 rfl (by decide) ?_
      exact aw_ri dX11_text_23 rfl rfl (Nat.le_of_ble_eq_true rfl) (Nat.le_of_ble_eq_true rfl) ⟨(by first | (simp [sp_text, cnd, okC, okS, okW, okN, inR, n3_, n31_, c11, c12, c13, c15]; done) | (simp_all [sp_text, cnd, okC, okS, okW, okN, inR, n3_, n31_]; done) | skip), sm_rf⟩
    · refine aw_iload_n (pc' := 16) dX11_text_15 rfl rfl ?_
      refine aw_sipush (v := 1699) (pc' := 19) dX11_text_16 rfl (by decide) ?_
      refine aw_cle (tgt := 24) (pc' := 22) dX11_text_19 (by decide) rfl (fun c16 => ?_) (fun c16 => ?_)
      · refine aw_aload_n (pc' := 25) dX11_text_24 rfl rfl rfl ?_
        refine aw_get clsAll (pc' := 28) dX11_text_25 rfl fl_RX11_267 hx.1 rfl ?_
        refine aw_bipush (v := 16) (pc' := 30) dX11_text_28 rfl (by decide) ?_
        refine aw_clt (tgt := 36) (pc' := 33) dX11_text_30 (by decide) rfl (fun _ => ?_) (fun c => absurd (by decide) c)
        refine aw_aload_n (pc' := 37) dX11_text_36 rfl rfl rfl ?_
        refine aw_get clsAll (pc' := 40) dX11_text_37 rfl fl_RX11_48 hx.1 rfl ?_
        have cc17 : AM mX7_compiled 9 [.ref 32] h 0 0 (PI fun r h' => (0 = r ∧ ∃ h87 : List aE, h.set 24 (.inr (7, [.ref 33, .int 0, .ref 34, .int 0, .int 0, .int 0])) = h87 ∧ ∃ h88 : List aE, h87.set 24 (.inr (7, [.ref 33, .int 0, .ref 34, .int 0, .int 0, .int 0])) = h88 ∧ ∃ h89 : List aE, h88.set 24 (.inr (7, [.ref 33, .int 0, .ref 34, .int 0, .int 0, .int (-1)])) = h89 ∧ ∃ h90 : List aE, h89.set 24 (.inr (7, [.ref 33, .int 0, .ref 34, .int 0, .int 0, .int 0])) = h90 ∧ h90 = h')) := by
          refine am_of (lv := [some (.ref 32), none]) rfl (Nat.le_of_ble_eq_true rfl) rfl ?_
          refine aw_aload_n (pc' := 1) dX7_compiled_0 rfl rfl rfl ?_
          refine aw_iconst (v := 0) (pc' := 2) dX7_compiled_1 rfl (by decide) ?_
          refine aw_putG clsAll (pc' := 5) dX7_compiled_2 rfl fl_RX7_22 ((hx.2 24 (by decide) (by decide)).trans h0_24) (Nat.le_of_ble_eq_true rfl) rfl (fun h18 e18 => ?_)
          refine aw_aload_n (pc' := 6) dX7_compiled_5 rfl rfl rfl ?_
          refine aw_iconst (v := 0) (pc' := 7) dX7_compiled_6 rfl (by decide) ?_
          refine aw_putG clsAll (pc' := 10) dX7_compiled_7 rfl fl_RX7_31 (gss e18 ((hx.2 24 (by decide) (by decide)).trans h0_24)) (Nat.le_of_ble_eq_true rfl) rfl (fun h19 e19 => ?_)
          refine aw_aload_n (pc' := 11) dX7_compiled_10 rfl rfl rfl ?_
          refine aw_iconst (v := (-1)) (pc' := 12) dX7_compiled_11 rfl (by decide) ?_
          refine aw_putG clsAll (pc' := 15) dX7_compiled_12 rfl fl_RX7_34 (gss e19 (gss e18 ((hx.2 24 (by decide) (by decide)).trans h0_24))) (Nat.le_of_ble_eq_true rfl) rfl (fun h20 e20 => ?_)
          refine aw_aload_n (pc' := 16) dX7_compiled_15 rfl rfl rfl ?_
          have cc21 : AM mX7_line 8 [.ref 32] h20 0 0 (PV fun h' => (∃ h83 : List aE, h20.set 24 (.inr (7, [.ref 33, .int 0, .ref 34, .int 0, .int 0, .int 0])) = h83 ∧ h83 = h')) := by
            refine am_of (lv := [some (.ref 32)]) rfl (Nat.le_of_ble_eq_true rfl) rfl ?_
            refine aw_aload_n (pc' := 1) dX7_line_0 rfl rfl rfl ?_
            refine aw_iconst (v := 0) (pc' := 2) dX7_line_1 rfl (by decide) ?_
            have cc22 : AM mX7_either 7 [.ref 32, .int 0] h20 0 0 (PV fun h' => (∃ h77 : List aE, h20.set 24 (.inr (7, [.ref 33, .int 0, .ref 34, .int 0, .int 0, .int 0])) = h77 ∧ h77 = h')) := by
              refine am_of (lv := [some (.ref 32), some (.int 0), none]) rfl (Nat.le_of_ble_eq_true rfl) rfl ?_
              refine aw_aload_n (pc' := 1) dX7_either_0 rfl rfl rfl ?_
              refine aw_iload_n (pc' := 2) dX7_either_1 rfl rfl ?_
              have cc23 : AM mX7_both 6 [.ref 32, .int 0] h20 0 0 (PV fun h' => (∃ h73 : List aE, h20.set 24 (.inr (7, [.ref 33, .int 0, .ref 34, .int 0, .int 0, .int 0])) = h73 ∧ h73 = h')) := by
                refine am_of (lv := [some (.ref 32), some (.int 0), none]) rfl (Nat.le_of_ble_eq_true rfl) rfl ?_
                refine aw_aload_n (pc' := 1) dX7_both_0 rfl rfl rfl ?_
                refine aw_iload_n (pc' := 2) dX7_both_1 rfl rfl ?_
                have cc24 : AM mX7_compared 5 [.ref 32, .int 0] h20 0 0 (PV fun h' => (∃ h69 : List aE, h20.set 24 (.inr (7, [.ref 33, .int 0, .ref 34, .int 0, .int 0, .int 0])) = h69 ∧ h69 = h')) := by
                  refine am_of (lv := [some (.ref 32), some (.int 0), none]) rfl (Nat.le_of_ble_eq_true rfl) rfl ?_
                  refine aw_aload_n (pc' := 1) dX7_compared_0 rfl rfl rfl ?_
                  refine aw_iload_n (pc' := 2) dX7_compared_1 rfl rfl ?_
                  have cc25 : AM mX7_sum 4 [.ref 32, .int 0] h20 0 0 (PV fun h' => (∃ h61 : List aE, h20.set 24 (.inr (7, [.ref 33, .int 0, .ref 34, .int 0, .int 0, .int 0])) = h61 ∧ h61 = h')) := by
                    refine am_of (lv := [some (.ref 32), some (.int 0), none, none]) rfl (Nat.le_of_ble_eq_true rfl) rfl ?_
                    refine aw_aload_n (pc' := 1) dX7_sum_0 rfl rfl rfl ?_
                    refine aw_iload_n (pc' := 2) dX7_sum_1 rfl rfl ?_
                    have cc26 : AM mX7_product 3 [.ref 32, .int 0] h20 0 0 (PV fun h' => (∃ h53 : List aE, h20.set 24 (.inr (7, [.ref 33, .int 0, .ref 34, .int 0, .int 0, .int 0])) = h53 ∧ h53 = h')) := by
                      refine am_of (lv := [some (.ref 32), some (.int 0), none, none]) rfl (Nat.le_of_ble_eq_true rfl) rfl ?_
                      refine aw_aload_n (pc' := 1) dX7_product_0 rfl rfl rfl ?_
                      refine aw_iload_n (pc' := 2) dX7_product_1 rfl rfl ?_
                      have cc27 : AM mX7_single 2 [.ref 32, .int 0] h20 0 0 (PV fun h' => (∃ h43 : List aE, h20.set 24 (.inr (7, [.ref 33, .int 0, .ref 34, .int 0, .int 0, .int 0])) = h43 ∧ h43 = h')) := by
                        refine am_of (lv := [some (.ref 32), some (.int 0)]) rfl (Nat.le_of_ble_eq_true rfl) rfl ?_
                        refine aw_aload_n (pc' := 1) dX7_single_0 rfl rfl rfl ?_
                        refine aw_get clsAll (pc' := 4) dX7_single_1 rfl fl_RX7_34 (gss e20 (gss e19 (gss e18 ((hx.2 24 (by decide) (by decide)).trans h0_24)))) rfl ?_
                        refine aw_zlt (tgt := 8) (pc' := 7) dX7_single_4 (by decide) rfl (fun _ => ?_) (fun c => absurd (by decide) c)
                        refine aw_aload_n (pc' := 9) dX7_single_8 rfl rfl rfl ?_
                        have cc28 : AM mX7_isDigit 0 [.ref 32] h20 0 0 (PI fun r h' => (0 = r ∧ h20 = h')) := by
                          refine am_of (lv := [some (.ref 32)]) rfl (Nat.le_of_ble_eq_true rfl) rfl ?_
                          refine aw_aload_n (pc' := 1) dX7_isDigit_0 rfl rfl rfl ?_
                          refine aw_get clsAll (pc' := 4) dX7_isDigit_1 rfl fl_RX7_31 (gss e20 (gss e19 (gss e18 ((hx.2 24 (by decide) (by decide)).trans h0_24)))) rfl ?_
                          refine aw_aload_n (pc' := 5) dX7_isDigit_4 rfl rfl rfl ?_
                          refine aw_get clsAll (pc' := 8) dX7_isDigit_5 rfl fl_RX7_18 (gss e20 (gss e19 (gss e18 ((hx.2 24 (by decide) (by decide)).trans h0_24)))) rfl ?_
                          refine aw_cge (tgt := 43) (pc' := 11) dX7_isDigit_8 (by decide) rfl (fun _ => ?_) (fun c => absurd c (by decide))
                          refine aw_iconst (v := 0) (pc' := 44) dX7_isDigit_43 rfl (by decide) ?_
                          exact aw_ri dX7_isDigit_44 rfl (by decide) (Nat.le_of_ble_eq_true rfl) (Nat.le_of_ble_eq_true rfl) ⟨rfl, rfl⟩
                        refine aw_callVi (M' := mX7_isDigit) (nc' := 0) (ns' := 0) (pc' := 12) dX7_single_9 rfl ml_RX7_75 kX7_isDigit cc28 (gss e20 (gss e19 (gss e18 ((hx.2 24 (by decide) (by decide)).trans h0_24)))) rfl rfl rfl (Nat.le_of_ble_eq_true rfl) (rok rfl) rfl rfl (fun r29 h29 q29 => ?_)
                        obtain ⟨rfl, rfl⟩ := q29
                        refine aw_if_eq (tgt := 22) (pc' := 15) dX7_single_12 (by decide) rfl (fun _ => ?_) (fun c => absurd (by decide) c)
                        refine aw_iload_n (pc' := 23) dX7_single_22 rfl rfl ?_
                        refine aw_bipush (v := 8) (pc' := 25) dX7_single_23 rfl (by decide) ?_
                        refine aw_cge (tgt := 60) (pc' := 28) dX7_single_25 (by decide) rfl (fun c => absurd (by decide) c) (fun _ => ?_)
                        refine aw_aload_n (pc' := 29) dX7_single_28 rfl rfl rfl ?_
                        refine aw_bipush (v := 40) (pc' := 31) dX7_single_29 rfl (by decide) ?_
                        have cc30 : AM mX7_takes 0 [.ref 32, .int 40] h20 0 0 (PI fun r h' => (0 = r ∧ h20 = h')) := by
                          refine am_of (lv := [some (.ref 32), some (.int 40)]) rfl (Nat.le_of_ble_eq_true rfl) rfl ?_
                          refine aw_aload_n (pc' := 1) dX7_takes_0 rfl rfl rfl ?_
                          refine aw_get clsAll (pc' := 4) dX7_takes_1 rfl fl_RX7_34 (gss e20 (gss e19 (gss e18 ((hx.2 24 (by decide) (by decide)).trans h0_24)))) rfl ?_
                          refine aw_zge (tgt := 31) (pc' := 7) dX7_takes_4 (by decide) rfl (fun c => absurd (by decide) c) (fun _ => ?_)
                          refine aw_aload_n (pc' := 8) dX7_takes_7 rfl rfl rfl ?_
                          refine aw_get clsAll (pc' := 11) dX7_takes_8 rfl fl_RX7_31 (gss e20 (gss e19 (gss e18 ((hx.2 24 (by decide) (by decide)).trans h0_24)))) rfl ?_
                          refine aw_aload_n (pc' := 12) dX7_takes_11 rfl rfl rfl ?_
                          refine aw_get clsAll (pc' := 15) dX7_takes_12 rfl fl_RX7_18 (gss e20 (gss e19 (gss e18 ((hx.2 24 (by decide) (by decide)).trans h0_24)))) rfl ?_
                          refine aw_cge (tgt := 31) (pc' := 18) dX7_takes_15 (by decide) rfl (fun _ => ?_) (fun c => absurd c (by decide))
                          refine aw_iconst (v := 0) (pc' := 32) dX7_takes_31 rfl (by decide) ?_
                          exact aw_ri dX7_takes_32 rfl (by decide) (Nat.le_of_ble_eq_true rfl) (Nat.le_of_ble_eq_true rfl) ⟨rfl, rfl⟩
                        refine aw_callVi (M' := mX7_takes) (nc' := 0) (ns' := 0) (pc' := 34) dX7_single_31 rfl ml_RX7_40 kX7_takes cc30 (gss e20 (gss e19 (gss e18 ((hx.2 24 (by decide) (by decide)).trans h0_24)))) rfl rfl rfl (Nat.le_of_ble_eq_true rfl) (rok rfl) rfl rfl (fun r31 h31 q31 => ?_)
                        obtain ⟨rfl, rfl⟩ := q31
                        refine aw_if_eq (tgt := 60) (pc' := 37) dX7_single_34 (by decide) rfl (fun _ => ?_) (fun c => absurd (by decide) c)
                        refine aw_iload_n (pc' := 61) dX7_single_60 rfl rfl ?_
                        refine aw_bipush (v := 8) (pc' := 63) dX7_single_61 rfl (by decide) ?_
                        refine aw_cge (tgt := 91) (pc' := 66) dX7_single_63 (by decide) rfl (fun c => absurd (by decide) c) (fun _ => ?_)
                        refine aw_aload_n (pc' := 67) dX7_single_66 rfl rfl rfl ?_
                        refine aw_bipush (v := 33) (pc' := 69) dX7_single_67 rfl (by decide) ?_
                        have cc32 : AM mX7_takes 0 [.ref 32, .int 33] h20 0 0 (PI fun r h' => (0 = r ∧ h20 = h')) := by
                          refine am_of (lv := [some (.ref 32), some (.int 33)]) rfl (Nat.le_of_ble_eq_true rfl) rfl ?_
                          refine aw_aload_n (pc' := 1) dX7_takes_0 rfl rfl rfl ?_
                          refine aw_get clsAll (pc' := 4) dX7_takes_1 rfl fl_RX7_34 (gss e20 (gss e19 (gss e18 ((hx.2 24 (by decide) (by decide)).trans h0_24)))) rfl ?_
                          refine aw_zge (tgt := 31) (pc' := 7) dX7_takes_4 (by decide) rfl (fun c => absurd (by decide) c) (fun _ => ?_)
                          refine aw_aload_n (pc' := 8) dX7_takes_7 rfl rfl rfl ?_
                          refine aw_get clsAll (pc' := 11) dX7_takes_8 rfl fl_RX7_31 (gss e20 (gss e19 (gss e18 ((hx.2 24 (by decide) (by decide)).trans h0_24)))) rfl ?_
                          refine aw_aload_n (pc' := 12) dX7_takes_11 rfl rfl rfl ?_
                          refine aw_get clsAll (pc' := 15) dX7_takes_12 rfl fl_RX7_18 (gss e20 (gss e19 (gss e18 ((hx.2 24 (by decide) (by decide)).trans h0_24)))) rfl ?_
                          refine aw_cge (tgt := 31) (pc' := 18) dX7_takes_15 (by decide) rfl (fun _ => ?_) (fun c => absurd c (by decide))
                          refine aw_iconst (v := 0) (pc' := 32) dX7_takes_31 rfl (by decide) ?_
                          exact aw_ri dX7_takes_32 rfl (by decide) (Nat.le_of_ble_eq_true rfl) (Nat.le_of_ble_eq_true rfl) ⟨rfl, rfl⟩
                        refine aw_callVi (M' := mX7_takes) (nc' := 0) (ns' := 0) (pc' := 72) dX7_single_69 rfl ml_RX7_40 kX7_takes cc32 (gss e20 (gss e19 (gss e18 ((hx.2 24 (by decide) (by decide)).trans h0_24)))) rfl rfl rfl (Nat.le_of_ble_eq_true rfl) (rok rfl) rfl rfl (fun r33 h33 q33 => ?_)
                        obtain ⟨rfl, rfl⟩ := q33
                        refine aw_if_eq (tgt := 91) (pc' := 75) dX7_single_72 (by decide) rfl (fun _ => ?_) (fun c => absurd (by decide) c)
                        refine aw_iload_n (pc' := 92) dX7_single_91 rfl rfl ?_
                        refine aw_bipush (v := 8) (pc' := 94) dX7_single_92 rfl (by decide) ?_
                        refine aw_cge (tgt := 122) (pc' := 97) dX7_single_94 (by decide) rfl (fun c => absurd (by decide) c) (fun _ => ?_)
                        refine aw_aload_n (pc' := 98) dX7_single_97 rfl rfl rfl ?_
                        refine aw_bipush (v := 45) (pc' := 100) dX7_single_98 rfl (by decide) ?_
                        have cc34 : AM mX7_takes 0 [.ref 32, .int 45] h20 0 0 (PI fun r h' => (0 = r ∧ h20 = h')) := by
                          refine am_of (lv := [some (.ref 32), some (.int 45)]) rfl (Nat.le_of_ble_eq_true rfl) rfl ?_
                          refine aw_aload_n (pc' := 1) dX7_takes_0 rfl rfl rfl ?_
                          refine aw_get clsAll (pc' := 4) dX7_takes_1 rfl fl_RX7_34 (gss e20 (gss e19 (gss e18 ((hx.2 24 (by decide) (by decide)).trans h0_24)))) rfl ?_
                          refine aw_zge (tgt := 31) (pc' := 7) dX7_takes_4 (by decide) rfl (fun c => absurd (by decide) c) (fun _ => ?_)
                          refine aw_aload_n (pc' := 8) dX7_takes_7 rfl rfl rfl ?_
                          refine aw_get clsAll (pc' := 11) dX7_takes_8 rfl fl_RX7_31 (gss e20 (gss e19 (gss e18 ((hx.2 24 (by decide) (by decide)).trans h0_24)))) rfl ?_
                          refine aw_aload_n (pc' := 12) dX7_takes_11 rfl rfl rfl ?_
                          refine aw_get clsAll (pc' := 15) dX7_takes_12 rfl fl_RX7_18 (gss e20 (gss e19 (gss e18 ((hx.2 24 (by decide) (by decide)).trans h0_24)))) rfl ?_
                          refine aw_cge (tgt := 31) (pc' := 18) dX7_takes_15 (by decide) rfl (fun _ => ?_) (fun c => absurd c (by decide))
                          refine aw_iconst (v := 0) (pc' := 32) dX7_takes_31 rfl (by decide) ?_
                          exact aw_ri dX7_takes_32 rfl (by decide) (Nat.le_of_ble_eq_true rfl) (Nat.le_of_ble_eq_true rfl) ⟨rfl, rfl⟩
                        refine aw_callVi (M' := mX7_takes) (nc' := 0) (ns' := 0) (pc' := 103) dX7_single_100 rfl ml_RX7_40 kX7_takes cc34 (gss e20 (gss e19 (gss e18 ((hx.2 24 (by decide) (by decide)).trans h0_24)))) rfl rfl rfl (Nat.le_of_ble_eq_true rfl) (rok rfl) rfl rfl (fun r35 h35 q35 => ?_)
                        obtain ⟨rfl, rfl⟩ := q35
                        refine aw_if_eq (tgt := 122) (pc' := 106) dX7_single_103 (by decide) rfl (fun _ => ?_) (fun c => absurd (by decide) c)
                        refine aw_aload_n (pc' := 123) dX7_single_122 rfl rfl rfl ?_
                        have cc36 : AM mX7_name 1 [.ref 32] h20 0 0 (PV fun h' => (∃ h41 : List aE, h20.set 24 (.inr (7, [.ref 33, .int 0, .ref 34, .int 0, .int 0, .int 0])) = h41 ∧ h41 = h')) := by
                          refine am_of (lv := [some (.ref 32), none]) rfl (Nat.le_of_ble_eq_true rfl) rfl ?_
                          refine aw_aload_n (pc' := 1) dX7_name_0 rfl rfl rfl ?_
                          refine aw_get clsAll (pc' := 4) dX7_name_1 rfl fl_RX7_31 (gss e20 (gss e19 (gss e18 ((hx.2 24 (by decide) (by decide)).trans h0_24)))) rfl ?_
                          refine aw_aload_n (pc' := 5) dX7_name_4 rfl rfl rfl ?_
                          refine aw_get clsAll (pc' := 8) dX7_name_5 rfl fl_RX7_18 (gss e20 (gss e19 (gss e18 ((hx.2 24 (by decide) (by decide)).trans h0_24)))) rfl ?_
                          refine aw_cge (tgt := 29) (pc' := 11) dX7_name_8 (by decide) rfl (fun _ => ?_) (fun c => absurd c (by decide))
                          refine aw_iconst (v := (-1)) (pc' := 30) dX7_name_29 rfl (by decide) ?_
                          refine aw_istore_n (lv' := [_, _]) (pc' := 31) dX7_name_30 rfl (Nat.le_of_ble_eq_true rfl) rfl ?_
                          refine aw_iload_n (pc' := 32) dX7_name_31 rfl rfl ?_
                          refine aw_zge (tgt := 40) (pc' := 35) dX7_name_32 (by decide) rfl (fun c => absurd (by decide) c) (fun _ => ?_)
                          refine aw_aload_n (pc' := 36) dX7_name_35 rfl rfl rfl ?_
                          have cc37 : AM mX7_fails 0 [.ref 32] h20 0 0 (PV fun h' => (∃ h39 : List aE, h20.set 24 (.inr (7, [.ref 33, .int 0, .ref 34, .int 0, .int 0, .int 0])) = h39 ∧ h39 = h')) := by
                            refine am_of (lv := [some (.ref 32)]) rfl (Nat.le_of_ble_eq_true rfl) rfl ?_
                            refine aw_aload_n (pc' := 1) dX7_fails_0 rfl rfl rfl ?_
                            refine aw_get clsAll (pc' := 4) dX7_fails_1 rfl fl_RX7_34 (gss e20 (gss e19 (gss e18 ((hx.2 24 (by decide) (by decide)).trans h0_24)))) rfl ?_
                            refine aw_zge (tgt := 15) (pc' := 7) dX7_fails_4 (by decide) rfl (fun c => absurd (by decide) c) (fun _ => ?_)
                            refine aw_aload_n (pc' := 8) dX7_fails_7 rfl rfl rfl ?_
                            refine aw_aload_n (pc' := 9) dX7_fails_8 rfl rfl rfl ?_
                            refine aw_get clsAll (pc' := 12) dX7_fails_9 rfl fl_RX7_31 (gss e20 (gss e19 (gss e18 ((hx.2 24 (by decide) (by decide)).trans h0_24)))) rfl ?_
                            refine aw_putG clsAll (pc' := 15) dX7_fails_12 rfl fl_RX7_34 (gss e20 (gss e19 (gss e18 ((hx.2 24 (by decide) (by decide)).trans h0_24)))) (Nat.le_of_ble_eq_true rfl) rfl (fun h38 e38 => ?_)
                            exact aw_rv dX7_fails_15 rfl (Nat.le_of_ble_eq_true rfl) (Nat.le_of_ble_eq_true rfl) ⟨h38, e38, rfl⟩
                          refine aw_callVv (M' := mX7_fails) (nc' := 0) (ns' := 0) (pc' := 39) dX7_name_36 rfl ml_RX7_82 kX7_fails cc37 (gss e20 (gss e19 (gss e18 ((hx.2 24 (by decide) (by decide)).trans h0_24)))) rfl rfl rfl (Nat.le_of_ble_eq_true rfl) (rok rfl) rfl rfl (fun h40 q40 => ?_)
                          obtain ⟨h39, e39, rfl⟩ := q40
                          exact aw_rv dX7_name_39 rfl (Nat.le_of_ble_eq_true rfl) (Nat.le_of_ble_eq_true rfl) ⟨h39, e39, rfl⟩
                        refine aw_callVv (M' := mX7_name) (nc' := 0) (ns' := 0) (pc' := 126) dX7_single_123 rfl ml_RX7_85 kX7_name cc36 (gss e20 (gss e19 (gss e18 ((hx.2 24 (by decide) (by decide)).trans h0_24)))) rfl rfl rfl (Nat.le_of_ble_eq_true rfl) (rok rfl) rfl rfl (fun h42 q42 => ?_)
                        obtain ⟨h41, e41, rfl⟩ := q42
                        exact aw_rv dX7_single_126 rfl (Nat.le_of_ble_eq_true rfl) (Nat.le_of_ble_eq_true rfl) ⟨h41, e41, rfl⟩
                      refine aw_callVv (M' := mX7_single) (nc' := 0) (ns' := 0) (pc' := 5) dX7_product_2 rfl ml_RX7_69 kX7_single cc27 (gss e20 (gss e19 (gss e18 ((hx.2 24 (by decide) (by decide)).trans h0_24)))) rfl rfl rfl (Nat.le_of_ble_eq_true rfl) (rok rfl) rfl rfl (fun h44 q44 => ?_)
                      obtain ⟨h43, e43, rfl⟩ := q44
                      refine aw_aload_n (pc' := 6) dX7_product_5 rfl rfl rfl ?_
                      have cc45 : AM mX7_timesOrOver 1 [.ref 32] h43 0 0 (PI fun r h' => (0 = r ∧ h43 = h')) := by
                        refine am_of (lv := [some (.ref 32)]) rfl (Nat.le_of_ble_eq_true rfl) rfl ?_
                        refine aw_aload_n (pc' := 1) dX7_timesOrOver_0 rfl rfl rfl ?_
                        refine aw_bipush (v := 42) (pc' := 3) dX7_timesOrOver_1 rfl (by decide) ?_
                        have cc46 : AM mX7_takes 0 [.ref 32, .int 42] h43 0 0 (PI fun r h' => (0 = r ∧ h43 = h')) := by
                          refine am_of (lv := [some (.ref 32), some (.int 42)]) rfl (Nat.le_of_ble_eq_true rfl) rfl ?_
                          refine aw_aload_n (pc' := 1) dX7_takes_0 rfl rfl rfl ?_
                          refine aw_get clsAll (pc' := 4) dX7_takes_1 rfl fl_RX7_34 (gss e43 (gss e20 (gss e19 (gss e18 ((hx.2 24 (by decide) (by decide)).trans h0_24))))) rfl ?_
                          refine aw_zge (tgt := 31) (pc' := 7) dX7_takes_4 (by decide) rfl (fun _ => ?_) (fun c => absurd c (by decide))
                          refine aw_iconst (v := 0) (pc' := 32) dX7_takes_31 rfl (by decide) ?_
                          exact aw_ri dX7_takes_32 rfl (by decide) (Nat.le_of_ble_eq_true rfl) (Nat.le_of_ble_eq_true rfl) ⟨rfl, rfl⟩
                        refine aw_callVi (M' := mX7_takes) (nc' := 0) (ns' := 0) (pc' := 6) dX7_timesOrOver_3 rfl ml_RX7_40 kX7_takes cc46 (gss e43 (gss e20 (gss e19 (gss e18 ((hx.2 24 (by decide) (by decide)).trans h0_24))))) rfl rfl rfl (Nat.le_of_ble_eq_true rfl) (rok rfl) rfl rfl (fun r47 h47 q47 => ?_)
                        obtain ⟨rfl, rfl⟩ := q47
                        refine aw_if_eq (tgt := 14) (pc' := 9) dX7_timesOrOver_6 (by decide) rfl (fun _ => ?_) (fun c => absurd (by decide) c)
                        refine aw_aload_n (pc' := 15) dX7_timesOrOver_14 rfl rfl rfl ?_
                        refine aw_bipush (v := 47) (pc' := 17) dX7_timesOrOver_15 rfl (by decide) ?_
                        have cc48 : AM mX7_takes 0 [.ref 32, .int 47] h43 0 0 (PI fun r h' => (0 = r ∧ h43 = h')) := by
                          refine am_of (lv := [some (.ref 32), some (.int 47)]) rfl (Nat.le_of_ble_eq_true rfl) rfl ?_
                          refine aw_aload_n (pc' := 1) dX7_takes_0 rfl rfl rfl ?_
                          refine aw_get clsAll (pc' := 4) dX7_takes_1 rfl fl_RX7_34 (gss e43 (gss e20 (gss e19 (gss e18 ((hx.2 24 (by decide) (by decide)).trans h0_24))))) rfl ?_
                          refine aw_zge (tgt := 31) (pc' := 7) dX7_takes_4 (by decide) rfl (fun _ => ?_) (fun c => absurd c (by decide))
                          refine aw_iconst (v := 0) (pc' := 32) dX7_takes_31 rfl (by decide) ?_
                          exact aw_ri dX7_takes_32 rfl (by decide) (Nat.le_of_ble_eq_true rfl) (Nat.le_of_ble_eq_true rfl) ⟨rfl, rfl⟩
                        refine aw_callVi (M' := mX7_takes) (nc' := 0) (ns' := 0) (pc' := 20) dX7_timesOrOver_17 rfl ml_RX7_40 kX7_takes cc48 (gss e43 (gss e20 (gss e19 (gss e18 ((hx.2 24 (by decide) (by decide)).trans h0_24))))) rfl rfl rfl (Nat.le_of_ble_eq_true rfl) (rok rfl) rfl rfl (fun r49 h49 q49 => ?_)
                        obtain ⟨rfl, rfl⟩ := q49
                        refine aw_if_eq (tgt := 28) (pc' := 23) dX7_timesOrOver_20 (by decide) rfl (fun _ => ?_) (fun c => absurd (by decide) c)
                        refine aw_aload_n (pc' := 29) dX7_timesOrOver_28 rfl rfl rfl ?_
                        refine aw_bipush (v := 37) (pc' := 31) dX7_timesOrOver_29 rfl (by decide) ?_
                        have cc50 : AM mX7_takes 0 [.ref 32, .int 37] h43 0 0 (PI fun r h' => (0 = r ∧ h43 = h')) := by
                          refine am_of (lv := [some (.ref 32), some (.int 37)]) rfl (Nat.le_of_ble_eq_true rfl) rfl ?_
                          refine aw_aload_n (pc' := 1) dX7_takes_0 rfl rfl rfl ?_
                          refine aw_get clsAll (pc' := 4) dX7_takes_1 rfl fl_RX7_34 (gss e43 (gss e20 (gss e19 (gss e18 ((hx.2 24 (by decide) (by decide)).trans h0_24))))) rfl ?_
                          refine aw_zge (tgt := 31) (pc' := 7) dX7_takes_4 (by decide) rfl (fun _ => ?_) (fun c => absurd c (by decide))
                          refine aw_iconst (v := 0) (pc' := 32) dX7_takes_31 rfl (by decide) ?_
                          exact aw_ri dX7_takes_32 rfl (by decide) (Nat.le_of_ble_eq_true rfl) (Nat.le_of_ble_eq_true rfl) ⟨rfl, rfl⟩
                        refine aw_callVi (M' := mX7_takes) (nc' := 0) (ns' := 0) (pc' := 34) dX7_timesOrOver_31 rfl ml_RX7_40 kX7_takes cc50 (gss e43 (gss e20 (gss e19 (gss e18 ((hx.2 24 (by decide) (by decide)).trans h0_24))))) rfl rfl rfl (Nat.le_of_ble_eq_true rfl) (rok rfl) rfl rfl (fun r51 h51 q51 => ?_)
                        obtain ⟨rfl, rfl⟩ := q51
                        refine aw_if_eq (tgt := 42) (pc' := 37) dX7_timesOrOver_34 (by decide) rfl (fun _ => ?_) (fun c => absurd (by decide) c)
                        refine aw_iconst (v := 0) (pc' := 43) dX7_timesOrOver_42 rfl (by decide) ?_
                        exact aw_ri dX7_timesOrOver_43 rfl rfl (Nat.le_of_ble_eq_true rfl) (Nat.le_of_ble_eq_true rfl) ⟨rfl, rfl⟩
                      refine aw_callVi (M' := mX7_timesOrOver) (nc' := 0) (ns' := 0) (pc' := 9) dX7_product_6 rfl ml_RX7_72 kX7_timesOrOver cc45 (gss e43 (gss e20 (gss e19 (gss e18 ((hx.2 24 (by decide) (by decide)).trans h0_24))))) rfl rfl rfl (Nat.le_of_ble_eq_true rfl) (rok rfl) rfl rfl (fun r52 h52 q52 => ?_)
                      obtain ⟨rfl, rfl⟩ := q52
                      refine aw_istore_n (lv' := [_, _, _, _]) (pc' := 10) dX7_product_9 rfl (Nat.le_of_ble_eq_true rfl) rfl ?_
                      refine aw_iconst (v := 0) (pc' := 11) dX7_product_10 rfl (by decide) ?_
                      refine aw_istore_n (lv' := [_, _, _, _]) (pc' := 12) dX7_product_11 rfl (Nat.le_of_ble_eq_true rfl) rfl ?_
                      refine aw_iload_n (pc' := 13) dX7_product_12 rfl rfl ?_
                      refine aw_sipush (v := 160) (pc' := 16) dX7_product_13 rfl (by decide) ?_
                      refine aw_cge (tgt := 44) (pc' := 19) dX7_product_16 (by decide) rfl (fun c => absurd (by decide) c) (fun _ => ?_)
                      refine aw_iload_n (pc' := 20) dX7_product_19 rfl rfl ?_
                      refine aw_if_eq (tgt := 44) (pc' := 23) dX7_product_20 (by decide) rfl (fun _ => ?_) (fun c => absurd (by decide) c)
                      exact aw_rv dX7_product_44 rfl (Nat.le_of_ble_eq_true rfl) (Nat.le_of_ble_eq_true rfl) ⟨h43, e43, rfl⟩
                    refine aw_callVv (M' := mX7_product) (nc' := 0) (ns' := 0) (pc' := 5) dX7_sum_2 rfl ml_RX7_62 kX7_product cc26 (gss e20 (gss e19 (gss e18 ((hx.2 24 (by decide) (by decide)).trans h0_24)))) rfl rfl rfl (Nat.le_of_ble_eq_true rfl) (rok rfl) rfl rfl (fun h54 q54 => ?_)
                    obtain ⟨h53, e53, rfl⟩ := q54
                    refine aw_aload_n (pc' := 6) dX7_sum_5 rfl rfl rfl ?_
                    have cc55 : AM mX7_plusOrMinus 1 [.ref 32] h53 0 0 (PI fun r h' => (0 = r ∧ h53 = h')) := by
                      refine am_of (lv := [some (.ref 32)]) rfl (Nat.le_of_ble_eq_true rfl) rfl ?_
                      refine aw_aload_n (pc' := 1) dX7_plusOrMinus_0 rfl rfl rfl ?_
                      refine aw_bipush (v := 43) (pc' := 3) dX7_plusOrMinus_1 rfl (by decide) ?_
                      have cc56 : AM mX7_takes 0 [.ref 32, .int 43] h53 0 0 (PI fun r h' => (0 = r ∧ h53 = h')) := by
                        refine am_of (lv := [some (.ref 32), some (.int 43)]) rfl (Nat.le_of_ble_eq_true rfl) rfl ?_
                        refine aw_aload_n (pc' := 1) dX7_takes_0 rfl rfl rfl ?_
                        refine aw_get clsAll (pc' := 4) dX7_takes_1 rfl fl_RX7_34 (gss e53 (gss e20 (gss e19 (gss e18 ((hx.2 24 (by decide) (by decide)).trans h0_24))))) rfl ?_
                        refine aw_zge (tgt := 31) (pc' := 7) dX7_takes_4 (by decide) rfl (fun _ => ?_) (fun c => absurd c (by decide))
                        refine aw_iconst (v := 0) (pc' := 32) dX7_takes_31 rfl (by decide) ?_
                        exact aw_ri dX7_takes_32 rfl (by decide) (Nat.le_of_ble_eq_true rfl) (Nat.le_of_ble_eq_true rfl) ⟨rfl, rfl⟩
                      refine aw_callVi (M' := mX7_takes) (nc' := 0) (ns' := 0) (pc' := 6) dX7_plusOrMinus_3 rfl ml_RX7_40 kX7_takes cc56 (gss e53 (gss e20 (gss e19 (gss e18 ((hx.2 24 (by decide) (by decide)).trans h0_24))))) rfl rfl rfl (Nat.le_of_ble_eq_true rfl) (rok rfl) rfl rfl (fun r57 h57 q57 => ?_)
                      obtain ⟨rfl, rfl⟩ := q57
                      refine aw_if_eq (tgt := 14) (pc' := 9) dX7_plusOrMinus_6 (by decide) rfl (fun _ => ?_) (fun c => absurd (by decide) c)
                      refine aw_aload_n (pc' := 15) dX7_plusOrMinus_14 rfl rfl rfl ?_
                      refine aw_bipush (v := 45) (pc' := 17) dX7_plusOrMinus_15 rfl (by decide) ?_
                      have cc58 : AM mX7_takes 0 [.ref 32, .int 45] h53 0 0 (PI fun r h' => (0 = r ∧ h53 = h')) := by
                        refine am_of (lv := [some (.ref 32), some (.int 45)]) rfl (Nat.le_of_ble_eq_true rfl) rfl ?_
                        refine aw_aload_n (pc' := 1) dX7_takes_0 rfl rfl rfl ?_
                        refine aw_get clsAll (pc' := 4) dX7_takes_1 rfl fl_RX7_34 (gss e53 (gss e20 (gss e19 (gss e18 ((hx.2 24 (by decide) (by decide)).trans h0_24))))) rfl ?_
                        refine aw_zge (tgt := 31) (pc' := 7) dX7_takes_4 (by decide) rfl (fun _ => ?_) (fun c => absurd c (by decide))
                        refine aw_iconst (v := 0) (pc' := 32) dX7_takes_31 rfl (by decide) ?_
                        exact aw_ri dX7_takes_32 rfl (by decide) (Nat.le_of_ble_eq_true rfl) (Nat.le_of_ble_eq_true rfl) ⟨rfl, rfl⟩
                      refine aw_callVi (M' := mX7_takes) (nc' := 0) (ns' := 0) (pc' := 20) dX7_plusOrMinus_17 rfl ml_RX7_40 kX7_takes cc58 (gss e53 (gss e20 (gss e19 (gss e18 ((hx.2 24 (by decide) (by decide)).trans h0_24))))) rfl rfl rfl (Nat.le_of_ble_eq_true rfl) (rok rfl) rfl rfl (fun r59 h59 q59 => ?_)
                      obtain ⟨rfl, rfl⟩ := q59
                      refine aw_if_eq (tgt := 28) (pc' := 23) dX7_plusOrMinus_20 (by decide) rfl (fun _ => ?_) (fun c => absurd (by decide) c)
                      refine aw_iconst (v := 0) (pc' := 29) dX7_plusOrMinus_28 rfl (by decide) ?_
                      exact aw_ri dX7_plusOrMinus_29 rfl rfl (Nat.le_of_ble_eq_true rfl) (Nat.le_of_ble_eq_true rfl) ⟨rfl, rfl⟩
                    refine aw_callVi (M' := mX7_plusOrMinus) (nc' := 0) (ns' := 0) (pc' := 9) dX7_sum_6 rfl ml_RX7_65 kX7_plusOrMinus cc55 (gss e53 (gss e20 (gss e19 (gss e18 ((hx.2 24 (by decide) (by decide)).trans h0_24))))) rfl rfl rfl (Nat.le_of_ble_eq_true rfl) (rok rfl) rfl rfl (fun r60 h60 q60 => ?_)
                    obtain ⟨rfl, rfl⟩ := q60
                    refine aw_istore_n (lv' := [_, _, _, _]) (pc' := 10) dX7_sum_9 rfl (Nat.le_of_ble_eq_true rfl) rfl ?_
                    refine aw_iconst (v := 0) (pc' := 11) dX7_sum_10 rfl (by decide) ?_
                    refine aw_istore_n (lv' := [_, _, _, _]) (pc' := 12) dX7_sum_11 rfl (Nat.le_of_ble_eq_true rfl) rfl ?_
                    refine aw_iload_n (pc' := 13) dX7_sum_12 rfl rfl ?_
                    refine aw_sipush (v := 160) (pc' := 16) dX7_sum_13 rfl (by decide) ?_
                    refine aw_cge (tgt := 44) (pc' := 19) dX7_sum_16 (by decide) rfl (fun c => absurd (by decide) c) (fun _ => ?_)
                    refine aw_iload_n (pc' := 20) dX7_sum_19 rfl rfl ?_
                    refine aw_if_eq (tgt := 44) (pc' := 23) dX7_sum_20 (by decide) rfl (fun _ => ?_) (fun c => absurd (by decide) c)
                    exact aw_rv dX7_sum_44 rfl (Nat.le_of_ble_eq_true rfl) (Nat.le_of_ble_eq_true rfl) ⟨h53, e53, rfl⟩
                  refine aw_callVv (M' := mX7_sum) (nc' := 0) (ns' := 0) (pc' := 5) dX7_compared_2 rfl ml_RX7_59 kX7_sum cc25 (gss e20 (gss e19 (gss e18 ((hx.2 24 (by decide) (by decide)).trans h0_24)))) rfl rfl rfl (Nat.le_of_ble_eq_true rfl) (rok rfl) rfl rfl (fun h62 q62 => ?_)
                  obtain ⟨h61, e61, rfl⟩ := q62
                  refine aw_aload_n (pc' := 6) dX7_compared_5 rfl rfl rfl ?_
                  refine aw_bipush (v := 60) (pc' := 8) dX7_compared_6 rfl (by decide) ?_
                  have cc63 : AM mX7_takes 0 [.ref 32, .int 60] h61 0 0 (PI fun r h' => (0 = r ∧ h61 = h')) := by
                    refine am_of (lv := [some (.ref 32), some (.int 60)]) rfl (Nat.le_of_ble_eq_true rfl) rfl ?_
                    refine aw_aload_n (pc' := 1) dX7_takes_0 rfl rfl rfl ?_
                    refine aw_get clsAll (pc' := 4) dX7_takes_1 rfl fl_RX7_34 (gss e61 (gss e20 (gss e19 (gss e18 ((hx.2 24 (by decide) (by decide)).trans h0_24))))) rfl ?_
                    refine aw_zge (tgt := 31) (pc' := 7) dX7_takes_4 (by decide) rfl (fun _ => ?_) (fun c => absurd c (by decide))
                    refine aw_iconst (v := 0) (pc' := 32) dX7_takes_31 rfl (by decide) ?_
                    exact aw_ri dX7_takes_32 rfl (by decide) (Nat.le_of_ble_eq_true rfl) (Nat.le_of_ble_eq_true rfl) ⟨rfl, rfl⟩
                  refine aw_callVi (M' := mX7_takes) (nc' := 0) (ns' := 0) (pc' := 11) dX7_compared_8 rfl ml_RX7_40 kX7_takes cc63 (gss e61 (gss e20 (gss e19 (gss e18 ((hx.2 24 (by decide) (by decide)).trans h0_24))))) rfl rfl rfl (Nat.le_of_ble_eq_true rfl) (rok rfl) rfl rfl (fun r64 h64 q64 => ?_)
                  obtain ⟨rfl, rfl⟩ := q64
                  refine aw_if_eq (tgt := 19) (pc' := 14) dX7_compared_11 (by decide) rfl (fun _ => ?_) (fun c => absurd (by decide) c)
                  refine aw_aload_n (pc' := 20) dX7_compared_19 rfl rfl rfl ?_
                  refine aw_bipush (v := 61) (pc' := 22) dX7_compared_20 rfl (by decide) ?_
                  have cc65 : AM mX7_takes 0 [.ref 32, .int 61] h61 0 0 (PI fun r h' => (0 = r ∧ h61 = h')) := by
                    refine am_of (lv := [some (.ref 32), some (.int 61)]) rfl (Nat.le_of_ble_eq_true rfl) rfl ?_
                    refine aw_aload_n (pc' := 1) dX7_takes_0 rfl rfl rfl ?_
                    refine aw_get clsAll (pc' := 4) dX7_takes_1 rfl fl_RX7_34 (gss e61 (gss e20 (gss e19 (gss e18 ((hx.2 24 (by decide) (by decide)).trans h0_24))))) rfl ?_
                    refine aw_zge (tgt := 31) (pc' := 7) dX7_takes_4 (by decide) rfl (fun _ => ?_) (fun c => absurd c (by decide))
                    refine aw_iconst (v := 0) (pc' := 32) dX7_takes_31 rfl (by decide) ?_
                    exact aw_ri dX7_takes_32 rfl (by decide) (Nat.le_of_ble_eq_true rfl) (Nat.le_of_ble_eq_true rfl) ⟨rfl, rfl⟩
                  refine aw_callVi (M' := mX7_takes) (nc' := 0) (ns' := 0) (pc' := 25) dX7_compared_22 rfl ml_RX7_40 kX7_takes cc65 (gss e61 (gss e20 (gss e19 (gss e18 ((hx.2 24 (by decide) (by decide)).trans h0_24))))) rfl rfl rfl (Nat.le_of_ble_eq_true rfl) (rok rfl) rfl rfl (fun r66 h66 q66 => ?_)
                  obtain ⟨rfl, rfl⟩ := q66
                  refine aw_if_eq (tgt := 33) (pc' := 28) dX7_compared_25 (by decide) rfl (fun _ => ?_) (fun c => absurd (by decide) c)
                  refine aw_aload_n (pc' := 34) dX7_compared_33 rfl rfl rfl ?_
                  refine aw_bipush (v := 62) (pc' := 36) dX7_compared_34 rfl (by decide) ?_
                  have cc67 : AM mX7_takes 0 [.ref 32, .int 62] h61 0 0 (PI fun r h' => (0 = r ∧ h61 = h')) := by
                    refine am_of (lv := [some (.ref 32), some (.int 62)]) rfl (Nat.le_of_ble_eq_true rfl) rfl ?_
                    refine aw_aload_n (pc' := 1) dX7_takes_0 rfl rfl rfl ?_
                    refine aw_get clsAll (pc' := 4) dX7_takes_1 rfl fl_RX7_34 (gss e61 (gss e20 (gss e19 (gss e18 ((hx.2 24 (by decide) (by decide)).trans h0_24))))) rfl ?_
                    refine aw_zge (tgt := 31) (pc' := 7) dX7_takes_4 (by decide) rfl (fun _ => ?_) (fun c => absurd c (by decide))
                    refine aw_iconst (v := 0) (pc' := 32) dX7_takes_31 rfl (by decide) ?_
                    exact aw_ri dX7_takes_32 rfl (by decide) (Nat.le_of_ble_eq_true rfl) (Nat.le_of_ble_eq_true rfl) ⟨rfl, rfl⟩
                  refine aw_callVi (M' := mX7_takes) (nc' := 0) (ns' := 0) (pc' := 39) dX7_compared_36 rfl ml_RX7_40 kX7_takes cc67 (gss e61 (gss e20 (gss e19 (gss e18 ((hx.2 24 (by decide) (by decide)).trans h0_24))))) rfl rfl rfl (Nat.le_of_ble_eq_true rfl) (rok rfl) rfl rfl (fun r68 h68 q68 => ?_)
                  obtain ⟨rfl, rfl⟩ := q68
                  refine aw_if_eq (tgt := 47) (pc' := 42) dX7_compared_39 (by decide) rfl (fun _ => ?_) (fun c => absurd (by decide) c)
                  refine aw_iconst (v := 0) (pc' := 48) dX7_compared_47 rfl (by decide) ?_
                  refine aw_istore_n (lv' := [_, _, _]) (pc' := 49) dX7_compared_48 rfl (Nat.le_of_ble_eq_true rfl) rfl ?_
                  refine aw_iload_n (pc' := 50) dX7_compared_49 rfl rfl ?_
                  refine aw_if_eq (tgt := 63) (pc' := 53) dX7_compared_50 (by decide) rfl (fun _ => ?_) (fun c => absurd (by decide) c)
                  exact aw_rv dX7_compared_63 rfl (Nat.le_of_ble_eq_true rfl) (Nat.le_of_ble_eq_true rfl) ⟨h61, e61, rfl⟩
                refine aw_callVv (M' := mX7_compared) (nc' := 0) (ns' := 0) (pc' := 5) dX7_both_2 rfl ml_RX7_56 kX7_compared cc24 (gss e20 (gss e19 (gss e18 ((hx.2 24 (by decide) (by decide)).trans h0_24)))) rfl rfl rfl (Nat.le_of_ble_eq_true rfl) (rok rfl) rfl rfl (fun h70 q70 => ?_)
                obtain ⟨h69, e69, rfl⟩ := q70
                refine aw_iconst (v := 0) (pc' := 6) dX7_both_5 rfl (by decide) ?_
                refine aw_istore_n (lv' := [_, _, _]) (pc' := 7) dX7_both_6 rfl (Nat.le_of_ble_eq_true rfl) rfl ?_
                refine aw_iload_n (pc' := 8) dX7_both_7 rfl rfl ?_
                refine aw_sipush (v := 160) (pc' := 11) dX7_both_8 rfl (by decide) ?_
                refine aw_cge (tgt := 40) (pc' := 14) dX7_both_11 (by decide) rfl (fun c => absurd (by decide) c) (fun _ => ?_)
                refine aw_aload_n (pc' := 15) dX7_both_14 rfl rfl rfl ?_
                refine aw_bipush (v := 38) (pc' := 17) dX7_both_15 rfl (by decide) ?_
                have cc71 : AM mX7_takes 0 [.ref 32, .int 38] h69 0 0 (PI fun r h' => (0 = r ∧ h69 = h')) := by
                  refine am_of (lv := [some (.ref 32), some (.int 38)]) rfl (Nat.le_of_ble_eq_true rfl) rfl ?_
                  refine aw_aload_n (pc' := 1) dX7_takes_0 rfl rfl rfl ?_
                  refine aw_get clsAll (pc' := 4) dX7_takes_1 rfl fl_RX7_34 (gss e69 (gss e20 (gss e19 (gss e18 ((hx.2 24 (by decide) (by decide)).trans h0_24))))) rfl ?_
                  refine aw_zge (tgt := 31) (pc' := 7) dX7_takes_4 (by decide) rfl (fun _ => ?_) (fun c => absurd c (by decide))
                  refine aw_iconst (v := 0) (pc' := 32) dX7_takes_31 rfl (by decide) ?_
                  exact aw_ri dX7_takes_32 rfl (by decide) (Nat.le_of_ble_eq_true rfl) (Nat.le_of_ble_eq_true rfl) ⟨rfl, rfl⟩
                refine aw_callVi (M' := mX7_takes) (nc' := 0) (ns' := 0) (pc' := 20) dX7_both_17 rfl ml_RX7_40 kX7_takes cc71 (gss e69 (gss e20 (gss e19 (gss e18 ((hx.2 24 (by decide) (by decide)).trans h0_24))))) rfl rfl rfl (Nat.le_of_ble_eq_true rfl) (rok rfl) rfl rfl (fun r72 h72 q72 => ?_)
                obtain ⟨rfl, rfl⟩ := q72
                refine aw_if_eq (tgt := 40) (pc' := 23) dX7_both_20 (by decide) rfl (fun _ => ?_) (fun c => absurd (by decide) c)
                exact aw_rv dX7_both_40 rfl (Nat.le_of_ble_eq_true rfl) (Nat.le_of_ble_eq_true rfl) ⟨h69, e69, rfl⟩
              refine aw_callVv (M' := mX7_both) (nc' := 0) (ns' := 0) (pc' := 5) dX7_either_2 rfl ml_RX7_53 kX7_both cc23 (gss e20 (gss e19 (gss e18 ((hx.2 24 (by decide) (by decide)).trans h0_24)))) rfl rfl rfl (Nat.le_of_ble_eq_true rfl) (rok rfl) rfl rfl (fun h74 q74 => ?_)
              obtain ⟨h73, e73, rfl⟩ := q74
              refine aw_iconst (v := 0) (pc' := 6) dX7_either_5 rfl (by decide) ?_
              refine aw_istore_n (lv' := [_, _, _]) (pc' := 7) dX7_either_6 rfl (Nat.le_of_ble_eq_true rfl) rfl ?_
              refine aw_iload_n (pc' := 8) dX7_either_7 rfl rfl ?_
              refine aw_sipush (v := 160) (pc' := 11) dX7_either_8 rfl (by decide) ?_
              refine aw_cge (tgt := 40) (pc' := 14) dX7_either_11 (by decide) rfl (fun c => absurd (by decide) c) (fun _ => ?_)
              refine aw_aload_n (pc' := 15) dX7_either_14 rfl rfl rfl ?_
              refine aw_bipush (v := 124) (pc' := 17) dX7_either_15 rfl (by decide) ?_
              have cc75 : AM mX7_takes 0 [.ref 32, .int 124] h73 0 0 (PI fun r h' => (0 = r ∧ h73 = h')) := by
                refine am_of (lv := [some (.ref 32), some (.int 124)]) rfl (Nat.le_of_ble_eq_true rfl) rfl ?_
                refine aw_aload_n (pc' := 1) dX7_takes_0 rfl rfl rfl ?_
                refine aw_get clsAll (pc' := 4) dX7_takes_1 rfl fl_RX7_34 (gss e73 (gss e20 (gss e19 (gss e18 ((hx.2 24 (by decide) (by decide)).trans h0_24))))) rfl ?_
                refine aw_zge (tgt := 31) (pc' := 7) dX7_takes_4 (by decide) rfl (fun _ => ?_) (fun c => absurd c (by decide))
                refine aw_iconst (v := 0) (pc' := 32) dX7_takes_31 rfl (by decide) ?_
                exact aw_ri dX7_takes_32 rfl (by decide) (Nat.le_of_ble_eq_true rfl) (Nat.le_of_ble_eq_true rfl) ⟨rfl, rfl⟩
              refine aw_callVi (M' := mX7_takes) (nc' := 0) (ns' := 0) (pc' := 20) dX7_either_17 rfl ml_RX7_40 kX7_takes cc75 (gss e73 (gss e20 (gss e19 (gss e18 ((hx.2 24 (by decide) (by decide)).trans h0_24))))) rfl rfl rfl (Nat.le_of_ble_eq_true rfl) (rok rfl) rfl rfl (fun r76 h76 q76 => ?_)
              obtain ⟨rfl, rfl⟩ := q76
              refine aw_if_eq (tgt := 40) (pc' := 23) dX7_either_20 (by decide) rfl (fun _ => ?_) (fun c => absurd (by decide) c)
              exact aw_rv dX7_either_40 rfl (Nat.le_of_ble_eq_true rfl) (Nat.le_of_ble_eq_true rfl) ⟨h73, e73, rfl⟩
            refine aw_callVv (M' := mX7_either) (nc' := 0) (ns' := 0) (pc' := 5) dX7_line_2 rfl ml_RX7_44 kX7_either cc22 (gss e20 (gss e19 (gss e18 ((hx.2 24 (by decide) (by decide)).trans h0_24)))) rfl rfl rfl (Nat.le_of_ble_eq_true rfl) (rok rfl) rfl rfl (fun h78 q78 => ?_)
            obtain ⟨h77, e77, rfl⟩ := q78
            refine aw_aload_n (pc' := 6) dX7_line_5 rfl rfl rfl ?_
            refine aw_bipush (v := 63) (pc' := 8) dX7_line_6 rfl (by decide) ?_
            have cc79 : AM mX7_takes 0 [.ref 32, .int 63] h77 0 0 (PI fun r h' => (0 = r ∧ h77 = h')) := by
              refine am_of (lv := [some (.ref 32), some (.int 63)]) rfl (Nat.le_of_ble_eq_true rfl) rfl ?_
              refine aw_aload_n (pc' := 1) dX7_takes_0 rfl rfl rfl ?_
              refine aw_get clsAll (pc' := 4) dX7_takes_1 rfl fl_RX7_34 (gss e77 (gss e20 (gss e19 (gss e18 ((hx.2 24 (by decide) (by decide)).trans h0_24))))) rfl ?_
              refine aw_zge (tgt := 31) (pc' := 7) dX7_takes_4 (by decide) rfl (fun _ => ?_) (fun c => absurd c (by decide))
              refine aw_iconst (v := 0) (pc' := 32) dX7_takes_31 rfl (by decide) ?_
              exact aw_ri dX7_takes_32 rfl (by decide) (Nat.le_of_ble_eq_true rfl) (Nat.le_of_ble_eq_true rfl) ⟨rfl, rfl⟩
            refine aw_callVi (M' := mX7_takes) (nc' := 0) (ns' := 0) (pc' := 11) dX7_line_8 rfl ml_RX7_40 kX7_takes cc79 (gss e77 (gss e20 (gss e19 (gss e18 ((hx.2 24 (by decide) (by decide)).trans h0_24))))) rfl rfl rfl (Nat.le_of_ble_eq_true rfl) (rok rfl) rfl rfl (fun r80 h80 q80 => ?_)
            obtain ⟨rfl, rfl⟩ := q80
            refine aw_if_eq (tgt := 25) (pc' := 14) dX7_line_11 (by decide) rfl (fun _ => ?_) (fun c => absurd (by decide) c)
            refine aw_aload_n (pc' := 26) dX7_line_25 rfl rfl rfl ?_
            refine aw_bipush (v := (-24)) (pc' := 28) dX7_line_26 rfl (by decide) ?_
            have cc81 : AM mX7_emit 0 [.ref 32, .int (-24)] h77 0 0 (PV fun h' => (h77 = h')) := by
              refine am_of (lv := [some (.ref 32), some (.int (-24))]) rfl (Nat.le_of_ble_eq_true rfl) rfl ?_
              refine aw_aload_n (pc' := 1) dX7_emit_0 rfl rfl rfl ?_
              refine aw_get clsAll (pc' := 4) dX7_emit_1 rfl fl_RX7_34 (gss e77 (gss e20 (gss e19 (gss e18 ((hx.2 24 (by decide) (by decide)).trans h0_24))))) rfl ?_
              refine aw_zge (tgt := 39) (pc' := 7) dX7_emit_4 (by decide) rfl (fun _ => ?_) (fun c => absurd c (by decide))
              exact aw_rv dX7_emit_39 rfl (Nat.le_of_ble_eq_true rfl) (Nat.le_of_ble_eq_true rfl) rfl
            refine aw_callVv (M' := mX7_emit) (nc' := 0) (ns' := 0) (pc' := 31) dX7_line_28 rfl ml_RX7_50 kX7_emit cc81 (gss e77 (gss e20 (gss e19 (gss e18 ((hx.2 24 (by decide) (by decide)).trans h0_24))))) rfl rfl rfl (Nat.le_of_ble_eq_true rfl) (rok rfl) rfl rfl (fun h82 q82 => ?_)
            obtain rfl := q82
            exact aw_rv dX7_line_31 rfl (Nat.le_of_ble_eq_true rfl) (Nat.le_of_ble_eq_true rfl) ⟨h77, e77, rfl⟩
          refine aw_callVv (M' := mX7_line) (nc' := 0) (ns' := 0) (pc' := 19) dX7_compiled_16 rfl ml_RX7_37 kX7_line cc21 (gss e20 (gss e19 (gss e18 ((hx.2 24 (by decide) (by decide)).trans h0_24)))) rfl rfl rfl (Nat.le_of_ble_eq_true rfl) (rok rfl) rfl rfl (fun h84 q84 => ?_)
          obtain ⟨h83, e83, rfl⟩ := q84
          refine aw_iconst (v := 0) (pc' := 20) dX7_compiled_19 rfl (by decide) ?_
          refine aw_istore_n (lv' := [_, _]) (pc' := 21) dX7_compiled_20 rfl (Nat.le_of_ble_eq_true rfl) rfl ?_
          refine aw_iload_n (pc' := 22) dX7_compiled_21 rfl rfl ?_
          refine aw_sipush (v := 160) (pc' := 25) dX7_compiled_22 rfl (by decide) ?_
          refine aw_cge (tgt := 47) (pc' := 28) dX7_compiled_25 (by decide) rfl (fun c => absurd (by decide) c) (fun _ => ?_)
          refine aw_aload_n (pc' := 29) dX7_compiled_28 rfl rfl rfl ?_
          refine aw_bipush (v := 59) (pc' := 31) dX7_compiled_29 rfl (by decide) ?_
          have cc85 : AM mX7_takes 0 [.ref 32, .int 59] h83 0 0 (PI fun r h' => (0 = r ∧ h83 = h')) := by
            refine am_of (lv := [some (.ref 32), some (.int 59)]) rfl (Nat.le_of_ble_eq_true rfl) rfl ?_
            refine aw_aload_n (pc' := 1) dX7_takes_0 rfl rfl rfl ?_
            refine aw_get clsAll (pc' := 4) dX7_takes_1 rfl fl_RX7_34 (gss e83 (gss e20 (gss e19 (gss e18 ((hx.2 24 (by decide) (by decide)).trans h0_24))))) rfl ?_
            refine aw_zge (tgt := 31) (pc' := 7) dX7_takes_4 (by decide) rfl (fun _ => ?_) (fun c => absurd c (by decide))
            refine aw_iconst (v := 0) (pc' := 32) dX7_takes_31 rfl (by decide) ?_
            exact aw_ri dX7_takes_32 rfl (by decide) (Nat.le_of_ble_eq_true rfl) (Nat.le_of_ble_eq_true rfl) ⟨rfl, rfl⟩
          refine aw_callVi (M' := mX7_takes) (nc' := 0) (ns' := 0) (pc' := 34) dX7_compiled_31 rfl ml_RX7_40 kX7_takes cc85 (gss e83 (gss e20 (gss e19 (gss e18 ((hx.2 24 (by decide) (by decide)).trans h0_24))))) rfl rfl rfl (Nat.le_of_ble_eq_true rfl) (rok rfl) rfl rfl (fun r86 h86 q86 => ?_)
          obtain ⟨rfl, rfl⟩ := q86
          refine aw_if_eq (tgt := 47) (pc' := 37) dX7_compiled_34 (by decide) rfl (fun _ => ?_) (fun c => absurd (by decide) c)
          refine aw_aload_n (pc' := 48) dX7_compiled_47 rfl rfl rfl ?_
          refine aw_get clsAll (pc' := 51) dX7_compiled_48 rfl fl_RX7_34 (gss e83 (gss e20 (gss e19 (gss e18 ((hx.2 24 (by decide) (by decide)).trans h0_24))))) rfl ?_
          refine aw_zge (tgt := 73) (pc' := 54) dX7_compiled_51 (by decide) rfl (fun _ => ?_) (fun c => absurd c (by decide))
          refine aw_aload_n (pc' := 74) dX7_compiled_73 rfl rfl rfl ?_
          refine aw_get clsAll (pc' := 77) dX7_compiled_74 rfl fl_RX7_34 (gss e83 (gss e20 (gss e19 (gss e18 ((hx.2 24 (by decide) (by decide)).trans h0_24))))) rfl ?_
          exact aw_ri dX7_compiled_77 rfl rfl (Nat.le_of_ble_eq_true rfl) (Nat.le_of_ble_eq_true rfl) ⟨rfl, h18, e18, h19, e19, h20, e20, h83, e83, rfl⟩
        refine aw_callVi (M' := mX7_compiled) (nc' := 0) (ns' := 0) (pc' := 43) dX11_text_40 rfl ml_RX11_270 kX7_compiled cc17 ((hx.2 24 (by decide) (by decide)).trans h0_24) rfl rfl rfl (Nat.le_of_ble_eq_true rfl) (rok rfl) rfl rfl (fun r91 h91 q91 => ?_)
        obtain ⟨rfl, h87, e87, h88, e88, h89, e89, h90, e90, rfl⟩ := q91
        refine aw_istore_n (lv' := [_, _, _, _]) (pc' := 44) dX11_text_43 rfl (Nat.le_of_ble_eq_true rfl) rfl ?_
        refine aw_aload_n (pc' := 45) dX11_text_44 rfl rfl rfl ?_
        refine aw_get clsAll (pc' := 48) dX11_text_45 rfl fl_RX11_48 (gsn e90 (by decide) (gsn e89 (by decide) (gsn e88 (by decide) (gsn e87 (by decide) hx.1)))) rfl ?_
        refine aw_iconst (v := 0) (pc' := 49) dX11_text_48 rfl (by decide) ?_
        refine aw_putG clsAll (pc' := 52) dX11_text_49 rfl fl_RX11_273 (gss e90 (gss e89 (gss e88 (gss e87 ((hx.2 24 (by decide) (by decide)).trans h0_24))))) (Nat.le_of_ble_eq_true rfl) rfl (fun h92 e92 => ?_)
        refine aw_iload_n (pc' := 53) dX11_text_52 rfl rfl ?_
        refine aw_zlt (tgt := 61) (pc' := 56) dX11_text_53 (by decide) rfl (fun c => absurd c (by decide)) (fun _ => ?_)
        refine aw_bipush (v := (-100)) (pc' := 58) dX11_text_56 rfl (by decide) ?_
        refine aw_iload_n (pc' := 59) dX11_text_58 rfl rfl ?_
        refine aw_isub (pc' := 60) dX11_text_59 rfl ?_
        refine aw_topi (v := (-100)) (by decide) ?_
        exact aw_ri dX11_text_60 rfl rfl (Nat.le_of_ble_eq_true rfl) (Nat.le_of_ble_eq_true rfl) ⟨(by first | (simp [sp_text, cnd, okC, okS, okW, okN, inR, n3_, n31_, c11, c12, c13, c15, c16]; done) | (simp_all [sp_text, cnd, okC, okS, okW, okN, inR, n3_, n31_]; done) | skip), (sm_set e92 (by decide) (sm_set e90 (by decide) (sm_set e89 (by decide) (sm_set e88 (by decide) (sm_set e87 (by decide) sm_rf)))))⟩
      · refine aw_iconst (v := (-1)) (pc' := 23) dX11_text_22 rfl (by decide) ?_
        exact aw_ri dX11_text_23 rfl rfl (Nat.le_of_ble_eq_true rfl) (Nat.le_of_ble_eq_true rfl) ⟨(by first | (simp [sp_text, cnd, okC, okS, okW, okN, inR, n3_, n31_, c11, c12, c13, c15, c16]; done) | (simp_all [sp_text, cnd, okC, okS, okW, okN, inR, n3_, n31_]; done) | skip), sm_rf⟩
set_option maxRecDepth 4000 in
theorem x_inForce (h : List aE) (hx : Fx 0 h) (hlen : h.length = 126) (w : Int32) (t : Int32) (k : Int32) : AM mX11_inForce 1 [.ref 8, .int w, .int t, .int k] h 0 0 (PI fun r h' => r = sp_inForce w t k ∧ Sm h h') := by
  refine am_of (lv := [some (.ref 8), some (.int w), some (.int t), some (.int k)]) rfl (Nat.le_of_ble_eq_true rfl) rfl ?_
  refine aw_iload_n (pc' := 1) dX11_inForce_0 rfl rfl ?_
  have cc1 : AM mX11_isOrder 0 [.int w] h 0 0 (PI fun r h' => (w < 0 ∧ 0 = r ∧ h = h') ∨ (¬ (w < 0) ∧ 1 < (w / 10) ∧ 0 = r ∧ h = h') ∨ (¬ (w < 0) ∧ ¬ (1 < (w / 10)) ∧ 2 < (w % 10) ∧ 0 = r ∧ h = h') ∨ (¬ (w < 0) ∧ ¬ (1 < (w / 10)) ∧ ¬ (2 < (w % 10)) ∧ 1 = r ∧ h = h')) := by
    refine am_of (lv := [some (.int w)]) rfl (Nat.le_of_ble_eq_true rfl) rfl ?_
    refine aw_iload_n (pc' := 1) dX11_isOrder_0 rfl rfl ?_
    refine aw_zlt (tgt := 24) (pc' := 4) dX11_isOrder_1 (by decide) rfl (fun c2 => ?_) (fun c2 => ?_)
    · refine aw_iconst (v := 0) (pc' := 25) dX11_isOrder_24 rfl (by decide) ?_
      exact aw_ri dX11_isOrder_25 rfl (by decide) (Nat.le_of_ble_eq_true rfl) (Nat.le_of_ble_eq_true rfl) (Or.inl ⟨c2, rfl, rfl⟩)
    · refine aw_iload_n (pc' := 5) dX11_isOrder_4 rfl rfl ?_
      refine aw_bipush (v := 10) (pc' := 7) dX11_isOrder_5 rfl (by decide) ?_
      refine aw_idiv (pc' := 8) dX11_isOrder_7 rfl (by decide) ?_
      refine aw_iconst (v := 1) (pc' := 9) dX11_isOrder_8 rfl (by decide) ?_
      refine aw_cgt (tgt := 24) (pc' := 12) dX11_isOrder_9 (by decide) rfl (fun c3 => ?_) (fun c3 => ?_)
      · refine aw_iconst (v := 0) (pc' := 25) dX11_isOrder_24 rfl (by decide) ?_
        exact aw_ri dX11_isOrder_25 rfl (by decide) (Nat.le_of_ble_eq_true rfl) (Nat.le_of_ble_eq_true rfl) (Or.inr (Or.inl ⟨c2, c3, rfl, rfl⟩))
      · refine aw_iload_n (pc' := 13) dX11_isOrder_12 rfl rfl ?_
        refine aw_bipush (v := 10) (pc' := 15) dX11_isOrder_13 rfl (by decide) ?_
        refine aw_irem (pc' := 16) dX11_isOrder_15 rfl (by decide) ?_
        refine aw_iconst (v := 2) (pc' := 17) dX11_isOrder_16 rfl (by decide) ?_
        refine aw_cgt (tgt := 24) (pc' := 20) dX11_isOrder_17 (by decide) rfl (fun c4 => ?_) (fun c4 => ?_)
        · refine aw_iconst (v := 0) (pc' := 25) dX11_isOrder_24 rfl (by decide) ?_
          exact aw_ri dX11_isOrder_25 rfl (by decide) (Nat.le_of_ble_eq_true rfl) (Nat.le_of_ble_eq_true rfl) (Or.inr (Or.inr (Or.inl ⟨c2, c3, c4, rfl, rfl⟩)))
        · refine aw_iconst (v := 1) (pc' := 21) dX11_isOrder_20 rfl (by decide) ?_
          refine aw_goto (tgt := 25) dX11_isOrder_21 (by decide) ?_
          exact aw_ri dX11_isOrder_25 rfl (by decide) (Nat.le_of_ble_eq_true rfl) (Nat.le_of_ble_eq_true rfl) (Or.inr (Or.inr (Or.inr ⟨c2, c3, c4, rfl, rfl⟩)))
  refine aw_callSi (M' := mX11_isOrder) (nc' := 0) (ns' := 0) (pc' := 4) dX11_inForce_1 rfl ml_RX11_264 kX11_isOrder cc1 rfl rfl (Nat.le_of_ble_eq_true rfl) (rok rfl) rfl rfl (fun r14 h14 q14 => ?_)
  rcases q14 with ⟨c5, rfl, rfl⟩ | ⟨c6, c7, rfl, rfl⟩ | ⟨c8, c9, c10, rfl, rfl⟩ | ⟨c11, c12, c13, rfl, rfl⟩
  · refine aw_if_eq (tgt := 21) (pc' := 7) dX11_inForce_4 (by decide) rfl (fun _ => ?_) (fun c => absurd (by decide) c)
    refine aw_iconst (v := (-1)) (pc' := 22) dX11_inForce_21 rfl (by decide) ?_
    exact aw_ri dX11_inForce_22 rfl rfl (Nat.le_of_ble_eq_true rfl) (Nat.le_of_ble_eq_true rfl) ⟨(by first | (simp [sp_inForce, cnd, okC, okS, okW, okN, inR, n3_, n31_, c5]; done) | (simp_all [sp_inForce, cnd, okC, okS, okW, okN, inR, n3_, n31_]; done) | skip), sm_rf⟩
  · refine aw_if_eq (tgt := 21) (pc' := 7) dX11_inForce_4 (by decide) rfl (fun _ => ?_) (fun c => absurd (by decide) c)
    refine aw_iconst (v := (-1)) (pc' := 22) dX11_inForce_21 rfl (by decide) ?_
    exact aw_ri dX11_inForce_22 rfl rfl (Nat.le_of_ble_eq_true rfl) (Nat.le_of_ble_eq_true rfl) ⟨(by first | (simp [sp_inForce, cnd, okC, okS, okW, okN, inR, n3_, n31_, c6, c7]; done) | (simp_all [sp_inForce, cnd, okC, okS, okW, okN, inR, n3_, n31_]; done) | skip), sm_rf⟩
  · refine aw_if_eq (tgt := 21) (pc' := 7) dX11_inForce_4 (by decide) rfl (fun _ => ?_) (fun c => absurd (by decide) c)
    refine aw_iconst (v := (-1)) (pc' := 22) dX11_inForce_21 rfl (by decide) ?_
    exact aw_ri dX11_inForce_22 rfl rfl (Nat.le_of_ble_eq_true rfl) (Nat.le_of_ble_eq_true rfl) ⟨(by first | (simp [sp_inForce, cnd, okC, okS, okW, okN, inR, n3_, n31_, c8, c9, c10]; done) | (simp_all [sp_inForce, cnd, okC, okS, okW, okN, inR, n3_, n31_]; done) | skip), sm_rf⟩
  · refine aw_if_eq (tgt := 21) (pc' := 7) dX11_inForce_4 (by decide) rfl (fun c => absurd c (by decide)) (fun _ => ?_)
    refine aw_iload_n (pc' := 8) dX11_inForce_7 rfl rfl ?_
    have cc15 : AM mX11_isHour 0 [.int t] h 0 0 (PI fun r h' => (t < 0 ∧ 0 = r ∧ h = h') ∨ (¬ (t < 0) ∧ 1699 < t ∧ 0 = r ∧ h = h') ∨ (¬ (t < 0) ∧ ¬ (1699 < t) ∧ 1 = r ∧ h = h')) := by
      refine am_of (lv := [some (.int t)]) rfl (Nat.le_of_ble_eq_true rfl) rfl ?_
      refine aw_iload_n (pc' := 1) dX11_isHour_0 rfl rfl ?_
      refine aw_zlt (tgt := 15) (pc' := 4) dX11_isHour_1 (by decide) rfl (fun c16 => ?_) (fun c16 => ?_)
      · refine aw_iconst (v := 0) (pc' := 16) dX11_isHour_15 rfl (by decide) ?_
        exact aw_ri dX11_isHour_16 rfl (by decide) (Nat.le_of_ble_eq_true rfl) (Nat.le_of_ble_eq_true rfl) (Or.inl ⟨c16, rfl, rfl⟩)
      · refine aw_iload_n (pc' := 5) dX11_isHour_4 rfl rfl ?_
        refine aw_sipush (v := 1699) (pc' := 8) dX11_isHour_5 rfl (by decide) ?_
        refine aw_cgt (tgt := 15) (pc' := 11) dX11_isHour_8 (by decide) rfl (fun c17 => ?_) (fun c17 => ?_)
        · refine aw_iconst (v := 0) (pc' := 16) dX11_isHour_15 rfl (by decide) ?_
          exact aw_ri dX11_isHour_16 rfl (by decide) (Nat.le_of_ble_eq_true rfl) (Nat.le_of_ble_eq_true rfl) (Or.inr (Or.inl ⟨c16, c17, rfl, rfl⟩))
        · refine aw_iconst (v := 1) (pc' := 12) dX11_isHour_11 rfl (by decide) ?_
          refine aw_goto (tgt := 16) dX11_isHour_12 (by decide) ?_
          exact aw_ri dX11_isHour_16 rfl (by decide) (Nat.le_of_ble_eq_true rfl) (Nat.le_of_ble_eq_true rfl) (Or.inr (Or.inr ⟨c16, c17, rfl, rfl⟩))
    refine aw_callSi (M' := mX11_isHour) (nc' := 0) (ns' := 0) (pc' := 11) dX11_inForce_8 rfl ml_RX11_282 kX11_isHour cc15 rfl rfl (Nat.le_of_ble_eq_true rfl) (rok rfl) rfl rfl (fun r23 h23 q23 => ?_)
    rcases q23 with ⟨c18, rfl, rfl⟩ | ⟨c19, c20, rfl, rfl⟩ | ⟨c21, c22, rfl, rfl⟩
    · refine aw_if_eq (tgt := 21) (pc' := 14) dX11_inForce_11 (by decide) rfl (fun _ => ?_) (fun c => absurd (by decide) c)
      refine aw_iconst (v := (-1)) (pc' := 22) dX11_inForce_21 rfl (by decide) ?_
      exact aw_ri dX11_inForce_22 rfl rfl (Nat.le_of_ble_eq_true rfl) (Nat.le_of_ble_eq_true rfl) ⟨(by first | (simp [sp_inForce, cnd, okC, okS, okW, okN, inR, n3_, n31_, c11, c12, c13, c18]; done) | (simp_all [sp_inForce, cnd, okC, okS, okW, okN, inR, n3_, n31_]; done) | skip), sm_rf⟩
    · refine aw_if_eq (tgt := 21) (pc' := 14) dX11_inForce_11 (by decide) rfl (fun _ => ?_) (fun c => absurd (by decide) c)
      refine aw_iconst (v := (-1)) (pc' := 22) dX11_inForce_21 rfl (by decide) ?_
      exact aw_ri dX11_inForce_22 rfl rfl (Nat.le_of_ble_eq_true rfl) (Nat.le_of_ble_eq_true rfl) ⟨(by first | (simp [sp_inForce, cnd, okC, okS, okW, okN, inR, n3_, n31_, c11, c12, c13, c19, c20]; done) | (simp_all [sp_inForce, cnd, okC, okS, okW, okN, inR, n3_, n31_]; done) | skip), sm_rf⟩
    · refine aw_if_eq (tgt := 21) (pc' := 14) dX11_inForce_11 (by decide) rfl (fun c => absurd c (by decide)) (fun _ => ?_)
      refine aw_iload_n (pc' := 15) dX11_inForce_14 rfl rfl ?_
      have cc24 : AM mX11_isHour 0 [.int k] h 0 0 (PI fun r h' => (k < 0 ∧ 0 = r ∧ h = h') ∨ (¬ (k < 0) ∧ 1699 < k ∧ 0 = r ∧ h = h') ∨ (¬ (k < 0) ∧ ¬ (1699 < k) ∧ 1 = r ∧ h = h')) := by
        refine am_of (lv := [some (.int k)]) rfl (Nat.le_of_ble_eq_true rfl) rfl ?_
        refine aw_iload_n (pc' := 1) dX11_isHour_0 rfl rfl ?_
        refine aw_zlt (tgt := 15) (pc' := 4) dX11_isHour_1 (by decide) rfl (fun c25 => ?_) (fun c25 => ?_)
        · refine aw_iconst (v := 0) (pc' := 16) dX11_isHour_15 rfl (by decide) ?_
          exact aw_ri dX11_isHour_16 rfl (by decide) (Nat.le_of_ble_eq_true rfl) (Nat.le_of_ble_eq_true rfl) (Or.inl ⟨c25, rfl, rfl⟩)
        · refine aw_iload_n (pc' := 5) dX11_isHour_4 rfl rfl ?_
          refine aw_sipush (v := 1699) (pc' := 8) dX11_isHour_5 rfl (by decide) ?_
          refine aw_cgt (tgt := 15) (pc' := 11) dX11_isHour_8 (by decide) rfl (fun c26 => ?_) (fun c26 => ?_)
          · refine aw_iconst (v := 0) (pc' := 16) dX11_isHour_15 rfl (by decide) ?_
            exact aw_ri dX11_isHour_16 rfl (by decide) (Nat.le_of_ble_eq_true rfl) (Nat.le_of_ble_eq_true rfl) (Or.inr (Or.inl ⟨c25, c26, rfl, rfl⟩))
          · refine aw_iconst (v := 1) (pc' := 12) dX11_isHour_11 rfl (by decide) ?_
            refine aw_goto (tgt := 16) dX11_isHour_12 (by decide) ?_
            exact aw_ri dX11_isHour_16 rfl (by decide) (Nat.le_of_ble_eq_true rfl) (Nat.le_of_ble_eq_true rfl) (Or.inr (Or.inr ⟨c25, c26, rfl, rfl⟩))
      refine aw_callSi (M' := mX11_isHour) (nc' := 0) (ns' := 0) (pc' := 18) dX11_inForce_15 rfl ml_RX11_282 kX11_isHour cc24 rfl rfl (Nat.le_of_ble_eq_true rfl) (rok rfl) rfl rfl (fun r32 h32 q32 => ?_)
      rcases q32 with ⟨c27, rfl, rfl⟩ | ⟨c28, c29, rfl, rfl⟩ | ⟨c30, c31, rfl, rfl⟩
      · refine aw_if_ne (tgt := 23) (pc' := 21) dX11_inForce_18 (by decide) rfl (fun c => absurd (by decide) c) (fun _ => ?_)
        refine aw_iconst (v := (-1)) (pc' := 22) dX11_inForce_21 rfl (by decide) ?_
        exact aw_ri dX11_inForce_22 rfl rfl (Nat.le_of_ble_eq_true rfl) (Nat.le_of_ble_eq_true rfl) ⟨(by first | (simp [sp_inForce, cnd, okC, okS, okW, okN, inR, n3_, n31_, c11, c12, c13, c21, c22, c27]; done) | (simp_all [sp_inForce, cnd, okC, okS, okW, okN, inR, n3_, n31_]; done) | skip), sm_rf⟩
      · refine aw_if_ne (tgt := 23) (pc' := 21) dX11_inForce_18 (by decide) rfl (fun c => absurd (by decide) c) (fun _ => ?_)
        refine aw_iconst (v := (-1)) (pc' := 22) dX11_inForce_21 rfl (by decide) ?_
        exact aw_ri dX11_inForce_22 rfl rfl (Nat.le_of_ble_eq_true rfl) (Nat.le_of_ble_eq_true rfl) ⟨(by first | (simp [sp_inForce, cnd, okC, okS, okW, okN, inR, n3_, n31_, c11, c12, c13, c21, c22, c28, c29]; done) | (simp_all [sp_inForce, cnd, okC, okS, okW, okN, inR, n3_, n31_]; done) | skip), sm_rf⟩
      · refine aw_if_ne (tgt := 23) (pc' := 21) dX11_inForce_18 (by decide) rfl (fun _ => ?_) (fun c => absurd c (by decide))
        refine aw_aload_n (pc' := 24) dX11_inForce_23 rfl rfl rfl ?_
        refine aw_iload_n (pc' := 25) dX11_inForce_24 rfl rfl ?_
        refine aw_bipush (v := 10) (pc' := 27) dX11_inForce_25 rfl (by decide) ?_
        refine aw_idiv (pc' := 28) dX11_inForce_27 rfl (by decide) ?_
        refine aw_iload_n (pc' := 29) dX11_inForce_28 rfl rfl ?_
        refine aw_bipush (v := 10) (pc' := 31) dX11_inForce_29 rfl (by decide) ?_
        refine aw_irem (pc' := 32) dX11_inForce_31 rfl (by decide) ?_
        refine aw_iload_n (pc' := 33) dX11_inForce_32 rfl rfl ?_
        refine aw_iload_n (pc' := 34) dX11_inForce_33 rfl rfl ?_
        have cc33 : AM mX11_latestText 0 [.ref 8, .int (w / 10), .int (w % 10), .int t, .int k] h 0 0 (PI fun r h' => ((-2) = r ∧ h = h')) := by
          refine am_of (lv := [some (.ref 8), some (.int (w / 10)), some (.int (w % 10)), some (.int t), some (.int k), none, none, none]) rfl (Nat.le_of_ble_eq_true rfl) rfl ?_
          refine aw_aload_n (pc' := 1) dX11_latestText_0 rfl rfl rfl ?_
          refine aw_get clsAll (pc' := 4) dX11_latestText_1 rfl fl_RX11_98 hx.1 rfl ?_
          refine aw_iload (pc' := 6) dX11_latestText_4 rfl rfl ?_
          refine aw_cgt (tgt := 13) (pc' := 9) dX11_latestText_6 (by decide) rfl (fun _ => ?_) (fun c => absurd (bu1 c31 (by decide)) c)
          refine aw_iconst (v := 0) (pc' := 14) dX11_latestText_13 rfl (by decide) ?_
          refine aw_istore (lv' := [_, _, _, _, _, _, _, _]) (pc' := 16) dX11_latestText_14 rfl (Nat.le_of_ble_eq_true rfl) rfl ?_
          refine aw_aload_n (pc' := 17) dX11_latestText_16 rfl rfl rfl ?_
          refine aw_get clsAll (pc' := 20) dX11_latestText_17 rfl fl_RX11_267 hx.1 rfl ?_
          refine aw_iconst (v := 1) (pc' := 21) dX11_latestText_20 rfl (by decide) ?_
          refine aw_isub (pc' := 22) dX11_latestText_21 rfl ?_
          refine aw_topi (v := (-1)) (by decide) ?_
          refine aw_istore (lv' := [_, _, _, _, _, _, _, _]) (pc' := 24) dX11_latestText_22 rfl (Nat.le_of_ble_eq_true rfl) rfl ?_
          refine aw_iload (pc' := 26) dX11_latestText_24 rfl rfl ?_
          refine aw_zlt (tgt := 97) (pc' := 29) dX11_latestText_26 (by decide) rfl (fun _ => ?_) (fun c => absurd (by decide) c)
          refine aw_bipush (v := (-2)) (pc' := 99) dX11_latestText_97 rfl (by decide) ?_
          exact aw_ri dX11_latestText_99 rfl rfl (Nat.le_of_ble_eq_true rfl) (Nat.le_of_ble_eq_true rfl) ⟨rfl, rfl⟩
        refine aw_callVi (M' := mX11_latestText) (nc' := 0) (ns' := 0) (pc' := 37) dX11_inForce_34 rfl ml_RX11_285 kX11_latestText cc33 hx.1 rfl rfl rfl (Nat.le_of_ble_eq_true rfl) (rok rfl) rfl rfl (fun r34 h34 q34 => ?_)
        obtain ⟨rfl, rfl⟩ := q34
        exact aw_ri dX11_inForce_37 rfl rfl (Nat.le_of_ble_eq_true rfl) (Nat.le_of_ble_eq_true rfl) ⟨(by first | (simp [sp_inForce, cnd, okC, okS, okW, okN, inR, n3_, n31_, c11, c12, c13, c21, c22, c30, c31]; done) | (simp_all [sp_inForce, cnd, okC, okS, okW, okN, inR, n3_, n31_]; done) | skip), sm_rf⟩
set_option maxRecDepth 4000 in
theorem x_says (h : List aE) (hx : Fx 0 h) (hlen : h.length = 126) (w : Int32) (m : Int32) : AM mX11_says 1 [.ref 8, .int w, .int m] h 0 0 (PI fun r h' => r = sp_says w m ∧ Sm h h') := by
  refine am_of (lv := [some (.ref 8), some (.int w), some (.int m), none]) rfl (Nat.le_of_ble_eq_true rfl) rfl ?_
  refine aw_iload_n (pc' := 1) dX11_says_0 rfl rfl ?_
  have cc1 : AM mX11_isOrder 0 [.int w] h 0 0 (PI fun r h' => (w < 0 ∧ 0 = r ∧ h = h') ∨ (¬ (w < 0) ∧ 1 < (w / 10) ∧ 0 = r ∧ h = h') ∨ (¬ (w < 0) ∧ ¬ (1 < (w / 10)) ∧ 2 < (w % 10) ∧ 0 = r ∧ h = h') ∨ (¬ (w < 0) ∧ ¬ (1 < (w / 10)) ∧ ¬ (2 < (w % 10)) ∧ 1 = r ∧ h = h')) := by
    refine am_of (lv := [some (.int w)]) rfl (Nat.le_of_ble_eq_true rfl) rfl ?_
    refine aw_iload_n (pc' := 1) dX11_isOrder_0 rfl rfl ?_
    refine aw_zlt (tgt := 24) (pc' := 4) dX11_isOrder_1 (by decide) rfl (fun c2 => ?_) (fun c2 => ?_)
    · refine aw_iconst (v := 0) (pc' := 25) dX11_isOrder_24 rfl (by decide) ?_
      exact aw_ri dX11_isOrder_25 rfl (by decide) (Nat.le_of_ble_eq_true rfl) (Nat.le_of_ble_eq_true rfl) (Or.inl ⟨c2, rfl, rfl⟩)
    · refine aw_iload_n (pc' := 5) dX11_isOrder_4 rfl rfl ?_
      refine aw_bipush (v := 10) (pc' := 7) dX11_isOrder_5 rfl (by decide) ?_
      refine aw_idiv (pc' := 8) dX11_isOrder_7 rfl (by decide) ?_
      refine aw_iconst (v := 1) (pc' := 9) dX11_isOrder_8 rfl (by decide) ?_
      refine aw_cgt (tgt := 24) (pc' := 12) dX11_isOrder_9 (by decide) rfl (fun c3 => ?_) (fun c3 => ?_)
      · refine aw_iconst (v := 0) (pc' := 25) dX11_isOrder_24 rfl (by decide) ?_
        exact aw_ri dX11_isOrder_25 rfl (by decide) (Nat.le_of_ble_eq_true rfl) (Nat.le_of_ble_eq_true rfl) (Or.inr (Or.inl ⟨c2, c3, rfl, rfl⟩))
      · refine aw_iload_n (pc' := 13) dX11_isOrder_12 rfl rfl ?_
        refine aw_bipush (v := 10) (pc' := 15) dX11_isOrder_13 rfl (by decide) ?_
        refine aw_irem (pc' := 16) dX11_isOrder_15 rfl (by decide) ?_
        refine aw_iconst (v := 2) (pc' := 17) dX11_isOrder_16 rfl (by decide) ?_
        refine aw_cgt (tgt := 24) (pc' := 20) dX11_isOrder_17 (by decide) rfl (fun c4 => ?_) (fun c4 => ?_)
        · refine aw_iconst (v := 0) (pc' := 25) dX11_isOrder_24 rfl (by decide) ?_
          exact aw_ri dX11_isOrder_25 rfl (by decide) (Nat.le_of_ble_eq_true rfl) (Nat.le_of_ble_eq_true rfl) (Or.inr (Or.inr (Or.inl ⟨c2, c3, c4, rfl, rfl⟩)))
        · refine aw_iconst (v := 1) (pc' := 21) dX11_isOrder_20 rfl (by decide) ?_
          refine aw_goto (tgt := 25) dX11_isOrder_21 (by decide) ?_
          exact aw_ri dX11_isOrder_25 rfl (by decide) (Nat.le_of_ble_eq_true rfl) (Nat.le_of_ble_eq_true rfl) (Or.inr (Or.inr (Or.inr ⟨c2, c3, c4, rfl, rfl⟩)))
  refine aw_callSi (M' := mX11_isOrder) (nc' := 0) (ns' := 0) (pc' := 4) dX11_says_1 rfl ml_RX11_264 kX11_isOrder cc1 rfl rfl (Nat.le_of_ble_eq_true rfl) (rok rfl) rfl rfl (fun r14 h14 q14 => ?_)
  rcases q14 with ⟨c5, rfl, rfl⟩ | ⟨c6, c7, rfl, rfl⟩ | ⟨c8, c9, c10, rfl, rfl⟩ | ⟨c11, c12, c13, rfl, rfl⟩
  · refine aw_if_ne (tgt := 10) (pc' := 7) dX11_says_4 (by decide) rfl (fun c => absurd (by decide) c) (fun _ => ?_)
    refine aw_ldc (pc' := 9) dX11_says_7 rfl ct_RX11_138 ?_
    exact aw_ri dX11_says_9 rfl rfl (Nat.le_of_ble_eq_true rfl) (Nat.le_of_ble_eq_true rfl) ⟨(by first | (simp [sp_says, cnd, okC, okS, okW, okN, inR, n3_, n31_, c5]; done) | (simp_all [sp_says, cnd, okC, okS, okW, okN, inR, n3_, n31_]; done) | skip), sm_rf⟩
  · refine aw_if_ne (tgt := 10) (pc' := 7) dX11_says_4 (by decide) rfl (fun c => absurd (by decide) c) (fun _ => ?_)
    refine aw_ldc (pc' := 9) dX11_says_7 rfl ct_RX11_138 ?_
    exact aw_ri dX11_says_9 rfl rfl (Nat.le_of_ble_eq_true rfl) (Nat.le_of_ble_eq_true rfl) ⟨(by first | (simp [sp_says, cnd, okC, okS, okW, okN, inR, n3_, n31_, c6, c7]; done) | (simp_all [sp_says, cnd, okC, okS, okW, okN, inR, n3_, n31_]; done) | skip), sm_rf⟩
  · refine aw_if_ne (tgt := 10) (pc' := 7) dX11_says_4 (by decide) rfl (fun c => absurd (by decide) c) (fun _ => ?_)
    refine aw_ldc (pc' := 9) dX11_says_7 rfl ct_RX11_138 ?_
    exact aw_ri dX11_says_9 rfl rfl (Nat.le_of_ble_eq_true rfl) (Nat.le_of_ble_eq_true rfl) ⟨(by first | (simp [sp_says, cnd, okC, okS, okW, okN, inR, n3_, n31_, c8, c9, c10]; done) | (simp_all [sp_says, cnd, okC, okS, okW, okN, inR, n3_, n31_]; done) | skip), sm_rf⟩
  · refine aw_if_ne (tgt := 10) (pc' := 7) dX11_says_4 (by decide) rfl (fun _ => ?_) (fun c => absurd c (by decide))
    refine aw_iload_n (pc' := 11) dX11_says_10 rfl rfl ?_
    refine aw_bipush (v := 10) (pc' := 13) dX11_says_11 rfl (by decide) ?_
    refine aw_irem (pc' := 14) dX11_says_13 rfl (by decide) ?_
    refine aw_istore_n (lv' := [_, _, _, _]) (pc' := 15) dX11_says_14 rfl (Nat.le_of_ble_eq_true rfl) rfl ?_
    refine aw_iload_n (pc' := 16) dX11_says_15 rfl rfl ?_
    refine aw_iconst (v := 2) (pc' := 17) dX11_says_16 rfl (by decide) ?_
    refine aw_icmp_ne (tgt := 28) (pc' := 20) dX11_says_17 (by decide) rfl (fun c15 => ?_) (fun c15 => ?_)
    · refine aw_aload_n (pc' := 29) dX11_says_28 rfl rfl rfl ?_
      refine aw_get clsAll (pc' := 32) dX11_says_29 rfl fl_RX11_28 hx.1 rfl ?_
      refine aw_iload_n (pc' := 33) dX11_says_32 rfl rfl ?_
      have cc16 : AM mX0_kindOf 0 [.ref 23, .int m] h 0 0 (PI fun r h' => (m < 0 ∧ (-1) = r ∧ h = h') ∨ (¬ (m < 0) ∧ (-1) = r ∧ h = h')) := by
        refine am_of (lv := [some (.ref 23), some (.int m)]) rfl (Nat.le_of_ble_eq_true rfl) rfl ?_
        refine aw_iload_n (pc' := 1) dX0_kindOf_0 rfl rfl ?_
        refine aw_zlt (tgt := 12) (pc' := 4) dX0_kindOf_1 (by decide) rfl (fun c17 => ?_) (fun c17 => ?_)
        · refine aw_iconst (v := (-1)) (pc' := 13) dX0_kindOf_12 rfl (by decide) ?_
          refine aw_goto (tgt := 22) dX0_kindOf_13 (by decide) ?_
          exact aw_ri dX0_kindOf_22 rfl rfl (Nat.le_of_ble_eq_true rfl) (Nat.le_of_ble_eq_true rfl) (Or.inl ⟨c17, rfl, rfl⟩)
        · refine aw_iload_n (pc' := 5) dX0_kindOf_4 rfl rfl ?_
          refine aw_aload_n (pc' := 6) dX0_kindOf_5 rfl rfl rfl ?_
          refine aw_get clsAll (pc' := 9) dX0_kindOf_6 rfl fl_RX0_32 ((hx.2 15 (by decide) (by decide)).trans h0_15) rfl ?_
          refine aw_clt (tgt := 16) (pc' := 12) dX0_kindOf_9 (by decide) rfl (fun c => absurd c c17) (fun _ => ?_)
          refine aw_iconst (v := (-1)) (pc' := 13) dX0_kindOf_12 rfl (by decide) ?_
          refine aw_goto (tgt := 22) dX0_kindOf_13 (by decide) ?_
          exact aw_ri dX0_kindOf_22 rfl rfl (Nat.le_of_ble_eq_true rfl) (Nat.le_of_ble_eq_true rfl) (Or.inr ⟨c17, rfl, rfl⟩)
      refine aw_callVi (M' := mX0_kindOf) (nc' := 0) (ns' := 0) (pc' := 36) dX11_says_33 rfl ml_RX11_135 kX0_kindOf cc16 ((hx.2 15 (by decide) (by decide)).trans h0_15) rfl rfl rfl (Nat.le_of_ble_eq_true rfl) (rok rfl) rfl rfl (fun r20 h20 q20 => ?_)
      rcases q20 with ⟨c18, rfl, rfl⟩ | ⟨c19, rfl, rfl⟩
      · refine aw_bipush (v := 7) (pc' := 38) dX11_says_36 rfl (by decide) ?_
        refine aw_icmp_eq (tgt := 44) (pc' := 41) dX11_says_38 (by decide) rfl (fun c => absurd c (by decide)) (fun _ => ?_)
        refine aw_ldc (pc' := 43) dX11_says_41 rfl ct_RX11_138 ?_
        exact aw_ri dX11_says_43 rfl rfl (Nat.le_of_ble_eq_true rfl) (Nat.le_of_ble_eq_true rfl) ⟨(by first | (simp [sp_says, cnd, okC, okS, okW, okN, inR, n3_, n31_, c11, c12, c13, c15, c18]; done) | (simp_all [sp_says, cnd, okC, okS, okW, okN, inR, n3_, n31_]; done) | skip), sm_rf⟩
      · refine aw_bipush (v := 7) (pc' := 38) dX11_says_36 rfl (by decide) ?_
        refine aw_icmp_eq (tgt := 44) (pc' := 41) dX11_says_38 (by decide) rfl (fun c => absurd c (by decide)) (fun _ => ?_)
        refine aw_ldc (pc' := 43) dX11_says_41 rfl ct_RX11_138 ?_
        exact aw_ri dX11_says_43 rfl rfl (Nat.le_of_ble_eq_true rfl) (Nat.le_of_ble_eq_true rfl) ⟨(by first | (simp [sp_says, cnd, okC, okS, okW, okN, inR, n3_, n31_, c11, c12, c13, c15, c19]; done) | (simp_all [sp_says, cnd, okC, okS, okW, okN, inR, n3_, n31_]; done) | skip), sm_rf⟩
    · refine aw_iload_n (pc' := 21) dX11_says_20 rfl rfl ?_
      refine aw_iconst (v := (-1)) (pc' := 22) dX11_says_21 rfl (by decide) ?_
      refine aw_icmp_eq (tgt := 44) (pc' := 25) dX11_says_22 (by decide) rfl (fun c21 => ?_) (fun c21 => ?_)
      · refine aw_aload_n (pc' := 45) dX11_says_44 rfl rfl rfl ?_
        refine aw_aload_n (pc' := 46) dX11_says_45 rfl rfl rfl ?_
        refine aw_iload_n (pc' := 47) dX11_says_46 rfl rfl ?_
        refine aw_bipush (v := 10) (pc' := 49) dX11_says_47 rfl (by decide) ?_
        refine aw_idiv (pc' := 50) dX11_says_49 rfl (by decide) ?_
        refine aw_iload_n (pc' := 51) dX11_says_50 rfl rfl ?_
        refine aw_aload_n (pc' := 52) dX11_says_51 rfl rfl rfl ?_
        refine aw_get clsAll (pc' := 55) dX11_says_52 rfl fl_RX11_168 hx.1 rfl ?_
        refine aw_aload_n (pc' := 56) dX11_says_55 rfl rfl rfl ?_
        refine aw_get clsAll (pc' := 59) dX11_says_56 rfl fl_RX11_168 hx.1 rfl ?_
        have cc22 : AM mX11_latestText 0 [.ref 8, .int (w / 10), .int (w % 10), .int 0, .int 0] h 0 0 (PI fun r h' => ((-2) = r ∧ h = h')) := by
          refine am_of (lv := [some (.ref 8), some (.int (w / 10)), some (.int (w % 10)), some (.int 0), some (.int 0), none, none, none]) rfl (Nat.le_of_ble_eq_true rfl) rfl ?_
          refine aw_aload_n (pc' := 1) dX11_latestText_0 rfl rfl rfl ?_
          refine aw_get clsAll (pc' := 4) dX11_latestText_1 rfl fl_RX11_98 hx.1 rfl ?_
          refine aw_iload (pc' := 6) dX11_latestText_4 rfl rfl ?_
          refine aw_cgt (tgt := 13) (pc' := 9) dX11_latestText_6 (by decide) rfl (fun _ => ?_) (fun c => absurd (by decide) c)
          refine aw_iconst (v := 0) (pc' := 14) dX11_latestText_13 rfl (by decide) ?_
          refine aw_istore (lv' := [_, _, _, _, _, _, _, _]) (pc' := 16) dX11_latestText_14 rfl (Nat.le_of_ble_eq_true rfl) rfl ?_
          refine aw_aload_n (pc' := 17) dX11_latestText_16 rfl rfl rfl ?_
          refine aw_get clsAll (pc' := 20) dX11_latestText_17 rfl fl_RX11_267 hx.1 rfl ?_
          refine aw_iconst (v := 1) (pc' := 21) dX11_latestText_20 rfl (by decide) ?_
          refine aw_isub (pc' := 22) dX11_latestText_21 rfl ?_
          refine aw_topi (v := (-1)) (by decide) ?_
          refine aw_istore (lv' := [_, _, _, _, _, _, _, _]) (pc' := 24) dX11_latestText_22 rfl (Nat.le_of_ble_eq_true rfl) rfl ?_
          refine aw_iload (pc' := 26) dX11_latestText_24 rfl rfl ?_
          refine aw_zlt (tgt := 97) (pc' := 29) dX11_latestText_26 (by decide) rfl (fun _ => ?_) (fun c => absurd (by decide) c)
          refine aw_bipush (v := (-2)) (pc' := 99) dX11_latestText_97 rfl (by decide) ?_
          exact aw_ri dX11_latestText_99 rfl rfl (Nat.le_of_ble_eq_true rfl) (Nat.le_of_ble_eq_true rfl) ⟨rfl, rfl⟩
        refine aw_callVi (M' := mX11_latestText) (nc' := 0) (ns' := 0) (pc' := 62) dX11_says_59 rfl ml_RX11_285 kX11_latestText cc22 hx.1 rfl rfl rfl (Nat.le_of_ble_eq_true rfl) (rok rfl) rfl rfl (fun r23 h23 q23 => ?_)
        obtain ⟨rfl, rfl⟩ := q23
        refine aw_iload_n (pc' := 63) dX11_says_62 rfl rfl ?_
        refine aw_iload_n (pc' := 64) dX11_says_63 rfl rfl ?_
        have cc24 : AM mX11_given 0 [.ref 8, .int (-2), .int (w % 10), .int m] h 0 0 (PI fun r h' => (0 = r ∧ h = h')) := by
          refine am_of (lv := [some (.ref 8), some (.int (-2)), some (.int (w % 10)), some (.int m), none, none]) rfl (Nat.le_of_ble_eq_true rfl) rfl ?_
          refine aw_iload_n (pc' := 1) dX11_given_0 rfl rfl ?_
          refine aw_zlt (tgt := 12) (pc' := 4) dX11_given_1 (by decide) rfl (fun _ => ?_) (fun c => absurd (by decide) c)
          refine aw_null (pc' := 13) dX11_given_12 rfl ?_
          refine aw_goto (tgt := 22) dX11_given_13 (by decide) ?_
          refine aw_astore (lv' := [_, _, _, _, _, _]) (pc' := 24) dX11_given_22 rfl (Nat.le_of_ble_eq_true rfl) rfl rfl ?_
          refine aw_aload (pc' := 26) dX11_given_24 rfl rfl rfl ?_
          refine aw_ifnonnull_n (pc' := 29) dX11_given_26 rfl ?_
          refine aw_iload_n (pc' := 30) dX11_given_29 rfl rfl ?_
          refine aw_if_ne (tgt := 37) (pc' := 33) dX11_given_30 (by decide) rfl (fun _ => ?_) (fun c => absurd c (by rw [c15]; decide))
          refine aw_iconst (v := 0) (pc' := 38) dX11_given_37 rfl (by decide) ?_
          exact aw_ri dX11_given_38 rfl rfl (Nat.le_of_ble_eq_true rfl) (Nat.le_of_ble_eq_true rfl) ⟨rfl, rfl⟩
        refine aw_callVi (M' := mX11_given) (nc' := 0) (ns' := 0) (pc' := 67) dX11_says_64 rfl ml_RX11_289 kX11_given cc24 hx.1 rfl rfl rfl (Nat.le_of_ble_eq_true rfl) (rok rfl) rfl rfl (fun r25 h25 q25 => ?_)
        obtain ⟨rfl, rfl⟩ := q25
        exact aw_ri dX11_says_67 rfl rfl (Nat.le_of_ble_eq_true rfl) (Nat.le_of_ble_eq_true rfl) ⟨(by first | (simp [sp_says, cnd, okC, okS, okW, okN, inR, n3_, n31_, c11, c12, c13, c15, c21]; done) | (simp_all [sp_says, cnd, okC, okS, okW, okN, inR, n3_, n31_]; done) | skip), sm_rf⟩
      · refine aw_goto (tgt := 41) dX11_says_25 (by decide) ?_
        refine aw_ldc (pc' := 43) dX11_says_41 rfl ct_RX11_138 ?_
        exact aw_ri dX11_says_43 rfl rfl (Nat.le_of_ble_eq_true rfl) (Nat.le_of_ble_eq_true rfl) ⟨(by first | (simp [sp_says, cnd, okC, okS, okW, okN, inR, n3_, n31_, c11, c12, c13, c15, c21]; done) | (simp_all [sp_says, cnd, okC, okS, okW, okN, inR, n3_, n31_]; done) | skip), sm_rf⟩
set_option maxRecDepth 4000 in
theorem x_spoons (h : List aE) (hx : Fx 0 h) (hlen : h.length = 126) (v : Int32) : AM mX11_spoons 0 [.ref 8, .int v] h 0 0 (PI fun r h' => r = sp_spoons v ∧ Sm h h') := by
  refine am_of (lv := [some (.ref 8), some (.int v), none]) rfl (Nat.le_of_ble_eq_true rfl) rfl ?_
  refine aw_iload_n (pc' := 1) dX11_spoons_0 rfl rfl ?_
  refine aw_zlt (tgt := 11) (pc' := 4) dX11_spoons_1 (by decide) rfl (fun c1 => ?_) (fun c1 => ?_)
  · refine aw_iconst (v := (-1)) (pc' := 12) dX11_spoons_11 rfl (by decide) ?_
    exact aw_ri dX11_spoons_12 rfl rfl (Nat.le_of_ble_eq_true rfl) (Nat.le_of_ble_eq_true rfl) ⟨(by first | (simp [sp_spoons, cnd, okC, okS, okW, okN, inR, n2_, n3_, n5_, n31_, c1]; done) | (simp_all [sp_spoons, cnd, okC, okS, okW, okN, inR, n2_, n3_, n5_, n31_]; done) | skip), sm_rf⟩
  · refine aw_iload_n (pc' := 5) dX11_spoons_4 rfl rfl ?_
    refine aw_sipush (v := 9999) (pc' := 8) dX11_spoons_5 rfl (by decide) ?_
    refine aw_cle (tgt := 13) (pc' := 11) dX11_spoons_8 (by decide) rfl (fun c2 => ?_) (fun c2 => ?_)
    · refine aw_aload_n (pc' := 14) dX11_spoons_13 rfl rfl rfl ?_
      refine aw_get clsAll (pc' := 17) dX11_spoons_14 rfl fl_RX11_76 hx.1 rfl ?_
      refine aw_get clsAll (pc' := 20) dX11_spoons_17 rfl fl_RX11_295 ((hx.2 30 (by decide) (by decide)).trans h0_30) rfl ?_
      refine aw_istore_n (lv' := [_, _, _]) (pc' := 21) dX11_spoons_20 rfl (Nat.le_of_ble_eq_true rfl) rfl ?_
      refine aw_aload_n (pc' := 22) dX11_spoons_21 rfl rfl rfl ?_
      refine aw_get clsAll (pc' := 25) dX11_spoons_22 rfl fl_RX11_76 hx.1 rfl ?_
      refine aw_iload_n (pc' := 26) dX11_spoons_25 rfl rfl ?_
      refine aw_putG clsAll (pc' := 29) dX11_spoons_26 rfl fl_RX11_295 ((hx.2 30 (by decide) (by decide)).trans h0_30) (Nat.le_of_ble_eq_true rfl) rfl (fun h3 e3 => ?_)
      refine aw_iload_n (pc' := 30) dX11_spoons_29 rfl rfl ?_
      exact aw_ri dX11_spoons_30 rfl rfl (Nat.le_of_ble_eq_true rfl) (Nat.le_of_ble_eq_true rfl) ⟨(by first | (simp [sp_spoons, cnd, okC, okS, okW, okN, inR, n2_, n3_, n5_, n31_, c1, c2]; done) | (simp_all [sp_spoons, cnd, okC, okS, okW, okN, inR, n2_, n3_, n5_, n31_]; done) | skip), (sm_set e3 (by decide) sm_rf)⟩
    · refine aw_iconst (v := (-1)) (pc' := 12) dX11_spoons_11 rfl (by decide) ?_
      exact aw_ri dX11_spoons_12 rfl rfl (Nat.le_of_ble_eq_true rfl) (Nat.le_of_ble_eq_true rfl) ⟨(by first | (simp [sp_spoons, cnd, okC, okS, okW, okN, inR, n2_, n3_, n5_, n31_, c1, c2]; done) | (simp_all [sp_spoons, cnd, okC, okS, okW, okN, inR, n2_, n3_, n5_, n31_]; done) | skip), sm_rf⟩
set_option maxRecDepth 4000 in
theorem x_move (h : List aE) (hx : Fx 0 h) (hlen : h.length = 126) (c : Int32) (t : Int32) : AM mX11_move 2 [.ref 8, .int c, .int t] h 0 0 (PI fun r h' => r = sp_move c t ∧ Sm h h') := by
  refine am_of (lv := [some (.ref 8), some (.int c), some (.int t), none]) rfl (Nat.le_of_ble_eq_true rfl) rfl ?_
  refine aw_iload_n (pc' := 1) dX11_move_0 rfl rfl ?_
  have cc1 : AM mX11_placeOf 1 [.int c] h 0 0 (PI fun r h' => (c < 0 ∧ (-1) = r ∧ h = h') ∨ (¬ (c < 0) ∧ ¬ ((c / 100) < 32) ∧ (-1) = r ∧ h = h') ∨ (¬ (c < 0) ∧ (c / 100) < 32 ∧ (c % 100) < 1 ∧ (-1) = r ∧ h = h') ∨ (¬ (c < 0) ∧ (c / 100) < 32 ∧ ¬ ((c % 100) < 1) ∧ 60 < (c % 100) ∧ (-1) = r ∧ h = h') ∨ (¬ (c < 0) ∧ (c / 100) < 32 ∧ ¬ ((c % 100) < 1) ∧ ¬ (60 < (c % 100)) ∧ ((((c / 100) * 60) + (c % 100)) - 1) = r ∧ h = h')) := by
    refine am_of (lv := [some (.int c)]) rfl (Nat.le_of_ble_eq_true rfl) rfl ?_
    refine aw_iload_n (pc' := 1) dX11_placeOf_0 rfl rfl ?_
    refine aw_zlt (tgt := 23) (pc' := 4) dX11_placeOf_1 (by decide) rfl (fun c2 => ?_) (fun c2 => ?_)
    · refine aw_iconst (v := (-1)) (pc' := 24) dX11_placeOf_23 rfl (by decide) ?_
      exact aw_ri dX11_placeOf_24 rfl rfl (Nat.le_of_ble_eq_true rfl) (Nat.le_of_ble_eq_true rfl) (Or.inl ⟨c2, rfl, rfl⟩)
    · refine aw_iload_n (pc' := 5) dX11_placeOf_4 rfl rfl ?_
      refine aw_bipush (v := 100) (pc' := 7) dX11_placeOf_5 rfl (by decide) ?_
      refine aw_idiv (pc' := 8) dX11_placeOf_7 rfl (by decide) ?_
      refine aw_bipush (v := 32) (pc' := 10) dX11_placeOf_8 rfl (by decide) ?_
      refine aw_cge (tgt := 23) (pc' := 13) dX11_placeOf_10 (by decide) rfl (fun c3 => ?_) (fun c3 => ?_)
      · refine aw_iconst (v := (-1)) (pc' := 24) dX11_placeOf_23 rfl (by decide) ?_
        exact aw_ri dX11_placeOf_24 rfl rfl (Nat.le_of_ble_eq_true rfl) (Nat.le_of_ble_eq_true rfl) (Or.inr (Or.inl ⟨c2, c3, rfl, rfl⟩))
      · refine aw_iload_n (pc' := 14) dX11_placeOf_13 rfl rfl ?_
        refine aw_bipush (v := 100) (pc' := 16) dX11_placeOf_14 rfl (by decide) ?_
        refine aw_irem (pc' := 17) dX11_placeOf_16 rfl (by decide) ?_
        have cc4 : AM mX11_isYard 0 [.int (c % 100)] h 0 0 (PI fun r h' => ((c % 100) < 1 ∧ 0 = r ∧ h = h') ∨ (¬ ((c % 100) < 1) ∧ 60 < (c % 100) ∧ 0 = r ∧ h = h') ∨ (¬ ((c % 100) < 1) ∧ ¬ (60 < (c % 100)) ∧ 1 = r ∧ h = h')) := by
          refine am_of (lv := [some (.int (c % 100))]) rfl (Nat.le_of_ble_eq_true rfl) rfl ?_
          refine aw_iload_n (pc' := 1) dX11_isYard_0 rfl rfl ?_
          refine aw_iconst (v := 1) (pc' := 2) dX11_isYard_1 rfl (by decide) ?_
          refine aw_clt (tgt := 15) (pc' := 5) dX11_isYard_2 (by decide) rfl (fun c5 => ?_) (fun c5 => ?_)
          · refine aw_iconst (v := 0) (pc' := 16) dX11_isYard_15 rfl (by decide) ?_
            exact aw_ri dX11_isYard_16 rfl (by decide) (Nat.le_of_ble_eq_true rfl) (Nat.le_of_ble_eq_true rfl) (Or.inl ⟨c5, rfl, rfl⟩)
          · refine aw_iload_n (pc' := 6) dX11_isYard_5 rfl rfl ?_
            refine aw_bipush (v := 60) (pc' := 8) dX11_isYard_6 rfl (by decide) ?_
            refine aw_cgt (tgt := 15) (pc' := 11) dX11_isYard_8 (by decide) rfl (fun c6 => ?_) (fun c6 => ?_)
            · refine aw_iconst (v := 0) (pc' := 16) dX11_isYard_15 rfl (by decide) ?_
              exact aw_ri dX11_isYard_16 rfl (by decide) (Nat.le_of_ble_eq_true rfl) (Nat.le_of_ble_eq_true rfl) (Or.inr (Or.inl ⟨c5, c6, rfl, rfl⟩))
            · refine aw_iconst (v := 1) (pc' := 12) dX11_isYard_11 rfl (by decide) ?_
              refine aw_goto (tgt := 16) dX11_isYard_12 (by decide) ?_
              exact aw_ri dX11_isYard_16 rfl (by decide) (Nat.le_of_ble_eq_true rfl) (Nat.le_of_ble_eq_true rfl) (Or.inr (Or.inr ⟨c5, c6, rfl, rfl⟩))
        refine aw_callSi (M' := mX11_isYard) (nc' := 0) (ns' := 0) (pc' := 20) dX11_placeOf_17 rfl ml_RX11_122 kX11_isYard cc4 rfl rfl (Nat.le_of_ble_eq_true rfl) (rok rfl) rfl rfl (fun r12 h12 q12 => ?_)
        rcases q12 with ⟨c7, rfl, rfl⟩ | ⟨c8, c9, rfl, rfl⟩ | ⟨c10, c11, rfl, rfl⟩
        · refine aw_if_ne (tgt := 25) (pc' := 23) dX11_placeOf_20 (by decide) rfl (fun c => absurd (by decide) c) (fun _ => ?_)
          refine aw_iconst (v := (-1)) (pc' := 24) dX11_placeOf_23 rfl (by decide) ?_
          exact aw_ri dX11_placeOf_24 rfl rfl (Nat.le_of_ble_eq_true rfl) (Nat.le_of_ble_eq_true rfl) (Or.inr (Or.inr (Or.inl ⟨c2, c3, c7, rfl, rfl⟩)))
        · refine aw_if_ne (tgt := 25) (pc' := 23) dX11_placeOf_20 (by decide) rfl (fun c => absurd (by decide) c) (fun _ => ?_)
          refine aw_iconst (v := (-1)) (pc' := 24) dX11_placeOf_23 rfl (by decide) ?_
          exact aw_ri dX11_placeOf_24 rfl rfl (Nat.le_of_ble_eq_true rfl) (Nat.le_of_ble_eq_true rfl) (Or.inr (Or.inr (Or.inr (Or.inl ⟨c2, c3, c8, c9, rfl, rfl⟩))))
        · refine aw_if_ne (tgt := 25) (pc' := 23) dX11_placeOf_20 (by decide) rfl (fun _ => ?_) (fun c => absurd c (by decide))
          refine aw_iload_n (pc' := 26) dX11_placeOf_25 rfl rfl ?_
          refine aw_bipush (v := 100) (pc' := 28) dX11_placeOf_26 rfl (by decide) ?_
          refine aw_idiv (pc' := 29) dX11_placeOf_28 rfl (by decide) ?_
          refine aw_bipush (v := 60) (pc' := 31) dX11_placeOf_29 rfl (by decide) ?_
          refine aw_imul (pc' := 32) dX11_placeOf_31 rfl ?_
          refine aw_iload_n (pc' := 33) dX11_placeOf_32 rfl rfl ?_
          refine aw_bipush (v := 100) (pc' := 35) dX11_placeOf_33 rfl (by decide) ?_
          refine aw_irem (pc' := 36) dX11_placeOf_35 rfl (by decide) ?_
          refine aw_iadd (pc' := 37) dX11_placeOf_36 rfl ?_
          refine aw_iconst (v := 1) (pc' := 38) dX11_placeOf_37 rfl (by decide) ?_
          refine aw_isub (pc' := 39) dX11_placeOf_38 rfl ?_
          exact aw_ri dX11_placeOf_39 rfl rfl (Nat.le_of_ble_eq_true rfl) (Nat.le_of_ble_eq_true rfl) (Or.inr (Or.inr (Or.inr (Or.inr ⟨c2, c3, c10, c11, rfl, rfl⟩))))
  refine aw_callSi (M' := mX11_placeOf) (nc' := 0) (ns' := 0) (pc' := 4) dX11_move_1 rfl ml_RX11_101 kX11_placeOf cc1 rfl rfl (Nat.le_of_ble_eq_true rfl) (rok rfl) rfl rfl (fun r27 h27 q27 => ?_)
  rcases q27 with ⟨c13, rfl, rfl⟩ | ⟨c14, c15, rfl, rfl⟩ | ⟨c16, c17, c18, rfl, rfl⟩ | ⟨c19, c20, c21, c22, rfl, rfl⟩ | ⟨c23, c24, c25, c26, rfl, rfl⟩
  · refine aw_istore_n (lv' := [_, _, _, _]) (pc' := 5) dX11_move_4 rfl (Nat.le_of_ble_eq_true rfl) rfl ?_
    refine aw_iload_n (pc' := 6) dX11_move_5 rfl rfl ?_
    refine aw_zlt (tgt := 24) (pc' := 9) dX11_move_6 (by decide) rfl (fun _ => ?_) (fun c => absurd (by decide) c)
    refine aw_iconst (v := (-1)) (pc' := 25) dX11_move_24 rfl (by decide) ?_
    exact aw_ri dX11_move_25 rfl rfl (Nat.le_of_ble_eq_true rfl) (Nat.le_of_ble_eq_true rfl) ⟨(by first | (simp [sp_move, cnd, okC, okS, okW, okN, inR, n2_, n3_, n5_, n31_, c13]; done) | (simp_all [sp_move, cnd, okC, okS, okW, okN, inR, n2_, n3_, n5_, n31_]; done) | skip), sm_rf⟩
  · refine aw_istore_n (lv' := [_, _, _, _]) (pc' := 5) dX11_move_4 rfl (Nat.le_of_ble_eq_true rfl) rfl ?_
    refine aw_iload_n (pc' := 6) dX11_move_5 rfl rfl ?_
    refine aw_zlt (tgt := 24) (pc' := 9) dX11_move_6 (by decide) rfl (fun _ => ?_) (fun c => absurd (by decide) c)
    refine aw_iconst (v := (-1)) (pc' := 25) dX11_move_24 rfl (by decide) ?_
    exact aw_ri dX11_move_25 rfl rfl (Nat.le_of_ble_eq_true rfl) (Nat.le_of_ble_eq_true rfl) ⟨(by first | (simp [sp_move, cnd, okC, okS, okW, okN, inR, n2_, n3_, n5_, n31_, c14, c15]; done) | (simp_all [sp_move, cnd, okC, okS, okW, okN, inR, n2_, n3_, n5_, n31_]; done) | skip), sm_rf⟩
  · refine aw_istore_n (lv' := [_, _, _, _]) (pc' := 5) dX11_move_4 rfl (Nat.le_of_ble_eq_true rfl) rfl ?_
    refine aw_iload_n (pc' := 6) dX11_move_5 rfl rfl ?_
    refine aw_zlt (tgt := 24) (pc' := 9) dX11_move_6 (by decide) rfl (fun _ => ?_) (fun c => absurd (by decide) c)
    refine aw_iconst (v := (-1)) (pc' := 25) dX11_move_24 rfl (by decide) ?_
    exact aw_ri dX11_move_25 rfl rfl (Nat.le_of_ble_eq_true rfl) (Nat.le_of_ble_eq_true rfl) ⟨(by first | (simp [sp_move, cnd, okC, okS, okW, okN, inR, n2_, n3_, n5_, n31_, c16, c17, c18]; done) | (simp_all [sp_move, cnd, okC, okS, okW, okN, inR, n2_, n3_, n5_, n31_]; done) | skip), sm_rf⟩
  · refine aw_istore_n (lv' := [_, _, _, _]) (pc' := 5) dX11_move_4 rfl (Nat.le_of_ble_eq_true rfl) rfl ?_
    refine aw_iload_n (pc' := 6) dX11_move_5 rfl rfl ?_
    refine aw_zlt (tgt := 24) (pc' := 9) dX11_move_6 (by decide) rfl (fun _ => ?_) (fun c => absurd (by decide) c)
    refine aw_iconst (v := (-1)) (pc' := 25) dX11_move_24 rfl (by decide) ?_
    exact aw_ri dX11_move_25 rfl rfl (Nat.le_of_ble_eq_true rfl) (Nat.le_of_ble_eq_true rfl) ⟨(by first | (simp [sp_move, cnd, okC, okS, okW, okN, inR, n2_, n3_, n5_, n31_, c19, c20, c21, c22]; done) | (simp_all [sp_move, cnd, okC, okS, okW, okN, inR, n2_, n3_, n5_, n31_]; done) | skip), sm_rf⟩
  · refine aw_istore_n (lv' := [_, _, _, _]) (pc' := 5) dX11_move_4 rfl (Nat.le_of_ble_eq_true rfl) rfl ?_
    refine aw_iload_n (pc' := 6) dX11_move_5 rfl rfl ?_
    refine aw_zlt (tgt := 24) (pc' := 9) dX11_move_6 (by decide) rfl (fun c => absurd c (pl_nn c23 c24 c25 c26)) (fun _ => ?_)
    refine aw_iload_n (pc' := 10) dX11_move_9 rfl rfl ?_
    refine aw_aload_n (pc' := 11) dX11_move_10 rfl rfl rfl ?_
    refine aw_get clsAll (pc' := 14) dX11_move_11 rfl fl_RX11_168 hx.1 rfl ?_
    refine aw_cle (tgt := 24) (pc' := 17) dX11_move_14 (by decide) rfl (fun c28 => ?_) (fun c28 => ?_)
    · refine aw_iconst (v := (-1)) (pc' := 25) dX11_move_24 rfl (by decide) ?_
      exact aw_ri dX11_move_25 rfl rfl (Nat.le_of_ble_eq_true rfl) (Nat.le_of_ble_eq_true rfl) ⟨(by first | (simp [sp_move, cnd, okC, okS, okW, okN, inR, n2_, n3_, n5_, n31_, c23, c24, c25, c26, c28]; done) | (simp_all [sp_move, cnd, okC, okS, okW, okN, inR, n2_, n3_, n5_, n31_]; done) | skip), sm_rf⟩
    · refine aw_iload_n (pc' := 18) dX11_move_17 rfl rfl ?_
      refine aw_sipush (v := 1699) (pc' := 21) dX11_move_18 rfl (by decide) ?_
      refine aw_cle (tgt := 26) (pc' := 24) dX11_move_21 (by decide) rfl (fun c29 => ?_) (fun c29 => ?_)
      · refine aw_aload_n (pc' := 27) dX11_move_26 rfl rfl rfl ?_
        refine aw_get clsAll (pc' := 30) dX11_move_27 rfl fl_RX11_10 hx.1 rfl ?_
        refine aw_iload_n (pc' := 31) dX11_move_30 rfl rfl ?_
        refine aw_iload_n (pc' := 32) dX11_move_31 rfl rfl ?_
        have cc30 : AM mX5_moveTold 0 [.ref 9, .int c, .int t] h 0 0 (PI fun r h' => (1 = r ∧ ∃ h34 : List aE, h.set 4 (.inl (0, 60, .inl (upd (fun _ => 0) (0 : Int32).toNatClampNeg c))) = h34 ∧ ∃ h35 : List aE, h34.set 5 (.inl (0, 60, .inl (upd (fun _ => 0) (0 : Int32).toNatClampNeg t))) = h35 ∧ ∃ h36 : List aE, h35.set 1 (.inr (5, [.ref 10, .ref 11, .ref 12, .ref 13, .int 1])) = h36 ∧ h36 = h')) := by
          refine am_of (lv := [some (.ref 9), some (.int c), some (.int t)]) rfl (Nat.le_of_ble_eq_true rfl) rfl ?_
          refine aw_aload_n (pc' := 1) dX5_moveTold_0 rfl rfl rfl ?_
          refine aw_get clsAll (pc' := 4) dX5_moveTold_1 rfl fl_RX5_30 ((hx.2 1 (by decide) (by decide)).trans h0_1) rfl ?_
          refine aw_bipush (v := 60) (pc' := 6) dX5_moveTold_4 rfl (by decide) ?_
          refine aw_clt (tgt := 12) (pc' := 9) dX5_moveTold_6 (by decide) rfl (fun _ => ?_) (fun c => absurd (by decide) c)
          refine aw_aload_n (pc' := 13) dX5_moveTold_12 rfl rfl rfl ?_
          refine aw_get clsAll (pc' := 16) dX5_moveTold_13 rfl fl_RX5_18 ((hx.2 1 (by decide) (by decide)).trans h0_1) rfl ?_
          refine aw_aload_n (pc' := 17) dX5_moveTold_16 rfl rfl rfl ?_
          refine aw_get clsAll (pc' := 20) dX5_moveTold_17 rfl fl_RX5_30 ((hx.2 1 (by decide) (by decide)).trans h0_1) rfl ?_
          refine aw_iload_n (pc' := 21) dX5_moveTold_20 rfl rfl ?_
          refine aw_iastG (pc' := 22) dX5_moveTold_21 rfl ((hx.2 4 (by decide) (by decide)).trans h0_4) (vpc (by decide)) (fun h31 e31 => ?_)
          refine aw_aload_n (pc' := 23) dX5_moveTold_22 rfl rfl rfl ?_
          refine aw_get clsAll (pc' := 26) dX5_moveTold_23 rfl fl_RX5_21 (gsn e31 (by decide) ((hx.2 1 (by decide) (by decide)).trans h0_1)) rfl ?_
          refine aw_aload_n (pc' := 27) dX5_moveTold_26 rfl rfl rfl ?_
          refine aw_get clsAll (pc' := 30) dX5_moveTold_27 rfl fl_RX5_30 (gsn e31 (by decide) ((hx.2 1 (by decide) (by decide)).trans h0_1)) rfl ?_
          refine aw_iload_n (pc' := 31) dX5_moveTold_30 rfl rfl ?_
          refine aw_iastG (pc' := 32) dX5_moveTold_31 rfl (gsn e31 (by decide) ((hx.2 5 (by decide) (by decide)).trans h0_5)) (vpc (by decide)) (fun h32 e32 => ?_)
          refine aw_aload_n (pc' := 33) dX5_moveTold_32 rfl rfl rfl ?_
          refine aw_dup (pc' := 34) dX5_moveTold_33 rfl rfl ?_
          refine aw_get clsAll (pc' := 37) dX5_moveTold_34 rfl fl_RX5_30 (gsn e32 (by decide) (gsn e31 (by decide) ((hx.2 1 (by decide) (by decide)).trans h0_1))) rfl ?_
          refine aw_iconst (v := 1) (pc' := 38) dX5_moveTold_37 rfl (by decide) ?_
          refine aw_iadd (pc' := 39) dX5_moveTold_38 rfl ?_
          refine aw_topi (v := 1) (by decide) ?_
          refine aw_putG clsAll (pc' := 42) dX5_moveTold_39 rfl fl_RX5_30 (gsn e32 (by decide) (gsn e31 (by decide) ((hx.2 1 (by decide) (by decide)).trans h0_1))) (Nat.le_of_ble_eq_true rfl) rfl (fun h33 e33 => ?_)
          refine aw_aload_n (pc' := 43) dX5_moveTold_42 rfl rfl rfl ?_
          refine aw_get clsAll (pc' := 46) dX5_moveTold_43 rfl fl_RX5_30 (gss e33 (gsn e32 (by decide) (gsn e31 (by decide) ((hx.2 1 (by decide) (by decide)).trans h0_1)))) rfl ?_
          exact aw_ri dX5_moveTold_46 rfl rfl (Nat.le_of_ble_eq_true rfl) (Nat.le_of_ble_eq_true rfl) ⟨rfl, h31, e31, h32, e32, h33, e33, rfl⟩
        refine aw_callVi (M' := mX5_moveTold) (nc' := 0) (ns' := 0) (pc' := 35) dX11_move_32 rfl ml_RX11_298 kX5_moveTold cc30 ((hx.2 1 (by decide) (by decide)).trans h0_1) rfl rfl rfl (Nat.le_of_ble_eq_true rfl) (rok rfl) rfl rfl (fun r37 h37 q37 => ?_)
        obtain ⟨rfl, h34, e34, h35, e35, h36, e36, rfl⟩ := q37
        exact aw_ri dX11_move_35 rfl rfl (Nat.le_of_ble_eq_true rfl) (Nat.le_of_ble_eq_true rfl) ⟨(by first | (simp [sp_move, cnd, okC, okS, okW, okN, inR, n2_, n3_, n5_, n31_, c23, c24, c25, c26, c28, c29]; done) | (simp_all [sp_move, cnd, okC, okS, okW, okN, inR, n2_, n3_, n5_, n31_]; done) | skip), (sm_set e36 (by decide) (sm_set e35 (by decide) (sm_set e34 (by decide) sm_rf)))⟩
      · refine aw_iconst (v := (-1)) (pc' := 25) dX11_move_24 rfl (by decide) ?_
        exact aw_ri dX11_move_25 rfl rfl (Nat.le_of_ble_eq_true rfl) (Nat.le_of_ble_eq_true rfl) ⟨(by first | (simp [sp_move, cnd, okC, okS, okW, okN, inR, n2_, n3_, n5_, n31_, c23, c24, c25, c26, c28, c29]; done) | (simp_all [sp_move, cnd, okC, okS, okW, okN, inR, n2_, n3_, n5_, n31_]; done) | skip), sm_rf⟩
set_option maxRecDepth 4000 in
theorem x_last (h : List aE) (hx : Fx 0 h) (hlen : h.length = 126) (s : Int32) (n : Int32) : AM mX11_last 0 [.ref 8, .int s, .int n] h 0 0 (PI fun r h' => r = sp_last s n ∧ Sm h h') := by
  refine am_of (lv := [some (.ref 8), some (.int s), some (.int n)]) rfl (Nat.le_of_ble_eq_true rfl) rfl ?_
  refine aw_iload_n (pc' := 1) dX11_last_0 rfl rfl ?_
  refine aw_zlt (tgt := 21) (pc' := 4) dX11_last_1 (by decide) rfl (fun c1 => ?_) (fun c1 => ?_)
  · refine aw_iconst (v := (-1)) (pc' := 22) dX11_last_21 rfl (by decide) ?_
    exact aw_ri dX11_last_22 rfl rfl (Nat.le_of_ble_eq_true rfl) (Nat.le_of_ble_eq_true rfl) ⟨(by first | (simp [sp_last, cnd, okC, okS, okW, okN, inR, n2_, n3_, n5_, n31_, c1]; done) | (simp_all [sp_last, cnd, okC, okS, okW, okN, inR, n2_, n3_, n5_, n31_]; done) | skip), sm_rf⟩
  · refine aw_iload_n (pc' := 5) dX11_last_4 rfl rfl ?_
    refine aw_sipush (v := 999) (pc' := 8) dX11_last_5 rfl (by decide) ?_
    refine aw_cgt (tgt := 21) (pc' := 11) dX11_last_8 (by decide) rfl (fun c2 => ?_) (fun c2 => ?_)
    · refine aw_iconst (v := (-1)) (pc' := 22) dX11_last_21 rfl (by decide) ?_
      exact aw_ri dX11_last_22 rfl rfl (Nat.le_of_ble_eq_true rfl) (Nat.le_of_ble_eq_true rfl) ⟨(by first | (simp [sp_last, cnd, okC, okS, okW, okN, inR, n2_, n3_, n5_, n31_, c1, c2]; done) | (simp_all [sp_last, cnd, okC, okS, okW, okN, inR, n2_, n3_, n5_, n31_]; done) | skip), sm_rf⟩
    · refine aw_iload_n (pc' := 12) dX11_last_11 rfl rfl ?_
      refine aw_zlt (tgt := 21) (pc' := 15) dX11_last_12 (by decide) rfl (fun c3 => ?_) (fun c3 => ?_)
      · refine aw_iconst (v := (-1)) (pc' := 22) dX11_last_21 rfl (by decide) ?_
        exact aw_ri dX11_last_22 rfl rfl (Nat.le_of_ble_eq_true rfl) (Nat.le_of_ble_eq_true rfl) ⟨(by first | (simp [sp_last, cnd, okC, okS, okW, okN, inR, n2_, n3_, n5_, n31_, c1, c2, c3]; done) | (simp_all [sp_last, cnd, okC, okS, okW, okN, inR, n2_, n3_, n5_, n31_]; done) | skip), sm_rf⟩
      · refine aw_iload_n (pc' := 16) dX11_last_15 rfl rfl ?_
        refine aw_bipush (v := 9) (pc' := 18) dX11_last_16 rfl (by decide) ?_
        refine aw_cle (tgt := 23) (pc' := 21) dX11_last_18 (by decide) rfl (fun c4 => ?_) (fun c4 => ?_)
        · refine aw_aload_n (pc' := 24) dX11_last_23 rfl rfl rfl ?_
          refine aw_get clsAll (pc' := 27) dX11_last_24 rfl fl_RX11_19 hx.1 rfl ?_
          refine aw_get clsAll (pc' := 30) dX11_last_27 rfl fl_RX11_301 ((hx.2 6 (by decide) (by decide)).trans h0_6) rfl ?_
          refine aw_if_ne (tgt := 36) (pc' := 33) dX11_last_30 (by decide) rfl (fun c => absurd (by decide) c) (fun _ => ?_)
          refine aw_bipush (v := (-2)) (pc' := 35) dX11_last_33 rfl (by decide) ?_
          exact aw_ri dX11_last_35 rfl rfl (Nat.le_of_ble_eq_true rfl) (Nat.le_of_ble_eq_true rfl) ⟨(by first | (simp [sp_last, cnd, okC, okS, okW, okN, inR, n2_, n3_, n5_, n31_, c1, c2, c3, c4]; done) | (simp_all [sp_last, cnd, okC, okS, okW, okN, inR, n2_, n3_, n5_, n31_]; done) | skip), sm_rf⟩
        · refine aw_iconst (v := (-1)) (pc' := 22) dX11_last_21 rfl (by decide) ?_
          exact aw_ri dX11_last_22 rfl rfl (Nat.le_of_ble_eq_true rfl) (Nat.le_of_ble_eq_true rfl) ⟨(by first | (simp [sp_last, cnd, okC, okS, okW, okN, inR, n2_, n3_, n5_, n31_, c1, c2, c3, c4]; done) | (simp_all [sp_last, cnd, okC, okS, okW, okN, inR, n2_, n3_, n5_, n31_]; done) | skip), sm_rf⟩
set_option maxRecDepth 4000 in
theorem x_best (h : List aE) (hx : Fx 0 h) (hlen : h.length = 126) (s : Int32) : AM mX11_best 0 [.ref 8, .int s] h 0 0 (PI fun r h' => r = sp_best s ∧ Sm h h') := by
  refine am_of (lv := [some (.ref 8), some (.int s), none, none, none, none]) rfl (Nat.le_of_ble_eq_true rfl) rfl ?_
  refine aw_iload_n (pc' := 1) dX11_best_0 rfl rfl ?_
  refine aw_zlt (tgt := 11) (pc' := 4) dX11_best_1 (by decide) rfl (fun c1 => ?_) (fun c1 => ?_)
  · refine aw_iconst (v := (-1)) (pc' := 12) dX11_best_11 rfl (by decide) ?_
    exact aw_ri dX11_best_12 rfl rfl (Nat.le_of_ble_eq_true rfl) (Nat.le_of_ble_eq_true rfl) ⟨(by first | (simp [sp_best, cnd, okC, okS, okW, okN, inR, n2_, n3_, n5_, n31_, c1]; done) | (simp_all [sp_best, cnd, okC, okS, okW, okN, inR, n2_, n3_, n5_, n31_]; done) | skip), sm_rf⟩
  · refine aw_iload_n (pc' := 5) dX11_best_4 rfl rfl ?_
    refine aw_sipush (v := 999) (pc' := 8) dX11_best_5 rfl (by decide) ?_
    refine aw_cle (tgt := 13) (pc' := 11) dX11_best_8 (by decide) rfl (fun c2 => ?_) (fun c2 => ?_)
    · refine aw_aload_n (pc' := 14) dX11_best_13 rfl rfl rfl ?_
      refine aw_get clsAll (pc' := 17) dX11_best_14 rfl fl_RX11_19 hx.1 rfl ?_
      refine aw_get clsAll (pc' := 20) dX11_best_17 rfl fl_RX11_301 ((hx.2 6 (by decide) (by decide)).trans h0_6) rfl ?_
      refine aw_if_ne (tgt := 26) (pc' := 23) dX11_best_20 (by decide) rfl (fun c => absurd (by decide) c) (fun _ => ?_)
      refine aw_bipush (v := (-2)) (pc' := 25) dX11_best_23 rfl (by decide) ?_
      exact aw_ri dX11_best_25 rfl rfl (Nat.le_of_ble_eq_true rfl) (Nat.le_of_ble_eq_true rfl) ⟨(by first | (simp [sp_best, cnd, okC, okS, okW, okN, inR, n2_, n3_, n5_, n31_, c1, c2]; done) | (simp_all [sp_best, cnd, okC, okS, okW, okN, inR, n2_, n3_, n5_, n31_]; done) | skip), sm_rf⟩
    · refine aw_iconst (v := (-1)) (pc' := 12) dX11_best_11 rfl (by decide) ?_
      exact aw_ri dX11_best_12 rfl rfl (Nat.le_of_ble_eq_true rfl) (Nat.le_of_ble_eq_true rfl) ⟨(by first | (simp [sp_best, cnd, okC, okS, okW, okN, inR, n2_, n3_, n5_, n31_, c1, c2]; done) | (simp_all [sp_best, cnd, okC, okS, okW, okN, inR, n2_, n3_, n5_, n31_]; done) | skip), sm_rf⟩
