set_option maxRecDepth 4000 in
theorem m_spread (h : List aE) (hm : Fm 0 h) (v : Int32) : AM mX12_spread 1 [.ref 67, .int v] h 0 0 (PI fun r h' => r = sp_spread v) := by
  refine am_of (lv := [some (.ref 67), some (.int v), none]) rfl (Nat.le_of_ble_eq_true rfl) rfl ?_
  refine aw_iload_n (pc' := 1) dX12_spread_0 rfl rfl ?_
  refine aw_iconst (v := 0) (pc' := 2) dX12_spread_1 rfl (by decide) ?_
  refine aw_bipush (v := 8) (pc' := 4) dX12_spread_2 rfl (by decide) ?_
  have cc1 : AM mX12_in 0 [.int v, .int 0, .int 8] h 0 0 (PI fun r h' => (v < 0 ∧ 0 = r ∧ h = h') ∨ (¬ (v < 0) ∧ 8 < v ∧ 0 = r ∧ h = h') ∨ (¬ (v < 0) ∧ ¬ (8 < v) ∧ 1 = r ∧ h = h')) := by
    refine am_of (lv := [some (.int v), some (.int 0), some (.int 8)]) rfl (Nat.le_of_ble_eq_true rfl) rfl ?_
    refine aw_iload_n (pc' := 1) dX12_in_0 rfl rfl ?_
    refine aw_iload_n (pc' := 2) dX12_in_1 rfl rfl ?_
    refine aw_clt (tgt := 14) (pc' := 5) dX12_in_2 (by decide) rfl (fun c2 => ?_) (fun c2 => ?_)
    · refine aw_iconst (v := 0) (pc' := 15) dX12_in_14 rfl (by decide) ?_
      exact aw_ri dX12_in_15 rfl (by decide) (Nat.le_of_ble_eq_true rfl) (Nat.le_of_ble_eq_true rfl) (Or.inl ⟨c2, rfl, rfl⟩)
    · refine aw_iload_n (pc' := 6) dX12_in_5 rfl rfl ?_
      refine aw_iload_n (pc' := 7) dX12_in_6 rfl rfl ?_
      refine aw_cgt (tgt := 14) (pc' := 10) dX12_in_7 (by decide) rfl (fun c3 => ?_) (fun c3 => ?_)
      · refine aw_iconst (v := 0) (pc' := 15) dX12_in_14 rfl (by decide) ?_
        exact aw_ri dX12_in_15 rfl (by decide) (Nat.le_of_ble_eq_true rfl) (Nat.le_of_ble_eq_true rfl) (Or.inr (Or.inl ⟨c2, c3, rfl, rfl⟩))
      · refine aw_iconst (v := 1) (pc' := 11) dX12_in_10 rfl (by decide) ?_
        refine aw_goto (tgt := 15) dX12_in_11 (by decide) ?_
        exact aw_ri dX12_in_15 rfl (by decide) (Nat.le_of_ble_eq_true rfl) (Nat.le_of_ble_eq_true rfl) (Or.inr (Or.inr ⟨c2, c3, rfl, rfl⟩))
  refine aw_callSi (M' := mX12_in) (nc' := 0) (ns' := 0) (pc' := 7) dX12_spread_4 rfl ml_RX12_230 kX12_in cc1 rfl rfl (Nat.le_of_ble_eq_true rfl) (rok rfl) rfl rfl (fun r9 h9 q9 => ?_)
  rcases q9 with ⟨c4, rfl, rfl⟩ | ⟨c5, c6, rfl, rfl⟩ | ⟨c7, c8, rfl, rfl⟩
  · refine aw_if_ne (tgt := 12) (pc' := 10) dX12_spread_7 (by decide) rfl (fun c => absurd (by decide) c) (fun _ => ?_)
    refine aw_iconst (v := (-1)) (pc' := 11) dX12_spread_10 rfl (by decide) ?_
    exact aw_ri dX12_spread_11 rfl rfl (Nat.le_of_ble_eq_true rfl) (Nat.le_of_ble_eq_true rfl) (by first | (simp [sp_spread, cnd, okC, okS, okW_iff, okN_iff, inR, c4]; done) | (simp_all [sp_spread, cnd, okC, okS, okW_iff, okN_iff, inR]; done) | skip)
  · refine aw_if_ne (tgt := 12) (pc' := 10) dX12_spread_7 (by decide) rfl (fun c => absurd (by decide) c) (fun _ => ?_)
    refine aw_iconst (v := (-1)) (pc' := 11) dX12_spread_10 rfl (by decide) ?_
    exact aw_ri dX12_spread_11 rfl rfl (Nat.le_of_ble_eq_true rfl) (Nat.le_of_ble_eq_true rfl) (by first | (simp [sp_spread, cnd, okC, okS, okW_iff, okN_iff, inR, c5, c6]; done) | (simp_all [sp_spread, cnd, okC, okS, okW_iff, okN_iff, inR]; done) | skip)
  · refine aw_if_ne (tgt := 12) (pc' := 10) dX12_spread_7 (by decide) rfl (fun _ => ?_) (fun c => absurd c (by decide))
    refine aw_aload_n (pc' := 13) dX12_spread_12 rfl rfl rfl ?_
    refine aw_get clsAll (pc' := 16) dX12_spread_13 rfl fl_RX12_78 hm.1 rfl ?_
    refine aw_istore_n (lv' := [_, _, _]) (pc' := 17) dX12_spread_16 rfl (Nat.le_of_ble_eq_true rfl) rfl ?_
    refine aw_aload_n (pc' := 18) dX12_spread_17 rfl rfl rfl ?_
    refine aw_iload_n (pc' := 19) dX12_spread_18 rfl rfl ?_
    refine aw_putG clsAll (pc' := 22) dX12_spread_19 rfl fl_RX12_78 hm.1 (Nat.le_of_ble_eq_true rfl) rfl (fun h10 e10 => ?_)
    refine aw_iload_n (pc' := 23) dX12_spread_22 rfl rfl ?_
    exact aw_ri dX12_spread_23 rfl rfl (Nat.le_of_ble_eq_true rfl) (Nat.le_of_ble_eq_true rfl) (by first | (simp [sp_spread, cnd, okC, okS, okW_iff, okN_iff, inR, c7, c8]; done) | (simp_all [sp_spread, cnd, okC, okS, okW_iff, okN_iff, inR]; done) | skip)
set_option maxRecDepth 4000 in
theorem m_canBe (h : List aE) (hm : Fm 0 h) (b : Int32) (y : Int32) (w : Int32) : AM mX12_canBe 3 [.ref 67, .int b, .int y, .int w] h 0 0 (PI fun r h' => r = sp_canBe b y w) := by
  refine am_of (lv := [some (.ref 67), some (.int b), some (.int y), some (.int w)]) rfl (Nat.le_of_ble_eq_true rfl) rfl ?_
  refine aw_aload_n (pc' := 1) dX12_canBe_0 rfl rfl rfl ?_
  refine aw_iload_n (pc' := 2) dX12_canBe_1 rfl rfl ?_
  have cc1 : AM mX12_isHole 2 [.ref 67, .int b] h 0 0 (PI fun r h' => (b < 0 ∧ 0 = r ∧ h = h') ∨ (¬ (b < 0) ∧ 0 = r ∧ h = h')) := by
    refine am_of (lv := [some (.ref 67), some (.int b)]) rfl (Nat.le_of_ble_eq_true rfl) rfl ?_
    refine aw_aload_n (pc' := 1) dX12_isHole_0 rfl rfl rfl ?_
    refine aw_iload_n (pc' := 2) dX12_isHole_1 rfl rfl ?_
    have cc2 : AM mX12_isBody 1 [.ref 67, .int b] h 0 0 (PI fun r h' => (b < 0 ∧ 0 = r ∧ h = h') ∨ (¬ (b < 0) ∧ 0 = r ∧ h = h')) := by
      refine am_of (lv := [some (.ref 67), some (.int b)]) rfl (Nat.le_of_ble_eq_true rfl) rfl ?_
      refine aw_iload_n (pc' := 1) dX12_isBody_0 rfl rfl ?_
      refine aw_iconst (v := 0) (pc' := 2) dX12_isBody_1 rfl (by decide) ?_
      refine aw_aload_n (pc' := 3) dX12_isBody_2 rfl rfl rfl ?_
      refine aw_get clsAll (pc' := 6) dX12_isBody_3 rfl fl_RX12_242 hm.1 rfl ?_
      refine aw_iconst (v := 1) (pc' := 7) dX12_isBody_6 rfl (by decide) ?_
      refine aw_isub (pc' := 8) dX12_isBody_7 rfl ?_
      refine aw_topi (v := (-1)) (by decide) ?_
      have cc3 : AM mX12_in 0 [.int b, .int 0, .int (-1)] h 0 0 (PI fun r h' => (b < 0 ∧ 0 = r ∧ h = h') ∨ (¬ (b < 0) ∧ 0 = r ∧ h = h')) := by
        refine am_of (lv := [some (.int b), some (.int 0), some (.int (-1))]) rfl (Nat.le_of_ble_eq_true rfl) rfl ?_
        refine aw_iload_n (pc' := 1) dX12_in_0 rfl rfl ?_
        refine aw_iload_n (pc' := 2) dX12_in_1 rfl rfl ?_
        refine aw_clt (tgt := 14) (pc' := 5) dX12_in_2 (by decide) rfl (fun c4 => ?_) (fun c4 => ?_)
        · refine aw_iconst (v := 0) (pc' := 15) dX12_in_14 rfl (by decide) ?_
          exact aw_ri dX12_in_15 rfl (by decide) (Nat.le_of_ble_eq_true rfl) (Nat.le_of_ble_eq_true rfl) (Or.inl ⟨c4, rfl, rfl⟩)
        · refine aw_iload_n (pc' := 6) dX12_in_5 rfl rfl ?_
          refine aw_iload_n (pc' := 7) dX12_in_6 rfl rfl ?_
          refine aw_cgt (tgt := 14) (pc' := 10) dX12_in_7 (by decide) rfl (fun _ => ?_) (fun c => absurd (bt1 c4 (by decide)) c)
          refine aw_iconst (v := 0) (pc' := 15) dX12_in_14 rfl (by decide) ?_
          exact aw_ri dX12_in_15 rfl (by decide) (Nat.le_of_ble_eq_true rfl) (Nat.le_of_ble_eq_true rfl) (Or.inr ⟨c4, rfl, rfl⟩)
      refine aw_callSi (M' := mX12_in) (nc' := 0) (ns' := 0) (pc' := 11) dX12_isBody_8 rfl ml_RX12_230 kX12_in cc3 rfl rfl (Nat.le_of_ble_eq_true rfl) (rok rfl) rfl rfl (fun r7 h7 q7 => ?_)
      rcases q7 with ⟨c5, rfl, rfl⟩ | ⟨c6, rfl, rfl⟩
      · exact aw_ri dX12_isBody_11 rfl (by decide) (Nat.le_of_ble_eq_true rfl) (Nat.le_of_ble_eq_true rfl) (Or.inl ⟨c5, rfl, rfl⟩)
      · exact aw_ri dX12_isBody_11 rfl (by decide) (Nat.le_of_ble_eq_true rfl) (Nat.le_of_ble_eq_true rfl) (Or.inr ⟨c6, rfl, rfl⟩)
    refine aw_callVi (M' := mX12_isBody) (nc' := 0) (ns' := 0) (pc' := 5) dX12_isHole_2 rfl ml_RX12_245 kX12_isBody cc2 hm.1 rfl rfl rfl (Nat.le_of_ble_eq_true rfl) (rok rfl) rfl rfl (fun r10 h10 q10 => ?_)
    rcases q10 with ⟨c8, rfl, rfl⟩ | ⟨c9, rfl, rfl⟩
    · refine aw_if_eq (tgt := 25) (pc' := 8) dX12_isHole_5 (by decide) rfl (fun _ => ?_) (fun c => absurd (by decide) c)
      refine aw_iconst (v := 0) (pc' := 26) dX12_isHole_25 rfl (by decide) ?_
      exact aw_ri dX12_isHole_26 rfl (by decide) (Nat.le_of_ble_eq_true rfl) (Nat.le_of_ble_eq_true rfl) (Or.inl ⟨c8, rfl, rfl⟩)
    · refine aw_if_eq (tgt := 25) (pc' := 8) dX12_isHole_5 (by decide) rfl (fun _ => ?_) (fun c => absurd (by decide) c)
      refine aw_iconst (v := 0) (pc' := 26) dX12_isHole_25 rfl (by decide) ?_
      exact aw_ri dX12_isHole_26 rfl (by decide) (Nat.le_of_ble_eq_true rfl) (Nat.le_of_ble_eq_true rfl) (Or.inr ⟨c9, rfl, rfl⟩)
  refine aw_callVi (M' := mX12_isHole) (nc' := 0) (ns' := 0) (pc' := 5) dX12_canBe_2 rfl ml_RX12_268 kX12_isHole cc1 hm.1 rfl rfl rfl (Nat.le_of_ble_eq_true rfl) (rok rfl) rfl rfl (fun r13 h13 q13 => ?_)
  rcases q13 with ⟨c11, rfl, rfl⟩ | ⟨c12, rfl, rfl⟩
  · refine aw_if_eq (tgt := 50) (pc' := 8) dX12_canBe_5 (by decide) rfl (fun _ => ?_) (fun c => absurd (by decide) c)
    refine aw_iconst (v := (-1)) (pc' := 51) dX12_canBe_50 rfl (by decide) ?_
    exact aw_ri dX12_canBe_51 rfl rfl (Nat.le_of_ble_eq_true rfl) (Nat.le_of_ble_eq_true rfl) (by first | (simp [sp_canBe, cnd, okC, okS, okW_iff, okN_iff, inR, c11]; done) | (simp_all [sp_canBe, cnd, okC, okS, okW_iff, okN_iff, inR]; done) | skip)
  · refine aw_if_eq (tgt := 50) (pc' := 8) dX12_canBe_5 (by decide) rfl (fun _ => ?_) (fun c => absurd (by decide) c)
    refine aw_iconst (v := (-1)) (pc' := 51) dX12_canBe_50 rfl (by decide) ?_
    exact aw_ri dX12_canBe_51 rfl rfl (Nat.le_of_ble_eq_true rfl) (Nat.le_of_ble_eq_true rfl) (by first | (simp [sp_canBe, cnd, okC, okS, okW_iff, okN_iff, inR, c12]; done) | (simp_all [sp_canBe, cnd, okC, okS, okW_iff, okN_iff, inR]; done) | skip)
set_option maxRecDepth 4000 in
theorem m_map (h : List aE) (hm : Fm 0 h) (s : Int32) (y : Int32) : AM mX12_map 1 [.ref 67, .int s, .int y] h 0 0 (PI fun r h' => r = sp_map s y) := by
  refine am_of (lv := [some (.ref 67), some (.int s), some (.int y)]) rfl (Nat.le_of_ble_eq_true rfl) rfl ?_
  refine aw_iload_n (pc' := 1) dX12_map_0 rfl rfl ?_
  have cc1 : AM mX12_isSpan 0 [.int s] h 0 0 (PI fun r h' => (s < 0 ∧ 0 = r ∧ h = h') ∨ (¬ (s < 0) ∧ (s % 100) < (s / 100) ∧ 0 = r ∧ h = h') ∨ (¬ (s < 0) ∧ ¬ ((s % 100) < (s / 100)) ∧ ¬ ((s % 100) < 32) ∧ 0 = r ∧ h = h') ∨ (¬ (s < 0) ∧ ¬ ((s % 100) < (s / 100)) ∧ (s % 100) < 32 ∧ 1 = r ∧ h = h')) := by
    refine am_of (lv := [some (.int s)]) rfl (Nat.le_of_ble_eq_true rfl) rfl ?_
    refine aw_iload_n (pc' := 1) dX12_isSpan_0 rfl rfl ?_
    refine aw_zlt (tgt := 28) (pc' := 4) dX12_isSpan_1 (by decide) rfl (fun c2 => ?_) (fun c2 => ?_)
    · refine aw_iconst (v := 0) (pc' := 29) dX12_isSpan_28 rfl (by decide) ?_
      exact aw_ri dX12_isSpan_29 rfl (by decide) (Nat.le_of_ble_eq_true rfl) (Nat.le_of_ble_eq_true rfl) (Or.inl ⟨c2, rfl, rfl⟩)
    · refine aw_iload_n (pc' := 5) dX12_isSpan_4 rfl rfl ?_
      refine aw_bipush (v := 100) (pc' := 7) dX12_isSpan_5 rfl (by decide) ?_
      refine aw_idiv (pc' := 8) dX12_isSpan_7 rfl (by decide) ?_
      refine aw_iload_n (pc' := 9) dX12_isSpan_8 rfl rfl ?_
      refine aw_bipush (v := 100) (pc' := 11) dX12_isSpan_9 rfl (by decide) ?_
      refine aw_irem (pc' := 12) dX12_isSpan_11 rfl (by decide) ?_
      refine aw_cgt (tgt := 28) (pc' := 15) dX12_isSpan_12 (by decide) rfl (fun c3 => ?_) (fun c3 => ?_)
      · refine aw_iconst (v := 0) (pc' := 29) dX12_isSpan_28 rfl (by decide) ?_
        exact aw_ri dX12_isSpan_29 rfl (by decide) (Nat.le_of_ble_eq_true rfl) (Nat.le_of_ble_eq_true rfl) (Or.inr (Or.inl ⟨c2, c3, rfl, rfl⟩))
      · refine aw_iload_n (pc' := 16) dX12_isSpan_15 rfl rfl ?_
        refine aw_bipush (v := 100) (pc' := 18) dX12_isSpan_16 rfl (by decide) ?_
        refine aw_irem (pc' := 19) dX12_isSpan_18 rfl (by decide) ?_
        refine aw_bipush (v := 32) (pc' := 21) dX12_isSpan_19 rfl (by decide) ?_
        refine aw_cge (tgt := 28) (pc' := 24) dX12_isSpan_21 (by decide) rfl (fun c4 => ?_) (fun c4 => ?_)
        · refine aw_iconst (v := 0) (pc' := 29) dX12_isSpan_28 rfl (by decide) ?_
          exact aw_ri dX12_isSpan_29 rfl (by decide) (Nat.le_of_ble_eq_true rfl) (Nat.le_of_ble_eq_true rfl) (Or.inr (Or.inr (Or.inl ⟨c2, c3, c4, rfl, rfl⟩)))
        · refine aw_iconst (v := 1) (pc' := 25) dX12_isSpan_24 rfl (by decide) ?_
          refine aw_goto (tgt := 29) dX12_isSpan_25 (by decide) ?_
          exact aw_ri dX12_isSpan_29 rfl (by decide) (Nat.le_of_ble_eq_true rfl) (Nat.le_of_ble_eq_true rfl) (Or.inr (Or.inr (Or.inr ⟨c2, c3, c4, rfl, rfl⟩)))
  refine aw_callSi (M' := mX12_isSpan) (nc' := 0) (ns' := 0) (pc' := 4) dX12_map_1 rfl ml_RX12_255 kX12_isSpan cc1 rfl rfl (Nat.le_of_ble_eq_true rfl) (rok rfl) rfl rfl (fun r14 h14 q14 => ?_)
  rcases q14 with ⟨c5, rfl, rfl⟩ | ⟨c6, c7, rfl, rfl⟩ | ⟨c8, c9, c10, rfl, rfl⟩ | ⟨c11, c12, c13, rfl, rfl⟩
  · refine aw_if_eq (tgt := 17) (pc' := 7) dX12_map_4 (by decide) rfl (fun _ => ?_) (fun c => absurd (by decide) c)
    refine aw_iconst (v := (-1)) (pc' := 18) dX12_map_17 rfl (by decide) ?_
    exact aw_ri dX12_map_18 rfl rfl (Nat.le_of_ble_eq_true rfl) (Nat.le_of_ble_eq_true rfl) (by first | (simp [sp_map, cnd, okC, okS, okW_iff, okN_iff, inR, c5]; done) | (simp_all [sp_map, cnd, okC, okS, okW_iff, okN_iff, inR]; done) | skip)
  · refine aw_if_eq (tgt := 17) (pc' := 7) dX12_map_4 (by decide) rfl (fun _ => ?_) (fun c => absurd (by decide) c)
    refine aw_iconst (v := (-1)) (pc' := 18) dX12_map_17 rfl (by decide) ?_
    exact aw_ri dX12_map_18 rfl rfl (Nat.le_of_ble_eq_true rfl) (Nat.le_of_ble_eq_true rfl) (by first | (simp [sp_map, cnd, okC, okS, okW_iff, okN_iff, inR, c6, c7]; done) | (simp_all [sp_map, cnd, okC, okS, okW_iff, okN_iff, inR]; done) | skip)
  · refine aw_if_eq (tgt := 17) (pc' := 7) dX12_map_4 (by decide) rfl (fun _ => ?_) (fun c => absurd (by decide) c)
    refine aw_iconst (v := (-1)) (pc' := 18) dX12_map_17 rfl (by decide) ?_
    exact aw_ri dX12_map_18 rfl rfl (Nat.le_of_ble_eq_true rfl) (Nat.le_of_ble_eq_true rfl) (by first | (simp [sp_map, cnd, okC, okS, okW_iff, okN_iff, inR, c8, c9, c10]; done) | (simp_all [sp_map, cnd, okC, okS, okW_iff, okN_iff, inR]; done) | skip)
  · refine aw_if_eq (tgt := 17) (pc' := 7) dX12_map_4 (by decide) rfl (fun c => absurd c (by decide)) (fun _ => ?_)
    refine aw_iload_n (pc' := 8) dX12_map_7 rfl rfl ?_
    refine aw_iconst (v := 1) (pc' := 9) dX12_map_8 rfl (by decide) ?_
    refine aw_bipush (v := 60) (pc' := 11) dX12_map_9 rfl (by decide) ?_
    have cc15 : AM mX12_in 0 [.int y, .int 1, .int 60] h 0 0 (PI fun r h' => (y < 1 ∧ 0 = r ∧ h = h') ∨ (¬ (y < 1) ∧ 60 < y ∧ 0 = r ∧ h = h') ∨ (¬ (y < 1) ∧ ¬ (60 < y) ∧ 1 = r ∧ h = h')) := by
      refine am_of (lv := [some (.int y), some (.int 1), some (.int 60)]) rfl (Nat.le_of_ble_eq_true rfl) rfl ?_
      refine aw_iload_n (pc' := 1) dX12_in_0 rfl rfl ?_
      refine aw_iload_n (pc' := 2) dX12_in_1 rfl rfl ?_
      refine aw_clt (tgt := 14) (pc' := 5) dX12_in_2 (by decide) rfl (fun c16 => ?_) (fun c16 => ?_)
      · refine aw_iconst (v := 0) (pc' := 15) dX12_in_14 rfl (by decide) ?_
        exact aw_ri dX12_in_15 rfl (by decide) (Nat.le_of_ble_eq_true rfl) (Nat.le_of_ble_eq_true rfl) (Or.inl ⟨c16, rfl, rfl⟩)
      · refine aw_iload_n (pc' := 6) dX12_in_5 rfl rfl ?_
        refine aw_iload_n (pc' := 7) dX12_in_6 rfl rfl ?_
        refine aw_cgt (tgt := 14) (pc' := 10) dX12_in_7 (by decide) rfl (fun c17 => ?_) (fun c17 => ?_)
        · refine aw_iconst (v := 0) (pc' := 15) dX12_in_14 rfl (by decide) ?_
          exact aw_ri dX12_in_15 rfl (by decide) (Nat.le_of_ble_eq_true rfl) (Nat.le_of_ble_eq_true rfl) (Or.inr (Or.inl ⟨c16, c17, rfl, rfl⟩))
        · refine aw_iconst (v := 1) (pc' := 11) dX12_in_10 rfl (by decide) ?_
          refine aw_goto (tgt := 15) dX12_in_11 (by decide) ?_
          exact aw_ri dX12_in_15 rfl (by decide) (Nat.le_of_ble_eq_true rfl) (Nat.le_of_ble_eq_true rfl) (Or.inr (Or.inr ⟨c16, c17, rfl, rfl⟩))
    refine aw_callSi (M' := mX12_in) (nc' := 0) (ns' := 0) (pc' := 14) dX12_map_11 rfl ml_RX12_230 kX12_in cc15 rfl rfl (Nat.le_of_ble_eq_true rfl) (rok rfl) rfl rfl (fun r23 h23 q23 => ?_)
    rcases q23 with ⟨c18, rfl, rfl⟩ | ⟨c19, c20, rfl, rfl⟩ | ⟨c21, c22, rfl, rfl⟩
    · refine aw_if_ne (tgt := 19) (pc' := 17) dX12_map_14 (by decide) rfl (fun c => absurd (by decide) c) (fun _ => ?_)
      refine aw_iconst (v := (-1)) (pc' := 18) dX12_map_17 rfl (by decide) ?_
      exact aw_ri dX12_map_18 rfl rfl (Nat.le_of_ble_eq_true rfl) (Nat.le_of_ble_eq_true rfl) (by first | (simp [sp_map, cnd, okC, okS, okW_iff, okN_iff, inR, c11, c12, c13, c18]; done) | (simp_all [sp_map, cnd, okC, okS, okW_iff, okN_iff, inR]; done) | skip)
    · refine aw_if_ne (tgt := 19) (pc' := 17) dX12_map_14 (by decide) rfl (fun c => absurd (by decide) c) (fun _ => ?_)
      refine aw_iconst (v := (-1)) (pc' := 18) dX12_map_17 rfl (by decide) ?_
      exact aw_ri dX12_map_18 rfl rfl (Nat.le_of_ble_eq_true rfl) (Nat.le_of_ble_eq_true rfl) (by first | (simp [sp_map, cnd, okC, okS, okW_iff, okN_iff, inR, c11, c12, c13, c19, c20]; done) | (simp_all [sp_map, cnd, okC, okS, okW_iff, okN_iff, inR]; done) | skip)
    · refine aw_if_ne (tgt := 19) (pc' := 17) dX12_map_14 (by decide) rfl (fun _ => ?_) (fun c => absurd c (by decide))
      refine aw_aload_n (pc' := 20) dX12_map_19 rfl rfl rfl ?_
      refine aw_get clsAll (pc' := 23) dX12_map_20 rfl fl_RX12_301 hm.1 rfl ?_
      refine aw_bipush (v := 8) (pc' := 25) dX12_map_23 rfl (by decide) ?_
      refine aw_icmp_ne (tgt := 31) (pc' := 28) dX12_map_25 (by decide) rfl (fun _ => ?_) (fun c => absurd c (by decide))
      refine aw_aload_n (pc' := 32) dX12_map_31 rfl rfl rfl ?_
      refine aw_get clsAll (pc' := 35) dX12_map_32 rfl fl_RX12_81 hm.1 rfl ?_
      refine aw_aload_n (pc' := 36) dX12_map_35 rfl rfl rfl ?_
      refine aw_get clsAll (pc' := 39) dX12_map_36 rfl fl_RX12_301 hm.1 rfl ?_
      refine aw_iload_n (pc' := 40) dX12_map_39 rfl rfl ?_
      refine aw_bipush (v := 100) (pc' := 42) dX12_map_40 rfl (by decide) ?_
      refine aw_idiv (pc' := 43) dX12_map_42 rfl (by decide) ?_
      refine aw_iastG (pc' := 44) dX12_map_43 rfl ((hm.2 81 (by decide) (by decide)).trans h0_81) (vpc (by decide)) (fun h24 e24 => ?_)
      refine aw_aload_n (pc' := 45) dX12_map_44 rfl rfl rfl ?_
      refine aw_get clsAll (pc' := 48) dX12_map_45 rfl fl_RX12_84 (gsn e24 (by decide) hm.1) rfl ?_
      refine aw_aload_n (pc' := 49) dX12_map_48 rfl rfl rfl ?_
      refine aw_get clsAll (pc' := 52) dX12_map_49 rfl fl_RX12_301 (gsn e24 (by decide) hm.1) rfl ?_
      refine aw_iload_n (pc' := 53) dX12_map_52 rfl rfl ?_
      refine aw_bipush (v := 100) (pc' := 55) dX12_map_53 rfl (by decide) ?_
      refine aw_irem (pc' := 56) dX12_map_55 rfl (by decide) ?_
      refine aw_iastG (pc' := 57) dX12_map_56 rfl (gsn e24 (by decide) ((hm.2 82 (by decide) (by decide)).trans h0_82)) (vpc (by decide)) (fun h25 e25 => ?_)
      refine aw_aload_n (pc' := 58) dX12_map_57 rfl rfl rfl ?_
      refine aw_get clsAll (pc' := 61) dX12_map_58 rfl fl_RX12_87 (gsn e25 (by decide) (gsn e24 (by decide) hm.1)) rfl ?_
      refine aw_aload_n (pc' := 62) dX12_map_61 rfl rfl rfl ?_
      refine aw_get clsAll (pc' := 65) dX12_map_62 rfl fl_RX12_301 (gsn e25 (by decide) (gsn e24 (by decide) hm.1)) rfl ?_
      refine aw_iload_n (pc' := 66) dX12_map_65 rfl rfl ?_
      refine aw_iastG (pc' := 67) dX12_map_66 rfl (gsn e25 (by decide) (gsn e24 (by decide) ((hm.2 83 (by decide) (by decide)).trans h0_83))) (vpc (by decide)) (fun h26 e26 => ?_)
      refine aw_aload_n (pc' := 68) dX12_map_67 rfl rfl rfl ?_
      refine aw_dup (pc' := 69) dX12_map_68 rfl rfl ?_
      refine aw_get clsAll (pc' := 72) dX12_map_69 rfl fl_RX12_301 (gsn e26 (by decide) (gsn e25 (by decide) (gsn e24 (by decide) hm.1))) rfl ?_
      refine aw_iconst (v := 1) (pc' := 73) dX12_map_72 rfl (by decide) ?_
      refine aw_iadd (pc' := 74) dX12_map_73 rfl ?_
      refine aw_topi (v := 1) (by decide) ?_
      refine aw_putG clsAll (pc' := 77) dX12_map_74 rfl fl_RX12_301 (gsn e26 (by decide) (gsn e25 (by decide) (gsn e24 (by decide) hm.1))) (Nat.le_of_ble_eq_true rfl) rfl (fun h27 e27 => ?_)
      refine aw_aload_n (pc' := 78) dX12_map_77 rfl rfl rfl ?_
      refine aw_get clsAll (pc' := 81) dX12_map_78 rfl fl_RX12_301 (gss e27 (gsn e26 (by decide) (gsn e25 (by decide) (gsn e24 (by decide) hm.1)))) rfl ?_
      refine aw_iconst (v := 1) (pc' := 82) dX12_map_81 rfl (by decide) ?_
      refine aw_isub (pc' := 83) dX12_map_82 rfl ?_
      refine aw_topi (v := 0) (by decide) ?_
      exact aw_ri dX12_map_83 rfl rfl (Nat.le_of_ble_eq_true rfl) (Nat.le_of_ble_eq_true rfl) (by first | (simp [sp_map, cnd, okC, okS, okW_iff, okN_iff, inR, c11, c12, c13, c21, c22]; done) | (simp_all [sp_map, cnd, okC, okS, okW_iff, okN_iff, inR]; done) | skip)
set_option maxRecDepth 4000 in
theorem m_old (h : List aE) (hm : Fm 0 h) (m : Int32) (c : Int32) : AM mX12_old 1 [.ref 67, .int m, .int c] h 0 0 (PI fun r h' => r = sp_old m c) := by
  refine am_of (lv := [some (.ref 67), some (.int m), some (.int c)]) rfl (Nat.le_of_ble_eq_true rfl) rfl ?_
  refine aw_iload_n (pc' := 1) dX12_old_0 rfl rfl ?_
  refine aw_iconst (v := 0) (pc' := 2) dX12_old_1 rfl (by decide) ?_
  refine aw_aload_n (pc' := 3) dX12_old_2 rfl rfl rfl ?_
  refine aw_get clsAll (pc' := 6) dX12_old_3 rfl fl_RX12_301 hm.1 rfl ?_
  refine aw_iconst (v := 1) (pc' := 7) dX12_old_6 rfl (by decide) ?_
  refine aw_isub (pc' := 8) dX12_old_7 rfl ?_
  refine aw_topi (v := (-1)) (by decide) ?_
  have cc1 : AM mX12_in 0 [.int m, .int 0, .int (-1)] h 0 0 (PI fun r h' => (m < 0 ∧ 0 = r ∧ h = h') ∨ (¬ (m < 0) ∧ 0 = r ∧ h = h')) := by
    refine am_of (lv := [some (.int m), some (.int 0), some (.int (-1))]) rfl (Nat.le_of_ble_eq_true rfl) rfl ?_
    refine aw_iload_n (pc' := 1) dX12_in_0 rfl rfl ?_
    refine aw_iload_n (pc' := 2) dX12_in_1 rfl rfl ?_
    refine aw_clt (tgt := 14) (pc' := 5) dX12_in_2 (by decide) rfl (fun c2 => ?_) (fun c2 => ?_)
    · refine aw_iconst (v := 0) (pc' := 15) dX12_in_14 rfl (by decide) ?_
      exact aw_ri dX12_in_15 rfl (by decide) (Nat.le_of_ble_eq_true rfl) (Nat.le_of_ble_eq_true rfl) (Or.inl ⟨c2, rfl, rfl⟩)
    · refine aw_iload_n (pc' := 6) dX12_in_5 rfl rfl ?_
      refine aw_iload_n (pc' := 7) dX12_in_6 rfl rfl ?_
      refine aw_cgt (tgt := 14) (pc' := 10) dX12_in_7 (by decide) rfl (fun _ => ?_) (fun c => absurd (bt1 c2 (by decide)) c)
      refine aw_iconst (v := 0) (pc' := 15) dX12_in_14 rfl (by decide) ?_
      exact aw_ri dX12_in_15 rfl (by decide) (Nat.le_of_ble_eq_true rfl) (Nat.le_of_ble_eq_true rfl) (Or.inr ⟨c2, rfl, rfl⟩)
  refine aw_callSi (M' := mX12_in) (nc' := 0) (ns' := 0) (pc' := 11) dX12_old_8 rfl ml_RX12_230 kX12_in cc1 rfl rfl (Nat.le_of_ble_eq_true rfl) (rok rfl) rfl rfl (fun r5 h5 q5 => ?_)
  rcases q5 with ⟨c3, rfl, rfl⟩ | ⟨c4, rfl, rfl⟩
  · refine aw_if_eq (tgt := 30) (pc' := 14) dX12_old_11 (by decide) rfl (fun _ => ?_) (fun c => absurd (by decide) c)
    refine aw_iconst (v := (-1)) (pc' := 31) dX12_old_30 rfl (by decide) ?_
    exact aw_ri dX12_old_31 rfl rfl (Nat.le_of_ble_eq_true rfl) (Nat.le_of_ble_eq_true rfl) (by first | (simp [sp_old, cnd, okC, okS, okW_iff, okN_iff, inR, c3]; done) | (simp_all [sp_old, cnd, okC, okS, okW_iff, okN_iff, inR]; done) | skip)
  · refine aw_if_eq (tgt := 30) (pc' := 14) dX12_old_11 (by decide) rfl (fun _ => ?_) (fun c => absurd (by decide) c)
    refine aw_iconst (v := (-1)) (pc' := 31) dX12_old_30 rfl (by decide) ?_
    exact aw_ri dX12_old_31 rfl rfl (Nat.le_of_ble_eq_true rfl) (Nat.le_of_ble_eq_true rfl) (by first | (simp [sp_old, cnd, okC, okS, okW_iff, okN_iff, inR, c4]; done) | (simp_all [sp_old, cnd, okC, okS, okW_iff, okN_iff, inR]; done) | skip)
set_option maxRecDepth 4000 in
theorem m_wrong (h : List aE) (hm : Fm 0 h) (m : Int32) : AM mX12_wrong 1 [.ref 67, .int m] h 0 0 (PI fun r h' => r = sp_wrong m) := by
  refine am_of (lv := [some (.ref 67), some (.int m)]) rfl (Nat.le_of_ble_eq_true rfl) rfl ?_
  refine aw_iload_n (pc' := 1) dX12_wrong_0 rfl rfl ?_
  refine aw_iconst (v := 0) (pc' := 2) dX12_wrong_1 rfl (by decide) ?_
  refine aw_aload_n (pc' := 3) dX12_wrong_2 rfl rfl rfl ?_
  refine aw_get clsAll (pc' := 6) dX12_wrong_3 rfl fl_RX12_301 hm.1 rfl ?_
  refine aw_iconst (v := 1) (pc' := 7) dX12_wrong_6 rfl (by decide) ?_
  refine aw_isub (pc' := 8) dX12_wrong_7 rfl ?_
  refine aw_topi (v := (-1)) (by decide) ?_
  have cc1 : AM mX12_in 0 [.int m, .int 0, .int (-1)] h 0 0 (PI fun r h' => (m < 0 ∧ 0 = r ∧ h = h') ∨ (¬ (m < 0) ∧ 0 = r ∧ h = h')) := by
    refine am_of (lv := [some (.int m), some (.int 0), some (.int (-1))]) rfl (Nat.le_of_ble_eq_true rfl) rfl ?_
    refine aw_iload_n (pc' := 1) dX12_in_0 rfl rfl ?_
    refine aw_iload_n (pc' := 2) dX12_in_1 rfl rfl ?_
    refine aw_clt (tgt := 14) (pc' := 5) dX12_in_2 (by decide) rfl (fun c2 => ?_) (fun c2 => ?_)
    · refine aw_iconst (v := 0) (pc' := 15) dX12_in_14 rfl (by decide) ?_
      exact aw_ri dX12_in_15 rfl (by decide) (Nat.le_of_ble_eq_true rfl) (Nat.le_of_ble_eq_true rfl) (Or.inl ⟨c2, rfl, rfl⟩)
    · refine aw_iload_n (pc' := 6) dX12_in_5 rfl rfl ?_
      refine aw_iload_n (pc' := 7) dX12_in_6 rfl rfl ?_
      refine aw_cgt (tgt := 14) (pc' := 10) dX12_in_7 (by decide) rfl (fun _ => ?_) (fun c => absurd (bt1 c2 (by decide)) c)
      refine aw_iconst (v := 0) (pc' := 15) dX12_in_14 rfl (by decide) ?_
      exact aw_ri dX12_in_15 rfl (by decide) (Nat.le_of_ble_eq_true rfl) (Nat.le_of_ble_eq_true rfl) (Or.inr ⟨c2, rfl, rfl⟩)
  refine aw_callSi (M' := mX12_in) (nc' := 0) (ns' := 0) (pc' := 11) dX12_wrong_8 rfl ml_RX12_230 kX12_in cc1 rfl rfl (Nat.le_of_ble_eq_true rfl) (rok rfl) rfl rfl (fun r5 h5 q5 => ?_)
  rcases q5 with ⟨c3, rfl, rfl⟩ | ⟨c4, rfl, rfl⟩
  · refine aw_if_eq (tgt := 22) (pc' := 14) dX12_wrong_11 (by decide) rfl (fun _ => ?_) (fun c => absurd (by decide) c)
    refine aw_iconst (v := (-1)) (pc' := 23) dX12_wrong_22 rfl (by decide) ?_
    exact aw_ri dX12_wrong_23 rfl rfl (Nat.le_of_ble_eq_true rfl) (Nat.le_of_ble_eq_true rfl) (by first | (simp [sp_wrong, cnd, okC, okS, okW_iff, okN_iff, inR, c3]; done) | (simp_all [sp_wrong, cnd, okC, okS, okW_iff, okN_iff, inR]; done) | skip)
  · refine aw_if_eq (tgt := 22) (pc' := 14) dX12_wrong_11 (by decide) rfl (fun _ => ?_) (fun c => absurd (by decide) c)
    refine aw_iconst (v := (-1)) (pc' := 23) dX12_wrong_22 rfl (by decide) ?_
    exact aw_ri dX12_wrong_23 rfl rfl (Nat.le_of_ble_eq_true rfl) (Nat.le_of_ble_eq_true rfl) (by first | (simp [sp_wrong, cnd, okC, okS, okW_iff, okN_iff, inR, c4]; done) | (simp_all [sp_wrong, cnd, okC, okS, okW_iff, okN_iff, inR]; done) | skip)
set_option maxRecDepth 4000 in
theorem m_known (h : List aE) (hm : Fm 0 h) (w : Int32) : AM mX12_known 1 [.ref 67, .int w] h 0 0 (PI fun r h' => r = sp_known w) := by
  refine am_of (lv := [some (.ref 67), some (.int w), none, none, none, none, none, none, none]) rfl (Nat.le_of_ble_eq_true rfl) rfl ?_
  refine aw_iload_n (pc' := 1) dX12_known_0 rfl rfl ?_
  refine aw_iconst (v := 0) (pc' := 2) dX12_known_1 rfl (by decide) ?_
  refine aw_iconst (v := 5) (pc' := 3) dX12_known_2 rfl (by decide) ?_
  have cc1 : AM mX12_in 0 [.int w, .int 0, .int 5] h 0 0 (PI fun r h' => (w < 0 ∧ 0 = r ∧ h = h') ∨ (¬ (w < 0) ∧ 5 < w ∧ 0 = r ∧ h = h') ∨ (¬ (w < 0) ∧ ¬ (5 < w) ∧ 1 = r ∧ h = h')) := by
    refine am_of (lv := [some (.int w), some (.int 0), some (.int 5)]) rfl (Nat.le_of_ble_eq_true rfl) rfl ?_
    refine aw_iload_n (pc' := 1) dX12_in_0 rfl rfl ?_
    refine aw_iload_n (pc' := 2) dX12_in_1 rfl rfl ?_
    refine aw_clt (tgt := 14) (pc' := 5) dX12_in_2 (by decide) rfl (fun c2 => ?_) (fun c2 => ?_)
    · refine aw_iconst (v := 0) (pc' := 15) dX12_in_14 rfl (by decide) ?_
      exact aw_ri dX12_in_15 rfl (by decide) (Nat.le_of_ble_eq_true rfl) (Nat.le_of_ble_eq_true rfl) (Or.inl ⟨c2, rfl, rfl⟩)
    · refine aw_iload_n (pc' := 6) dX12_in_5 rfl rfl ?_
      refine aw_iload_n (pc' := 7) dX12_in_6 rfl rfl ?_
      refine aw_cgt (tgt := 14) (pc' := 10) dX12_in_7 (by decide) rfl (fun c3 => ?_) (fun c3 => ?_)
      · refine aw_iconst (v := 0) (pc' := 15) dX12_in_14 rfl (by decide) ?_
        exact aw_ri dX12_in_15 rfl (by decide) (Nat.le_of_ble_eq_true rfl) (Nat.le_of_ble_eq_true rfl) (Or.inr (Or.inl ⟨c2, c3, rfl, rfl⟩))
      · refine aw_iconst (v := 1) (pc' := 11) dX12_in_10 rfl (by decide) ?_
        refine aw_goto (tgt := 15) dX12_in_11 (by decide) ?_
        exact aw_ri dX12_in_15 rfl (by decide) (Nat.le_of_ble_eq_true rfl) (Nat.le_of_ble_eq_true rfl) (Or.inr (Or.inr ⟨c2, c3, rfl, rfl⟩))
  refine aw_callSi (M' := mX12_in) (nc' := 0) (ns' := 0) (pc' := 6) dX12_known_3 rfl ml_RX12_230 kX12_in cc1 rfl rfl (Nat.le_of_ble_eq_true rfl) (rok rfl) rfl rfl (fun r9 h9 q9 => ?_)
  rcases q9 with ⟨c4, rfl, rfl⟩ | ⟨c5, c6, rfl, rfl⟩ | ⟨c7, c8, rfl, rfl⟩
  · refine aw_if_ne (tgt := 11) (pc' := 9) dX12_known_6 (by decide) rfl (fun c => absurd (by decide) c) (fun _ => ?_)
    refine aw_iconst (v := (-1)) (pc' := 10) dX12_known_9 rfl (by decide) ?_
    exact aw_ri dX12_known_10 rfl rfl (Nat.le_of_ble_eq_true rfl) (Nat.le_of_ble_eq_true rfl) (by first | (simp [sp_known, cnd, okC, okS, okW_iff, okN_iff, inR, c4]; done) | (simp_all [sp_known, cnd, okC, okS, okW_iff, okN_iff, inR]; done) | skip)
  · refine aw_if_ne (tgt := 11) (pc' := 9) dX12_known_6 (by decide) rfl (fun c => absurd (by decide) c) (fun _ => ?_)
    refine aw_iconst (v := (-1)) (pc' := 10) dX12_known_9 rfl (by decide) ?_
    exact aw_ri dX12_known_10 rfl rfl (Nat.le_of_ble_eq_true rfl) (Nat.le_of_ble_eq_true rfl) (by first | (simp [sp_known, cnd, okC, okS, okW_iff, okN_iff, inR, c5, c6]; done) | (simp_all [sp_known, cnd, okC, okS, okW_iff, okN_iff, inR]; done) | skip)
  · refine aw_if_ne (tgt := 11) (pc' := 9) dX12_known_6 (by decide) rfl (fun _ => ?_) (fun c => absurd c (by decide))
    refine aw_bipush (v := 32) (pc' := 13) dX12_known_11 rfl (by decide) ?_
    refine aw_istore_n (lv' := [_, _, _, _, _, _, _, _, _]) (pc' := 14) dX12_known_13 rfl (Nat.le_of_ble_eq_true rfl) rfl ?_
    refine aw_iconst (v := (-1)) (pc' := 15) dX12_known_14 rfl (by decide) ?_
    refine aw_istore_n (lv' := [_, _, _, _, _, _, _, _, _]) (pc' := 16) dX12_known_15 rfl (Nat.le_of_ble_eq_true rfl) rfl ?_
    refine aw_bipush (v := 32) (pc' := 18) dX12_known_16 rfl (by decide) ?_
    refine aw_istore (lv' := [_, _, _, _, _, _, _, _, _]) (pc' := 20) dX12_known_18 rfl (Nat.le_of_ble_eq_true rfl) rfl ?_
    refine aw_iconst (v := (-1)) (pc' := 21) dX12_known_20 rfl (by decide) ?_
    refine aw_istore (lv' := [_, _, _, _, _, _, _, _, _]) (pc' := 23) dX12_known_21 rfl (Nat.le_of_ble_eq_true rfl) rfl ?_
    refine aw_bipush (v := 61) (pc' := 25) dX12_known_23 rfl (by decide) ?_
    refine aw_istore (lv' := [_, _, _, _, _, _, _, _, _]) (pc' := 27) dX12_known_25 rfl (Nat.le_of_ble_eq_true rfl) rfl ?_
    refine aw_iconst (v := 0) (pc' := 28) dX12_known_27 rfl (by decide) ?_
    refine aw_istore (lv' := [_, _, _, _, _, _, _, _, _]) (pc' := 30) dX12_known_28 rfl (Nat.le_of_ble_eq_true rfl) rfl ?_
    refine aw_iconst (v := 0) (pc' := 31) dX12_known_30 rfl (by decide) ?_
    refine aw_istore (lv' := [_, _, _, _, _, _, _, _, _]) (pc' := 33) dX12_known_31 rfl (Nat.le_of_ble_eq_true rfl) rfl ?_
    refine aw_iload (pc' := 35) dX12_known_33 rfl rfl ?_
    refine aw_aload_n (pc' := 36) dX12_known_35 rfl rfl rfl ?_
    refine aw_get clsAll (pc' := 39) dX12_known_36 rfl fl_RX12_301 hm.1 rfl ?_
    refine aw_cge (tgt := 212) (pc' := 42) dX12_known_39 (by decide) rfl (fun _ => ?_) (fun c => absurd c (by decide))
    refine aw_iload (pc' := 214) dX12_known_212 rfl rfl ?_
    refine aw_if_ne (tgt := 220) (pc' := 217) dX12_known_214 (by decide) rfl (fun c => absurd (by decide) c) (fun _ => ?_)
    refine aw_bipush (v := (-2)) (pc' := 219) dX12_known_217 rfl (by decide) ?_
    exact aw_ri dX12_known_219 rfl rfl (Nat.le_of_ble_eq_true rfl) (Nat.le_of_ble_eq_true rfl) (by first | (simp [sp_known, cnd, okC, okS, okW_iff, okN_iff, inR, c7, c8]; done) | (simp_all [sp_known, cnd, okC, okS, okW_iff, okN_iff, inR]; done) | skip)
set_option maxRecDepth 4000 in
theorem m_feed (h : List aE) (hm : Fm 0 h) (n : Int32) (v : Int32) : AM mX12_feed 1 [.ref 67, .int n, .int v] h 0 0 (PI fun r h' => r = sp_feed n v) := by
  refine am_of (lv := [some (.ref 67), some (.int n), some (.int v), none]) rfl (Nat.le_of_ble_eq_true rfl) rfl ?_
  refine aw_iload_n (pc' := 1) dX12_feed_0 rfl rfl ?_
  refine aw_iconst (v := 1) (pc' := 2) dX12_feed_1 rfl (by decide) ?_
  refine aw_iconst (v := 4) (pc' := 3) dX12_feed_2 rfl (by decide) ?_
  have cc1 : AM mX12_in 0 [.int n, .int 1, .int 4] h 0 0 (PI fun r h' => (n < 1 ∧ 0 = r ∧ h = h') ∨ (¬ (n < 1) ∧ 4 < n ∧ 0 = r ∧ h = h') ∨ (¬ (n < 1) ∧ ¬ (4 < n) ∧ 1 = r ∧ h = h')) := by
    refine am_of (lv := [some (.int n), some (.int 1), some (.int 4)]) rfl (Nat.le_of_ble_eq_true rfl) rfl ?_
    refine aw_iload_n (pc' := 1) dX12_in_0 rfl rfl ?_
    refine aw_iload_n (pc' := 2) dX12_in_1 rfl rfl ?_
    refine aw_clt (tgt := 14) (pc' := 5) dX12_in_2 (by decide) rfl (fun c2 => ?_) (fun c2 => ?_)
    · refine aw_iconst (v := 0) (pc' := 15) dX12_in_14 rfl (by decide) ?_
      exact aw_ri dX12_in_15 rfl (by decide) (Nat.le_of_ble_eq_true rfl) (Nat.le_of_ble_eq_true rfl) (Or.inl ⟨c2, rfl, rfl⟩)
    · refine aw_iload_n (pc' := 6) dX12_in_5 rfl rfl ?_
      refine aw_iload_n (pc' := 7) dX12_in_6 rfl rfl ?_
      refine aw_cgt (tgt := 14) (pc' := 10) dX12_in_7 (by decide) rfl (fun c3 => ?_) (fun c3 => ?_)
      · refine aw_iconst (v := 0) (pc' := 15) dX12_in_14 rfl (by decide) ?_
        exact aw_ri dX12_in_15 rfl (by decide) (Nat.le_of_ble_eq_true rfl) (Nat.le_of_ble_eq_true rfl) (Or.inr (Or.inl ⟨c2, c3, rfl, rfl⟩))
      · refine aw_iconst (v := 1) (pc' := 11) dX12_in_10 rfl (by decide) ?_
        refine aw_goto (tgt := 15) dX12_in_11 (by decide) ?_
        exact aw_ri dX12_in_15 rfl (by decide) (Nat.le_of_ble_eq_true rfl) (Nat.le_of_ble_eq_true rfl) (Or.inr (Or.inr ⟨c2, c3, rfl, rfl⟩))
  refine aw_callSi (M' := mX12_in) (nc' := 0) (ns' := 0) (pc' := 6) dX12_feed_3 rfl ml_RX12_230 kX12_in cc1 rfl rfl (Nat.le_of_ble_eq_true rfl) (rok rfl) rfl rfl (fun r9 h9 q9 => ?_)
  rcases q9 with ⟨c4, rfl, rfl⟩ | ⟨c5, c6, rfl, rfl⟩ | ⟨c7, c8, rfl, rfl⟩
  · refine aw_if_ne (tgt := 11) (pc' := 9) dX12_feed_6 (by decide) rfl (fun c => absurd (by decide) c) (fun _ => ?_)
    refine aw_iconst (v := (-1)) (pc' := 10) dX12_feed_9 rfl (by decide) ?_
    exact aw_ri dX12_feed_10 rfl rfl (Nat.le_of_ble_eq_true rfl) (Nat.le_of_ble_eq_true rfl) (by first | (simp [sp_feed, cnd, okC, okS, okW_iff, okN_iff, inR, c4]; done) | (simp_all [sp_feed, cnd, okC, okS, okW_iff, okN_iff, inR]; done) | skip)
  · refine aw_if_ne (tgt := 11) (pc' := 9) dX12_feed_6 (by decide) rfl (fun c => absurd (by decide) c) (fun _ => ?_)
    refine aw_iconst (v := (-1)) (pc' := 10) dX12_feed_9 rfl (by decide) ?_
    exact aw_ri dX12_feed_10 rfl rfl (Nat.le_of_ble_eq_true rfl) (Nat.le_of_ble_eq_true rfl) (by first | (simp [sp_feed, cnd, okC, okS, okW_iff, okN_iff, inR, c5, c6]; done) | (simp_all [sp_feed, cnd, okC, okS, okW_iff, okN_iff, inR]; done) | skip)
  · refine aw_if_ne (tgt := 11) (pc' := 9) dX12_feed_6 (by decide) rfl (fun _ => ?_) (fun c => absurd c (by decide))
    rcases four_ c7 c8 with rfl | rfl | rfl | rfl
    · refine aw_aload_n (pc' := 12) dX12_feed_11 rfl rfl rfl ?_
      refine aw_get clsAll (pc' := 15) dX12_feed_12 rfl fl_RX12_316 hm.1 rfl ?_
      refine aw_iload_n (pc' := 16) dX12_feed_15 rfl rfl ?_
      refine aw_iadd (pc' := 17) dX12_feed_16 rfl ?_
      refine aw_topi (v := 1) (by decide) ?_
      refine aw_sipush (v := 160) (pc' := 20) dX12_feed_17 rfl (by decide) ?_
      refine aw_cle (tgt := 26) (pc' := 23) dX12_feed_20 (by decide) rfl (fun _ => ?_) (fun c => absurd c (by decide))
      refine aw_iconst (v := 0) (pc' := 27) dX12_feed_26 rfl (by decide) ?_
      refine aw_istore_n (lv' := [_, _, _, _]) (pc' := 28) dX12_feed_27 rfl (Nat.le_of_ble_eq_true rfl) rfl ?_
      refine aw_iload_n (pc' := 29) dX12_feed_28 rfl rfl ?_
      refine aw_iload_n (pc' := 30) dX12_feed_29 rfl rfl ?_
      refine aw_cge (tgt := 65) (pc' := 33) dX12_feed_30 (by decide) rfl (fun c => absurd (by decide) c) (fun _ => ?_)
      refine aw_aload_n (pc' := 34) dX12_feed_33 rfl rfl rfl ?_
      refine aw_get clsAll (pc' := 37) dX12_feed_34 rfl fl_RX12_96 hm.1 rfl ?_
      refine aw_aload_n (pc' := 38) dX12_feed_37 rfl rfl rfl ?_
      refine aw_get clsAll (pc' := 41) dX12_feed_38 rfl fl_RX12_316 hm.1 rfl ?_
      refine aw_iload_n (pc' := 42) dX12_feed_41 rfl rfl ?_
      refine aw_bipush (v := 8) (pc' := 44) dX12_feed_42 rfl (by decide) ?_
      refine aw_iload_n (pc' := 45) dX12_feed_44 rfl rfl ?_
      refine aw_imul (pc' := 46) dX12_feed_45 rfl ?_
      refine aw_topi (v := 0) (by decide) ?_
      refine aw_ishr (pc' := 47) dX12_feed_46 rfl ?_
      refine aw_i2b (pc' := 48) dX12_feed_47 rfl ?_
      refine aw_bastG (pc' := 49) dX12_feed_48 rfl ((hm.2 86 (by decide) (by decide)).trans h0_86) (vpc (by decide)) rfl (fun h10 e10 => ?_)
      refine aw_aload_n (pc' := 50) dX12_feed_49 rfl rfl rfl ?_
      refine aw_dup (pc' := 51) dX12_feed_50 rfl rfl ?_
      refine aw_get clsAll (pc' := 54) dX12_feed_51 rfl fl_RX12_316 (gsn e10 (by decide) hm.1) rfl ?_
      refine aw_iconst (v := 1) (pc' := 55) dX12_feed_54 rfl (by decide) ?_
      refine aw_iadd (pc' := 56) dX12_feed_55 rfl ?_
      refine aw_topi (v := 1) (by decide) ?_
      refine aw_putG clsAll (pc' := 59) dX12_feed_56 rfl fl_RX12_316 (gsn e10 (by decide) hm.1) (Nat.le_of_ble_eq_true rfl) rfl (fun h11 e11 => ?_)
      refine aw_iinc (lv' := [_, _, _, _]) (pc' := 62) dX12_feed_59 rfl rfl (Nat.le_of_ble_eq_true rfl) rfl ?_
      refine aw_goto (tgt := 28) dX12_feed_62 (by decide) ?_
      refine aw_iload_n (pc' := 29) dX12_feed_28 rfl rfl ?_
      refine aw_iload_n (pc' := 30) dX12_feed_29 rfl rfl ?_
      refine aw_cge (tgt := 65) (pc' := 33) dX12_feed_30 (by decide) rfl (fun _ => ?_) (fun c => absurd c (by decide))
      refine aw_aload_n (pc' := 66) dX12_feed_65 rfl rfl rfl ?_
      refine aw_get clsAll (pc' := 69) dX12_feed_66 rfl fl_RX12_316 (gss e11 (gsn e10 (by decide) hm.1)) rfl ?_
      exact aw_ri dX12_feed_69 rfl rfl (Nat.le_of_ble_eq_true rfl) (Nat.le_of_ble_eq_true rfl) (by first | (simp [sp_feed, cnd, okC, okS, okW_iff, okN_iff, inR]; done) | (simp_all [sp_feed, cnd, okC, okS, okW_iff, okN_iff, inR]; done) | skip)
    · refine aw_aload_n (pc' := 12) dX12_feed_11 rfl rfl rfl ?_
      refine aw_get clsAll (pc' := 15) dX12_feed_12 rfl fl_RX12_316 hm.1 rfl ?_
      refine aw_iload_n (pc' := 16) dX12_feed_15 rfl rfl ?_
      refine aw_iadd (pc' := 17) dX12_feed_16 rfl ?_
      refine aw_topi (v := 2) (by decide) ?_
      refine aw_sipush (v := 160) (pc' := 20) dX12_feed_17 rfl (by decide) ?_
      refine aw_cle (tgt := 26) (pc' := 23) dX12_feed_20 (by decide) rfl (fun _ => ?_) (fun c => absurd c (by decide))
      refine aw_iconst (v := 0) (pc' := 27) dX12_feed_26 rfl (by decide) ?_
      refine aw_istore_n (lv' := [_, _, _, _]) (pc' := 28) dX12_feed_27 rfl (Nat.le_of_ble_eq_true rfl) rfl ?_
      refine aw_iload_n (pc' := 29) dX12_feed_28 rfl rfl ?_
      refine aw_iload_n (pc' := 30) dX12_feed_29 rfl rfl ?_
      refine aw_cge (tgt := 65) (pc' := 33) dX12_feed_30 (by decide) rfl (fun c => absurd (by decide) c) (fun _ => ?_)
      refine aw_aload_n (pc' := 34) dX12_feed_33 rfl rfl rfl ?_
      refine aw_get clsAll (pc' := 37) dX12_feed_34 rfl fl_RX12_96 hm.1 rfl ?_
      refine aw_aload_n (pc' := 38) dX12_feed_37 rfl rfl rfl ?_
      refine aw_get clsAll (pc' := 41) dX12_feed_38 rfl fl_RX12_316 hm.1 rfl ?_
      refine aw_iload_n (pc' := 42) dX12_feed_41 rfl rfl ?_
      refine aw_bipush (v := 8) (pc' := 44) dX12_feed_42 rfl (by decide) ?_
      refine aw_iload_n (pc' := 45) dX12_feed_44 rfl rfl ?_
      refine aw_imul (pc' := 46) dX12_feed_45 rfl ?_
      refine aw_topi (v := 0) (by decide) ?_
      refine aw_ishr (pc' := 47) dX12_feed_46 rfl ?_
      refine aw_i2b (pc' := 48) dX12_feed_47 rfl ?_
      refine aw_bastG (pc' := 49) dX12_feed_48 rfl ((hm.2 86 (by decide) (by decide)).trans h0_86) (vpc (by decide)) rfl (fun h12 e12 => ?_)
      refine aw_aload_n (pc' := 50) dX12_feed_49 rfl rfl rfl ?_
      refine aw_dup (pc' := 51) dX12_feed_50 rfl rfl ?_
      refine aw_get clsAll (pc' := 54) dX12_feed_51 rfl fl_RX12_316 (gsn e12 (by decide) hm.1) rfl ?_
      refine aw_iconst (v := 1) (pc' := 55) dX12_feed_54 rfl (by decide) ?_
      refine aw_iadd (pc' := 56) dX12_feed_55 rfl ?_
      refine aw_topi (v := 1) (by decide) ?_
      refine aw_putG clsAll (pc' := 59) dX12_feed_56 rfl fl_RX12_316 (gsn e12 (by decide) hm.1) (Nat.le_of_ble_eq_true rfl) rfl (fun h13 e13 => ?_)
      refine aw_iinc (lv' := [_, _, _, _]) (pc' := 62) dX12_feed_59 rfl rfl (Nat.le_of_ble_eq_true rfl) rfl ?_
      refine aw_goto (tgt := 28) dX12_feed_62 (by decide) ?_
      refine aw_iload_n (pc' := 29) dX12_feed_28 rfl rfl ?_
      refine aw_iload_n (pc' := 30) dX12_feed_29 rfl rfl ?_
      refine aw_cge (tgt := 65) (pc' := 33) dX12_feed_30 (by decide) rfl (fun c => absurd (by decide) c) (fun _ => ?_)
      refine aw_aload_n (pc' := 34) dX12_feed_33 rfl rfl rfl ?_
      refine aw_get clsAll (pc' := 37) dX12_feed_34 rfl fl_RX12_96 (gss e13 (gsn e12 (by decide) hm.1)) rfl ?_
      refine aw_aload_n (pc' := 38) dX12_feed_37 rfl rfl rfl ?_
      refine aw_get clsAll (pc' := 41) dX12_feed_38 rfl fl_RX12_316 (gss e13 (gsn e12 (by decide) hm.1)) rfl ?_
      refine aw_iload_n (pc' := 42) dX12_feed_41 rfl rfl ?_
      refine aw_bipush (v := 8) (pc' := 44) dX12_feed_42 rfl (by decide) ?_
      refine aw_iload_n (pc' := 45) dX12_feed_44 rfl rfl ?_
      refine aw_imul (pc' := 46) dX12_feed_45 rfl ?_
      refine aw_topi (v := 8) (by decide) ?_
      refine aw_ishr (pc' := 47) dX12_feed_46 rfl ?_
      refine aw_i2b (pc' := 48) dX12_feed_47 rfl ?_
      refine aw_bastG (pc' := 49) dX12_feed_48 rfl (gsn e13 (by decide) (gss e12 ((hm.2 86 (by decide) (by decide)).trans h0_86))) (vpc (by decide)) rfl (fun h14 e14 => ?_)
      refine aw_aload_n (pc' := 50) dX12_feed_49 rfl rfl rfl ?_
      refine aw_dup (pc' := 51) dX12_feed_50 rfl rfl ?_
      refine aw_get clsAll (pc' := 54) dX12_feed_51 rfl fl_RX12_316 (gsn e14 (by decide) (gss e13 (gsn e12 (by decide) hm.1))) rfl ?_
      refine aw_iconst (v := 1) (pc' := 55) dX12_feed_54 rfl (by decide) ?_
      refine aw_iadd (pc' := 56) dX12_feed_55 rfl ?_
      refine aw_topi (v := 2) (by decide) ?_
      refine aw_putG clsAll (pc' := 59) dX12_feed_56 rfl fl_RX12_316 (gsn e14 (by decide) (gss e13 (gsn e12 (by decide) hm.1))) (Nat.le_of_ble_eq_true rfl) rfl (fun h15 e15 => ?_)
      refine aw_iinc (lv' := [_, _, _, _]) (pc' := 62) dX12_feed_59 rfl rfl (Nat.le_of_ble_eq_true rfl) rfl ?_
      refine aw_goto (tgt := 28) dX12_feed_62 (by decide) ?_
      refine aw_iload_n (pc' := 29) dX12_feed_28 rfl rfl ?_
      refine aw_iload_n (pc' := 30) dX12_feed_29 rfl rfl ?_
      refine aw_cge (tgt := 65) (pc' := 33) dX12_feed_30 (by decide) rfl (fun _ => ?_) (fun c => absurd c (by decide))
      refine aw_aload_n (pc' := 66) dX12_feed_65 rfl rfl rfl ?_
      refine aw_get clsAll (pc' := 69) dX12_feed_66 rfl fl_RX12_316 (gss e15 (gsn e14 (by decide) (gss e13 (gsn e12 (by decide) hm.1)))) rfl ?_
      exact aw_ri dX12_feed_69 rfl rfl (Nat.le_of_ble_eq_true rfl) (Nat.le_of_ble_eq_true rfl) (by first | (simp [sp_feed, cnd, okC, okS, okW_iff, okN_iff, inR]; done) | (simp_all [sp_feed, cnd, okC, okS, okW_iff, okN_iff, inR]; done) | skip)
    · refine aw_aload_n (pc' := 12) dX12_feed_11 rfl rfl rfl ?_
      refine aw_get clsAll (pc' := 15) dX12_feed_12 rfl fl_RX12_316 hm.1 rfl ?_
      refine aw_iload_n (pc' := 16) dX12_feed_15 rfl rfl ?_
      refine aw_iadd (pc' := 17) dX12_feed_16 rfl ?_
      refine aw_topi (v := 3) (by decide) ?_
      refine aw_sipush (v := 160) (pc' := 20) dX12_feed_17 rfl (by decide) ?_
      refine aw_cle (tgt := 26) (pc' := 23) dX12_feed_20 (by decide) rfl (fun _ => ?_) (fun c => absurd c (by decide))
      refine aw_iconst (v := 0) (pc' := 27) dX12_feed_26 rfl (by decide) ?_
      refine aw_istore_n (lv' := [_, _, _, _]) (pc' := 28) dX12_feed_27 rfl (Nat.le_of_ble_eq_true rfl) rfl ?_
      refine aw_iload_n (pc' := 29) dX12_feed_28 rfl rfl ?_
      refine aw_iload_n (pc' := 30) dX12_feed_29 rfl rfl ?_
      refine aw_cge (tgt := 65) (pc' := 33) dX12_feed_30 (by decide) rfl (fun c => absurd (by decide) c) (fun _ => ?_)
      refine aw_aload_n (pc' := 34) dX12_feed_33 rfl rfl rfl ?_
      refine aw_get clsAll (pc' := 37) dX12_feed_34 rfl fl_RX12_96 hm.1 rfl ?_
      refine aw_aload_n (pc' := 38) dX12_feed_37 rfl rfl rfl ?_
      refine aw_get clsAll (pc' := 41) dX12_feed_38 rfl fl_RX12_316 hm.1 rfl ?_
      refine aw_iload_n (pc' := 42) dX12_feed_41 rfl rfl ?_
      refine aw_bipush (v := 8) (pc' := 44) dX12_feed_42 rfl (by decide) ?_
      refine aw_iload_n (pc' := 45) dX12_feed_44 rfl rfl ?_
      refine aw_imul (pc' := 46) dX12_feed_45 rfl ?_
      refine aw_topi (v := 0) (by decide) ?_
      refine aw_ishr (pc' := 47) dX12_feed_46 rfl ?_
      refine aw_i2b (pc' := 48) dX12_feed_47 rfl ?_
      refine aw_bastG (pc' := 49) dX12_feed_48 rfl ((hm.2 86 (by decide) (by decide)).trans h0_86) (vpc (by decide)) rfl (fun h16 e16 => ?_)
      refine aw_aload_n (pc' := 50) dX12_feed_49 rfl rfl rfl ?_
      refine aw_dup (pc' := 51) dX12_feed_50 rfl rfl ?_
      refine aw_get clsAll (pc' := 54) dX12_feed_51 rfl fl_RX12_316 (gsn e16 (by decide) hm.1) rfl ?_
      refine aw_iconst (v := 1) (pc' := 55) dX12_feed_54 rfl (by decide) ?_
      refine aw_iadd (pc' := 56) dX12_feed_55 rfl ?_
      refine aw_topi (v := 1) (by decide) ?_
      refine aw_putG clsAll (pc' := 59) dX12_feed_56 rfl fl_RX12_316 (gsn e16 (by decide) hm.1) (Nat.le_of_ble_eq_true rfl) rfl (fun h17 e17 => ?_)
      refine aw_iinc (lv' := [_, _, _, _]) (pc' := 62) dX12_feed_59 rfl rfl (Nat.le_of_ble_eq_true rfl) rfl ?_
      refine aw_goto (tgt := 28) dX12_feed_62 (by decide) ?_
      refine aw_iload_n (pc' := 29) dX12_feed_28 rfl rfl ?_
      refine aw_iload_n (pc' := 30) dX12_feed_29 rfl rfl ?_
      refine aw_cge (tgt := 65) (pc' := 33) dX12_feed_30 (by decide) rfl (fun c => absurd (by decide) c) (fun _ => ?_)
      refine aw_aload_n (pc' := 34) dX12_feed_33 rfl rfl rfl ?_
      refine aw_get clsAll (pc' := 37) dX12_feed_34 rfl fl_RX12_96 (gss e17 (gsn e16 (by decide) hm.1)) rfl ?_
      refine aw_aload_n (pc' := 38) dX12_feed_37 rfl rfl rfl ?_
      refine aw_get clsAll (pc' := 41) dX12_feed_38 rfl fl_RX12_316 (gss e17 (gsn e16 (by decide) hm.1)) rfl ?_
      refine aw_iload_n (pc' := 42) dX12_feed_41 rfl rfl ?_
      refine aw_bipush (v := 8) (pc' := 44) dX12_feed_42 rfl (by decide) ?_
      refine aw_iload_n (pc' := 45) dX12_feed_44 rfl rfl ?_
      refine aw_imul (pc' := 46) dX12_feed_45 rfl ?_
      refine aw_topi (v := 8) (by decide) ?_
      refine aw_ishr (pc' := 47) dX12_feed_46 rfl ?_
      refine aw_i2b (pc' := 48) dX12_feed_47 rfl ?_
      refine aw_bastG (pc' := 49) dX12_feed_48 rfl (gsn e17 (by decide) (gss e16 ((hm.2 86 (by decide) (by decide)).trans h0_86))) (vpc (by decide)) rfl (fun h18 e18 => ?_)
      refine aw_aload_n (pc' := 50) dX12_feed_49 rfl rfl rfl ?_
      refine aw_dup (pc' := 51) dX12_feed_50 rfl rfl ?_
      refine aw_get clsAll (pc' := 54) dX12_feed_51 rfl fl_RX12_316 (gsn e18 (by decide) (gss e17 (gsn e16 (by decide) hm.1))) rfl ?_
      refine aw_iconst (v := 1) (pc' := 55) dX12_feed_54 rfl (by decide) ?_
      refine aw_iadd (pc' := 56) dX12_feed_55 rfl ?_
      refine aw_topi (v := 2) (by decide) ?_
      refine aw_putG clsAll (pc' := 59) dX12_feed_56 rfl fl_RX12_316 (gsn e18 (by decide) (gss e17 (gsn e16 (by decide) hm.1))) (Nat.le_of_ble_eq_true rfl) rfl (fun h19 e19 => ?_)
      refine aw_iinc (lv' := [_, _, _, _]) (pc' := 62) dX12_feed_59 rfl rfl (Nat.le_of_ble_eq_true rfl) rfl ?_
      refine aw_goto (tgt := 28) dX12_feed_62 (by decide) ?_
      refine aw_iload_n (pc' := 29) dX12_feed_28 rfl rfl ?_
      refine aw_iload_n (pc' := 30) dX12_feed_29 rfl rfl ?_
      refine aw_cge (tgt := 65) (pc' := 33) dX12_feed_30 (by decide) rfl (fun c => absurd (by decide) c) (fun _ => ?_)
      refine aw_aload_n (pc' := 34) dX12_feed_33 rfl rfl rfl ?_
      refine aw_get clsAll (pc' := 37) dX12_feed_34 rfl fl_RX12_96 (gss e19 (gsn e18 (by decide) (gss e17 (gsn e16 (by decide) hm.1)))) rfl ?_
      refine aw_aload_n (pc' := 38) dX12_feed_37 rfl rfl rfl ?_
      refine aw_get clsAll (pc' := 41) dX12_feed_38 rfl fl_RX12_316 (gss e19 (gsn e18 (by decide) (gss e17 (gsn e16 (by decide) hm.1)))) rfl ?_
      refine aw_iload_n (pc' := 42) dX12_feed_41 rfl rfl ?_
      refine aw_bipush (v := 8) (pc' := 44) dX12_feed_42 rfl (by decide) ?_
      refine aw_iload_n (pc' := 45) dX12_feed_44 rfl rfl ?_
      refine aw_imul (pc' := 46) dX12_feed_45 rfl ?_
      refine aw_topi (v := 16) (by decide) ?_
      refine aw_ishr (pc' := 47) dX12_feed_46 rfl ?_
      refine aw_i2b (pc' := 48) dX12_feed_47 rfl ?_
      refine aw_bastG (pc' := 49) dX12_feed_48 rfl (gsn e19 (by decide) (gss e18 (gsn e17 (by decide) (gss e16 ((hm.2 86 (by decide) (by decide)).trans h0_86))))) (vpc (by decide)) rfl (fun h20 e20 => ?_)
      refine aw_aload_n (pc' := 50) dX12_feed_49 rfl rfl rfl ?_
      refine aw_dup (pc' := 51) dX12_feed_50 rfl rfl ?_
      refine aw_get clsAll (pc' := 54) dX12_feed_51 rfl fl_RX12_316 (gsn e20 (by decide) (gss e19 (gsn e18 (by decide) (gss e17 (gsn e16 (by decide) hm.1))))) rfl ?_
      refine aw_iconst (v := 1) (pc' := 55) dX12_feed_54 rfl (by decide) ?_
      refine aw_iadd (pc' := 56) dX12_feed_55 rfl ?_
      refine aw_topi (v := 3) (by decide) ?_
      refine aw_putG clsAll (pc' := 59) dX12_feed_56 rfl fl_RX12_316 (gsn e20 (by decide) (gss e19 (gsn e18 (by decide) (gss e17 (gsn e16 (by decide) hm.1))))) (Nat.le_of_ble_eq_true rfl) rfl (fun h21 e21 => ?_)
      refine aw_iinc (lv' := [_, _, _, _]) (pc' := 62) dX12_feed_59 rfl rfl (Nat.le_of_ble_eq_true rfl) rfl ?_
      refine aw_goto (tgt := 28) dX12_feed_62 (by decide) ?_
      refine aw_iload_n (pc' := 29) dX12_feed_28 rfl rfl ?_
      refine aw_iload_n (pc' := 30) dX12_feed_29 rfl rfl ?_
      refine aw_cge (tgt := 65) (pc' := 33) dX12_feed_30 (by decide) rfl (fun _ => ?_) (fun c => absurd c (by decide))
      refine aw_aload_n (pc' := 66) dX12_feed_65 rfl rfl rfl ?_
      refine aw_get clsAll (pc' := 69) dX12_feed_66 rfl fl_RX12_316 (gss e21 (gsn e20 (by decide) (gss e19 (gsn e18 (by decide) (gss e17 (gsn e16 (by decide) hm.1)))))) rfl ?_
      exact aw_ri dX12_feed_69 rfl rfl (Nat.le_of_ble_eq_true rfl) (Nat.le_of_ble_eq_true rfl) (by first | (simp [sp_feed, cnd, okC, okS, okW_iff, okN_iff, inR]; done) | (simp_all [sp_feed, cnd, okC, okS, okW_iff, okN_iff, inR]; done) | skip)
    · refine aw_aload_n (pc' := 12) dX12_feed_11 rfl rfl rfl ?_
      refine aw_get clsAll (pc' := 15) dX12_feed_12 rfl fl_RX12_316 hm.1 rfl ?_
      refine aw_iload_n (pc' := 16) dX12_feed_15 rfl rfl ?_
      refine aw_iadd (pc' := 17) dX12_feed_16 rfl ?_
      refine aw_topi (v := 4) (by decide) ?_
      refine aw_sipush (v := 160) (pc' := 20) dX12_feed_17 rfl (by decide) ?_
      refine aw_cle (tgt := 26) (pc' := 23) dX12_feed_20 (by decide) rfl (fun _ => ?_) (fun c => absurd c (by decide))
      refine aw_iconst (v := 0) (pc' := 27) dX12_feed_26 rfl (by decide) ?_
      refine aw_istore_n (lv' := [_, _, _, _]) (pc' := 28) dX12_feed_27 rfl (Nat.le_of_ble_eq_true rfl) rfl ?_
      refine aw_iload_n (pc' := 29) dX12_feed_28 rfl rfl ?_
      refine aw_iload_n (pc' := 30) dX12_feed_29 rfl rfl ?_
      refine aw_cge (tgt := 65) (pc' := 33) dX12_feed_30 (by decide) rfl (fun c => absurd (by decide) c) (fun _ => ?_)
      refine aw_aload_n (pc' := 34) dX12_feed_33 rfl rfl rfl ?_
      refine aw_get clsAll (pc' := 37) dX12_feed_34 rfl fl_RX12_96 hm.1 rfl ?_
      refine aw_aload_n (pc' := 38) dX12_feed_37 rfl rfl rfl ?_
      refine aw_get clsAll (pc' := 41) dX12_feed_38 rfl fl_RX12_316 hm.1 rfl ?_
      refine aw_iload_n (pc' := 42) dX12_feed_41 rfl rfl ?_
      refine aw_bipush (v := 8) (pc' := 44) dX12_feed_42 rfl (by decide) ?_
      refine aw_iload_n (pc' := 45) dX12_feed_44 rfl rfl ?_
      refine aw_imul (pc' := 46) dX12_feed_45 rfl ?_
      refine aw_topi (v := 0) (by decide) ?_
      refine aw_ishr (pc' := 47) dX12_feed_46 rfl ?_
      refine aw_i2b (pc' := 48) dX12_feed_47 rfl ?_
      refine aw_bastG (pc' := 49) dX12_feed_48 rfl ((hm.2 86 (by decide) (by decide)).trans h0_86) (vpc (by decide)) rfl (fun h22 e22 => ?_)
      refine aw_aload_n (pc' := 50) dX12_feed_49 rfl rfl rfl ?_
      refine aw_dup (pc' := 51) dX12_feed_50 rfl rfl ?_
      refine aw_get clsAll (pc' := 54) dX12_feed_51 rfl fl_RX12_316 (gsn e22 (by decide) hm.1) rfl ?_
      refine aw_iconst (v := 1) (pc' := 55) dX12_feed_54 rfl (by decide) ?_
      refine aw_iadd (pc' := 56) dX12_feed_55 rfl ?_
      refine aw_topi (v := 1) (by decide) ?_
      refine aw_putG clsAll (pc' := 59) dX12_feed_56 rfl fl_RX12_316 (gsn e22 (by decide) hm.1) (Nat.le_of_ble_eq_true rfl) rfl (fun h23 e23 => ?_)
      refine aw_iinc (lv' := [_, _, _, _]) (pc' := 62) dX12_feed_59 rfl rfl (Nat.le_of_ble_eq_true rfl) rfl ?_
      refine aw_goto (tgt := 28) dX12_feed_62 (by decide) ?_
      refine aw_iload_n (pc' := 29) dX12_feed_28 rfl rfl ?_
      refine aw_iload_n (pc' := 30) dX12_feed_29 rfl rfl ?_
      refine aw_cge (tgt := 65) (pc' := 33) dX12_feed_30 (by decide) rfl (fun c => absurd (by decide) c) (fun _ => ?_)
      refine aw_aload_n (pc' := 34) dX12_feed_33 rfl rfl rfl ?_
      refine aw_get clsAll (pc' := 37) dX12_feed_34 rfl fl_RX12_96 (gss e23 (gsn e22 (by decide) hm.1)) rfl ?_
      refine aw_aload_n (pc' := 38) dX12_feed_37 rfl rfl rfl ?_
      refine aw_get clsAll (pc' := 41) dX12_feed_38 rfl fl_RX12_316 (gss e23 (gsn e22 (by decide) hm.1)) rfl ?_
      refine aw_iload_n (pc' := 42) dX12_feed_41 rfl rfl ?_
      refine aw_bipush (v := 8) (pc' := 44) dX12_feed_42 rfl (by decide) ?_
      refine aw_iload_n (pc' := 45) dX12_feed_44 rfl rfl ?_
      refine aw_imul (pc' := 46) dX12_feed_45 rfl ?_
      refine aw_topi (v := 8) (by decide) ?_
      refine aw_ishr (pc' := 47) dX12_feed_46 rfl ?_
      refine aw_i2b (pc' := 48) dX12_feed_47 rfl ?_
      refine aw_bastG (pc' := 49) dX12_feed_48 rfl (gsn e23 (by decide) (gss e22 ((hm.2 86 (by decide) (by decide)).trans h0_86))) (vpc (by decide)) rfl (fun h24 e24 => ?_)
      refine aw_aload_n (pc' := 50) dX12_feed_49 rfl rfl rfl ?_
      refine aw_dup (pc' := 51) dX12_feed_50 rfl rfl ?_
      refine aw_get clsAll (pc' := 54) dX12_feed_51 rfl fl_RX12_316 (gsn e24 (by decide) (gss e23 (gsn e22 (by decide) hm.1))) rfl ?_
      refine aw_iconst (v := 1) (pc' := 55) dX12_feed_54 rfl (by decide) ?_
      refine aw_iadd (pc' := 56) dX12_feed_55 rfl ?_
      refine aw_topi (v := 2) (by decide) ?_
      refine aw_putG clsAll (pc' := 59) dX12_feed_56 rfl fl_RX12_316 (gsn e24 (by decide) (gss e23 (gsn e22 (by decide) hm.1))) (Nat.le_of_ble_eq_true rfl) rfl (fun h25 e25 => ?_)
      refine aw_iinc (lv' := [_, _, _, _]) (pc' := 62) dX12_feed_59 rfl rfl (Nat.le_of_ble_eq_true rfl) rfl ?_
      refine aw_goto (tgt := 28) dX12_feed_62 (by decide) ?_
      refine aw_iload_n (pc' := 29) dX12_feed_28 rfl rfl ?_
      refine aw_iload_n (pc' := 30) dX12_feed_29 rfl rfl ?_
      refine aw_cge (tgt := 65) (pc' := 33) dX12_feed_30 (by decide) rfl (fun c => absurd (by decide) c) (fun _ => ?_)
      refine aw_aload_n (pc' := 34) dX12_feed_33 rfl rfl rfl ?_
      refine aw_get clsAll (pc' := 37) dX12_feed_34 rfl fl_RX12_96 (gss e25 (gsn e24 (by decide) (gss e23 (gsn e22 (by decide) hm.1)))) rfl ?_
      refine aw_aload_n (pc' := 38) dX12_feed_37 rfl rfl rfl ?_
      refine aw_get clsAll (pc' := 41) dX12_feed_38 rfl fl_RX12_316 (gss e25 (gsn e24 (by decide) (gss e23 (gsn e22 (by decide) hm.1)))) rfl ?_
      refine aw_iload_n (pc' := 42) dX12_feed_41 rfl rfl ?_
      refine aw_bipush (v := 8) (pc' := 44) dX12_feed_42 rfl (by decide) ?_
      refine aw_iload_n (pc' := 45) dX12_feed_44 rfl rfl ?_
      refine aw_imul (pc' := 46) dX12_feed_45 rfl ?_
      refine aw_topi (v := 16) (by decide) ?_
      refine aw_ishr (pc' := 47) dX12_feed_46 rfl ?_
      refine aw_i2b (pc' := 48) dX12_feed_47 rfl ?_
      refine aw_bastG (pc' := 49) dX12_feed_48 rfl (gsn e25 (by decide) (gss e24 (gsn e23 (by decide) (gss e22 ((hm.2 86 (by decide) (by decide)).trans h0_86))))) (vpc (by decide)) rfl (fun h26 e26 => ?_)
      refine aw_aload_n (pc' := 50) dX12_feed_49 rfl rfl rfl ?_
      refine aw_dup (pc' := 51) dX12_feed_50 rfl rfl ?_
      refine aw_get clsAll (pc' := 54) dX12_feed_51 rfl fl_RX12_316 (gsn e26 (by decide) (gss e25 (gsn e24 (by decide) (gss e23 (gsn e22 (by decide) hm.1))))) rfl ?_
      refine aw_iconst (v := 1) (pc' := 55) dX12_feed_54 rfl (by decide) ?_
      refine aw_iadd (pc' := 56) dX12_feed_55 rfl ?_
      refine aw_topi (v := 3) (by decide) ?_
      refine aw_putG clsAll (pc' := 59) dX12_feed_56 rfl fl_RX12_316 (gsn e26 (by decide) (gss e25 (gsn e24 (by decide) (gss e23 (gsn e22 (by decide) hm.1))))) (Nat.le_of_ble_eq_true rfl) rfl (fun h27 e27 => ?_)
      refine aw_iinc (lv' := [_, _, _, _]) (pc' := 62) dX12_feed_59 rfl rfl (Nat.le_of_ble_eq_true rfl) rfl ?_
      refine aw_goto (tgt := 28) dX12_feed_62 (by decide) ?_
      refine aw_iload_n (pc' := 29) dX12_feed_28 rfl rfl ?_
      refine aw_iload_n (pc' := 30) dX12_feed_29 rfl rfl ?_
      refine aw_cge (tgt := 65) (pc' := 33) dX12_feed_30 (by decide) rfl (fun c => absurd (by decide) c) (fun _ => ?_)
      refine aw_aload_n (pc' := 34) dX12_feed_33 rfl rfl rfl ?_
      refine aw_get clsAll (pc' := 37) dX12_feed_34 rfl fl_RX12_96 (gss e27 (gsn e26 (by decide) (gss e25 (gsn e24 (by decide) (gss e23 (gsn e22 (by decide) hm.1)))))) rfl ?_
      refine aw_aload_n (pc' := 38) dX12_feed_37 rfl rfl rfl ?_
      refine aw_get clsAll (pc' := 41) dX12_feed_38 rfl fl_RX12_316 (gss e27 (gsn e26 (by decide) (gss e25 (gsn e24 (by decide) (gss e23 (gsn e22 (by decide) hm.1)))))) rfl ?_
      refine aw_iload_n (pc' := 42) dX12_feed_41 rfl rfl ?_
      refine aw_bipush (v := 8) (pc' := 44) dX12_feed_42 rfl (by decide) ?_
      refine aw_iload_n (pc' := 45) dX12_feed_44 rfl rfl ?_
      refine aw_imul (pc' := 46) dX12_feed_45 rfl ?_
      refine aw_topi (v := 24) (by decide) ?_
      refine aw_ishr (pc' := 47) dX12_feed_46 rfl ?_
      refine aw_i2b (pc' := 48) dX12_feed_47 rfl ?_
      refine aw_bastG (pc' := 49) dX12_feed_48 rfl (gsn e27 (by decide) (gss e26 (gsn e25 (by decide) (gss e24 (gsn e23 (by decide) (gss e22 ((hm.2 86 (by decide) (by decide)).trans h0_86))))))) (vpc (by decide)) rfl (fun h28 e28 => ?_)
      refine aw_aload_n (pc' := 50) dX12_feed_49 rfl rfl rfl ?_
      refine aw_dup (pc' := 51) dX12_feed_50 rfl rfl ?_
      refine aw_get clsAll (pc' := 54) dX12_feed_51 rfl fl_RX12_316 (gsn e28 (by decide) (gss e27 (gsn e26 (by decide) (gss e25 (gsn e24 (by decide) (gss e23 (gsn e22 (by decide) hm.1))))))) rfl ?_
      refine aw_iconst (v := 1) (pc' := 55) dX12_feed_54 rfl (by decide) ?_
      refine aw_iadd (pc' := 56) dX12_feed_55 rfl ?_
      refine aw_topi (v := 4) (by decide) ?_
      refine aw_putG clsAll (pc' := 59) dX12_feed_56 rfl fl_RX12_316 (gsn e28 (by decide) (gss e27 (gsn e26 (by decide) (gss e25 (gsn e24 (by decide) (gss e23 (gsn e22 (by decide) hm.1))))))) (Nat.le_of_ble_eq_true rfl) rfl (fun h29 e29 => ?_)
      refine aw_iinc (lv' := [_, _, _, _]) (pc' := 62) dX12_feed_59 rfl rfl (Nat.le_of_ble_eq_true rfl) rfl ?_
      refine aw_goto (tgt := 28) dX12_feed_62 (by decide) ?_
      refine aw_iload_n (pc' := 29) dX12_feed_28 rfl rfl ?_
      refine aw_iload_n (pc' := 30) dX12_feed_29 rfl rfl ?_
      refine aw_cge (tgt := 65) (pc' := 33) dX12_feed_30 (by decide) rfl (fun _ => ?_) (fun c => absurd c (by decide))
      refine aw_aload_n (pc' := 66) dX12_feed_65 rfl rfl rfl ?_
      refine aw_get clsAll (pc' := 69) dX12_feed_66 rfl fl_RX12_316 (gss e29 (gsn e28 (by decide) (gss e27 (gsn e26 (by decide) (gss e25 (gsn e24 (by decide) (gss e23 (gsn e22 (by decide) hm.1)))))))) rfl ?_
      exact aw_ri dX12_feed_69 rfl rfl (Nat.le_of_ble_eq_true rfl) (Nat.le_of_ble_eq_true rfl) (by first | (simp [sp_feed, cnd, okC, okS, okW_iff, okN_iff, inR]; done) | (simp_all [sp_feed, cnd, okC, okS, okW_iff, okN_iff, inR]; done) | skip)
set_option maxRecDepth 4000 in
theorem m_text (h : List aE) (hm : Fm 0 h) (w : Int32) (t : Int32) : AM mX12_text 8 [.ref 67, .int w, .int t] h 0 0 (PI fun r h' => r = sp_text w t) := by
  refine am_of (lv := [some (.ref 67), some (.int w), some (.int t)]) rfl (Nat.le_of_ble_eq_true rfl) rfl ?_
  refine aw_iload_n (pc' := 1) dX12_text_0 rfl rfl ?_
  have cc1 : AM mX12_isWhat 1 [.int w] h 0 0 (PI fun r h' => (w < 0 ∧ 0 = r ∧ h = h') ∨ (¬ (w < 0) ∧ 12 < w ∧ 0 = r ∧ h = h') ∨ (¬ (w < 0) ∧ ¬ (12 < w) ∧ 2 < (w % 10) ∧ 0 = r ∧ h = h') ∨ (¬ (w < 0) ∧ ¬ (12 < w) ∧ ¬ (2 < (w % 10)) ∧ 1 = r ∧ h = h')) := by
    refine am_of (lv := [some (.int w)]) rfl (Nat.le_of_ble_eq_true rfl) rfl ?_
    refine aw_iload_n (pc' := 1) dX12_isWhat_0 rfl rfl ?_
    refine aw_iconst (v := 0) (pc' := 2) dX12_isWhat_1 rfl (by decide) ?_
    refine aw_bipush (v := 12) (pc' := 4) dX12_isWhat_2 rfl (by decide) ?_
    have cc2 : AM mX12_in 0 [.int w, .int 0, .int 12] h 0 0 (PI fun r h' => (w < 0 ∧ 0 = r ∧ h = h') ∨ (¬ (w < 0) ∧ 12 < w ∧ 0 = r ∧ h = h') ∨ (¬ (w < 0) ∧ ¬ (12 < w) ∧ 1 = r ∧ h = h')) := by
      refine am_of (lv := [some (.int w), some (.int 0), some (.int 12)]) rfl (Nat.le_of_ble_eq_true rfl) rfl ?_
      refine aw_iload_n (pc' := 1) dX12_in_0 rfl rfl ?_
      refine aw_iload_n (pc' := 2) dX12_in_1 rfl rfl ?_
      refine aw_clt (tgt := 14) (pc' := 5) dX12_in_2 (by decide) rfl (fun c3 => ?_) (fun c3 => ?_)
      · refine aw_iconst (v := 0) (pc' := 15) dX12_in_14 rfl (by decide) ?_
        exact aw_ri dX12_in_15 rfl (by decide) (Nat.le_of_ble_eq_true rfl) (Nat.le_of_ble_eq_true rfl) (Or.inl ⟨c3, rfl, rfl⟩)
      · refine aw_iload_n (pc' := 6) dX12_in_5 rfl rfl ?_
        refine aw_iload_n (pc' := 7) dX12_in_6 rfl rfl ?_
        refine aw_cgt (tgt := 14) (pc' := 10) dX12_in_7 (by decide) rfl (fun c4 => ?_) (fun c4 => ?_)
        · refine aw_iconst (v := 0) (pc' := 15) dX12_in_14 rfl (by decide) ?_
          exact aw_ri dX12_in_15 rfl (by decide) (Nat.le_of_ble_eq_true rfl) (Nat.le_of_ble_eq_true rfl) (Or.inr (Or.inl ⟨c3, c4, rfl, rfl⟩))
        · refine aw_iconst (v := 1) (pc' := 11) dX12_in_10 rfl (by decide) ?_
          refine aw_goto (tgt := 15) dX12_in_11 (by decide) ?_
          exact aw_ri dX12_in_15 rfl (by decide) (Nat.le_of_ble_eq_true rfl) (Nat.le_of_ble_eq_true rfl) (Or.inr (Or.inr ⟨c3, c4, rfl, rfl⟩))
    refine aw_callSi (M' := mX12_in) (nc' := 0) (ns' := 0) (pc' := 7) dX12_isWhat_4 rfl ml_RX12_230 kX12_in cc2 rfl rfl (Nat.le_of_ble_eq_true rfl) (rok rfl) rfl rfl (fun r10 h10 q10 => ?_)
    rcases q10 with ⟨c5, rfl, rfl⟩ | ⟨c6, c7, rfl, rfl⟩ | ⟨c8, c9, rfl, rfl⟩
    · refine aw_if_eq (tgt := 22) (pc' := 10) dX12_isWhat_7 (by decide) rfl (fun _ => ?_) (fun c => absurd (by decide) c)
      refine aw_iconst (v := 0) (pc' := 23) dX12_isWhat_22 rfl (by decide) ?_
      exact aw_ri dX12_isWhat_23 rfl (by decide) (Nat.le_of_ble_eq_true rfl) (Nat.le_of_ble_eq_true rfl) (Or.inl ⟨c5, rfl, rfl⟩)
    · refine aw_if_eq (tgt := 22) (pc' := 10) dX12_isWhat_7 (by decide) rfl (fun _ => ?_) (fun c => absurd (by decide) c)
      refine aw_iconst (v := 0) (pc' := 23) dX12_isWhat_22 rfl (by decide) ?_
      exact aw_ri dX12_isWhat_23 rfl (by decide) (Nat.le_of_ble_eq_true rfl) (Nat.le_of_ble_eq_true rfl) (Or.inr (Or.inl ⟨c6, c7, rfl, rfl⟩))
    · refine aw_if_eq (tgt := 22) (pc' := 10) dX12_isWhat_7 (by decide) rfl (fun c => absurd c (by decide)) (fun _ => ?_)
      refine aw_iload_n (pc' := 11) dX12_isWhat_10 rfl rfl ?_
      refine aw_bipush (v := 10) (pc' := 13) dX12_isWhat_11 rfl (by decide) ?_
      refine aw_irem (pc' := 14) dX12_isWhat_13 rfl (by decide) ?_
      refine aw_iconst (v := 2) (pc' := 15) dX12_isWhat_14 rfl (by decide) ?_
      refine aw_cgt (tgt := 22) (pc' := 18) dX12_isWhat_15 (by decide) rfl (fun c11 => ?_) (fun c11 => ?_)
      · refine aw_iconst (v := 0) (pc' := 23) dX12_isWhat_22 rfl (by decide) ?_
        exact aw_ri dX12_isWhat_23 rfl (by decide) (Nat.le_of_ble_eq_true rfl) (Nat.le_of_ble_eq_true rfl) (Or.inr (Or.inr (Or.inl ⟨c8, c9, c11, rfl, rfl⟩)))
      · refine aw_iconst (v := 1) (pc' := 19) dX12_isWhat_18 rfl (by decide) ?_
        refine aw_goto (tgt := 23) dX12_isWhat_19 (by decide) ?_
        exact aw_ri dX12_isWhat_23 rfl (by decide) (Nat.le_of_ble_eq_true rfl) (Nat.le_of_ble_eq_true rfl) (Or.inr (Or.inr (Or.inr ⟨c8, c9, c11, rfl, rfl⟩)))
  refine aw_callSi (M' := mX12_isWhat) (nc' := 0) (ns' := 0) (pc' := 4) dX12_text_1 rfl ml_RX12_370 kX12_isWhat cc1 rfl rfl (Nat.le_of_ble_eq_true rfl) (rok rfl) rfl rfl (fun r21 h21 q21 => ?_)
  rcases q21 with ⟨c12, rfl, rfl⟩ | ⟨c13, c14, rfl, rfl⟩ | ⟨c15, c16, c17, rfl, rfl⟩ | ⟨c18, c19, c20, rfl, rfl⟩
  · refine aw_if_eq (tgt := 21) (pc' := 7) dX12_text_4 (by decide) rfl (fun _ => ?_) (fun c => absurd (by decide) c)
    refine aw_iconst (v := (-1)) (pc' := 22) dX12_text_21 rfl (by decide) ?_
    exact aw_ri dX12_text_22 rfl rfl (Nat.le_of_ble_eq_true rfl) (Nat.le_of_ble_eq_true rfl) (by first | (simp [sp_text, cnd, okC, okS, okW_iff, okN_iff, inR, c12]; done) | (simp_all [sp_text, cnd, okC, okS, okW_iff, okN_iff, inR]; done) | skip)
  · refine aw_if_eq (tgt := 21) (pc' := 7) dX12_text_4 (by decide) rfl (fun _ => ?_) (fun c => absurd (by decide) c)
    refine aw_iconst (v := (-1)) (pc' := 22) dX12_text_21 rfl (by decide) ?_
    exact aw_ri dX12_text_22 rfl rfl (Nat.le_of_ble_eq_true rfl) (Nat.le_of_ble_eq_true rfl) (by first | (simp [sp_text, cnd, okC, okS, okW_iff, okN_iff, inR, c13, c14]; done) | (simp_all [sp_text, cnd, okC, okS, okW_iff, okN_iff, inR]; done) | skip)
  · refine aw_if_eq (tgt := 21) (pc' := 7) dX12_text_4 (by decide) rfl (fun _ => ?_) (fun c => absurd (by decide) c)
    refine aw_iconst (v := (-1)) (pc' := 22) dX12_text_21 rfl (by decide) ?_
    exact aw_ri dX12_text_22 rfl rfl (Nat.le_of_ble_eq_true rfl) (Nat.le_of_ble_eq_true rfl) (by first | (simp [sp_text, cnd, okC, okS, okW_iff, okN_iff, inR, c15, c16, c17]; done) | (simp_all [sp_text, cnd, okC, okS, okW_iff, okN_iff, inR]; done) | skip)
  · refine aw_if_eq (tgt := 21) (pc' := 7) dX12_text_4 (by decide) rfl (fun c => absurd c (by decide)) (fun _ => ?_)
    refine aw_iload_n (pc' := 8) dX12_text_7 rfl rfl ?_
    refine aw_aload_n (pc' := 9) dX12_text_8 rfl rfl rfl ?_
    refine aw_get clsAll (pc' := 12) dX12_text_9 rfl fl_RX12_281 hm.1 rfl ?_
    refine aw_sipush (v := 1699) (pc' := 15) dX12_text_12 rfl (by decide) ?_
    have cc22 : AM mX12_in 0 [.int t, .int 0, .int 1699] h 0 0 (PI fun r h' => (t < 0 ∧ 0 = r ∧ h = h') ∨ (¬ (t < 0) ∧ 1699 < t ∧ 0 = r ∧ h = h') ∨ (¬ (t < 0) ∧ ¬ (1699 < t) ∧ 1 = r ∧ h = h')) := by
      refine am_of (lv := [some (.int t), some (.int 0), some (.int 1699)]) rfl (Nat.le_of_ble_eq_true rfl) rfl ?_
      refine aw_iload_n (pc' := 1) dX12_in_0 rfl rfl ?_
      refine aw_iload_n (pc' := 2) dX12_in_1 rfl rfl ?_
      refine aw_clt (tgt := 14) (pc' := 5) dX12_in_2 (by decide) rfl (fun c23 => ?_) (fun c23 => ?_)
      · refine aw_iconst (v := 0) (pc' := 15) dX12_in_14 rfl (by decide) ?_
        exact aw_ri dX12_in_15 rfl (by decide) (Nat.le_of_ble_eq_true rfl) (Nat.le_of_ble_eq_true rfl) (Or.inl ⟨c23, rfl, rfl⟩)
      · refine aw_iload_n (pc' := 6) dX12_in_5 rfl rfl ?_
        refine aw_iload_n (pc' := 7) dX12_in_6 rfl rfl ?_
        refine aw_cgt (tgt := 14) (pc' := 10) dX12_in_7 (by decide) rfl (fun c24 => ?_) (fun c24 => ?_)
        · refine aw_iconst (v := 0) (pc' := 15) dX12_in_14 rfl (by decide) ?_
          exact aw_ri dX12_in_15 rfl (by decide) (Nat.le_of_ble_eq_true rfl) (Nat.le_of_ble_eq_true rfl) (Or.inr (Or.inl ⟨c23, c24, rfl, rfl⟩))
        · refine aw_iconst (v := 1) (pc' := 11) dX12_in_10 rfl (by decide) ?_
          refine aw_goto (tgt := 15) dX12_in_11 (by decide) ?_
          exact aw_ri dX12_in_15 rfl (by decide) (Nat.le_of_ble_eq_true rfl) (Nat.le_of_ble_eq_true rfl) (Or.inr (Or.inr ⟨c23, c24, rfl, rfl⟩))
    refine aw_callSi (M' := mX12_in) (nc' := 0) (ns' := 0) (pc' := 18) dX12_text_15 rfl ml_RX12_230 kX12_in cc22 rfl rfl (Nat.le_of_ble_eq_true rfl) (rok rfl) rfl rfl (fun r30 h30 q30 => ?_)
    rcases q30 with ⟨c25, rfl, rfl⟩ | ⟨c26, c27, rfl, rfl⟩ | ⟨c28, c29, rfl, rfl⟩
    · refine aw_if_ne (tgt := 23) (pc' := 21) dX12_text_18 (by decide) rfl (fun c => absurd (by decide) c) (fun _ => ?_)
      refine aw_iconst (v := (-1)) (pc' := 22) dX12_text_21 rfl (by decide) ?_
      exact aw_ri dX12_text_22 rfl rfl (Nat.le_of_ble_eq_true rfl) (Nat.le_of_ble_eq_true rfl) (by first | (simp [sp_text, cnd, okC, okS, okW_iff, okN_iff, inR, c18, c19, c20, c25]; done) | (simp_all [sp_text, cnd, okC, okS, okW_iff, okN_iff, inR]; done) | skip)
    · refine aw_if_ne (tgt := 23) (pc' := 21) dX12_text_18 (by decide) rfl (fun c => absurd (by decide) c) (fun _ => ?_)
      refine aw_iconst (v := (-1)) (pc' := 22) dX12_text_21 rfl (by decide) ?_
      exact aw_ri dX12_text_22 rfl rfl (Nat.le_of_ble_eq_true rfl) (Nat.le_of_ble_eq_true rfl) (by first | (simp [sp_text, cnd, okC, okS, okW_iff, okN_iff, inR, c18, c19, c20, c26, c27]; done) | (simp_all [sp_text, cnd, okC, okS, okW_iff, okN_iff, inR]; done) | skip)
    · refine aw_if_ne (tgt := 23) (pc' := 21) dX12_text_18 (by decide) rfl (fun _ => ?_) (fun c => absurd c (by decide))
      refine aw_aload_n (pc' := 24) dX12_text_23 rfl rfl rfl ?_
      refine aw_get clsAll (pc' := 27) dX12_text_24 rfl fl_RX12_373 hm.1 rfl ?_
      refine aw_bipush (v := 16) (pc' := 29) dX12_text_27 rfl (by decide) ?_
      refine aw_icmp_ne (tgt := 35) (pc' := 32) dX12_text_29 (by decide) rfl (fun _ => ?_) (fun c => absurd c (by decide))
      refine aw_aload_n (pc' := 36) dX12_text_35 rfl rfl rfl ?_
      refine aw_aload_n (pc' := 37) dX12_text_36 rfl rfl rfl ?_
      refine aw_get clsAll (pc' := 40) dX12_text_37 rfl fl_RX12_373 hm.1 rfl ?_
      refine aw_putG clsAll (pc' := 43) dX12_text_40 rfl fl_RX12_325 hm.1 (Nat.le_of_ble_eq_true rfl) rfl (fun h31 e31 => ?_)
      refine aw_aload_n (pc' := 44) dX12_text_43 rfl rfl rfl ?_
      refine aw_get clsAll (pc' := 47) dX12_text_44 rfl fl_RX12_109 (gss e31 hm.1) rfl ?_
      refine aw_aload_n (pc' := 48) dX12_text_47 rfl rfl rfl ?_
      refine aw_get clsAll (pc' := 51) dX12_text_48 rfl fl_RX12_325 (gss e31 hm.1) rfl ?_
      refine aw_iconst (v := 0) (pc' := 52) dX12_text_51 rfl (by decide) ?_
      refine aw_iastG (pc' := 53) dX12_text_52 rfl (gsn e31 (by decide) ((hm.2 90 (by decide) (by decide)).trans h0_90)) (vpc (by decide)) (fun h32 e32 => ?_)
      refine aw_aload_n (pc' := 54) dX12_text_53 rfl rfl rfl ?_
      refine aw_iconst (v := 0) (pc' := 55) dX12_text_54 rfl (by decide) ?_
      refine aw_putG clsAll (pc' := 58) dX12_text_55 rfl fl_RX12_328 (gsn e32 (by decide) (gss e31 hm.1)) (Nat.le_of_ble_eq_true rfl) rfl (fun h33 e33 => ?_)
      refine aw_aload_n (pc' := 59) dX12_text_58 rfl rfl rfl ?_
      refine aw_iconst (v := 0) (pc' := 60) dX12_text_59 rfl (by decide) ?_
      refine aw_putG clsAll (pc' := 63) dX12_text_60 rfl fl_RX12_319 (gss e33 (gsn e32 (by decide) (gss e31 hm.1))) (Nat.le_of_ble_eq_true rfl) rfl (fun h34 e34 => ?_)
      refine aw_aload_n (pc' := 64) dX12_text_63 rfl rfl rfl ?_
      refine aw_iconst (v := (-1)) (pc' := 65) dX12_text_64 rfl (by decide) ?_
      refine aw_putG clsAll (pc' := 68) dX12_text_65 rfl fl_RX12_322 (gss e34 (gss e33 (gsn e32 (by decide) (gss e31 hm.1)))) (Nat.le_of_ble_eq_true rfl) rfl (fun h35 e35 => ?_)
      refine aw_aload_n (pc' := 69) dX12_text_68 rfl rfl rfl ?_
      refine aw_iconst (v := 0) (pc' := 70) dX12_text_69 rfl (by decide) ?_
      refine aw_putG clsAll (pc' := 73) dX12_text_70 rfl fl_RX12_331 (gss e35 (gss e34 (gss e33 (gsn e32 (by decide) (gss e31 hm.1))))) (Nat.le_of_ble_eq_true rfl) rfl (fun h36 e36 => ?_)
      refine aw_aload_n (pc' := 74) dX12_text_73 rfl rfl rfl ?_
      have cc37 : AM mX12_readLine 7 [.ref 67] h36 0 0 (PV fun h' => (∃ h73 : List aE, h36.set 59 (.inr (12, [.int 0, .int 0, .ref 68, .ref 69, .int 0, .ref 70, .ref 71, .ref 72, .ref 73, .ref 74, .ref 75, .ref 76, .ref 77, .ref 78, .ref 79, .ref 80, .ref 81, .ref 82, .ref 83, .ref 84, .ref 85, .int (-1), .int 0, .int 0, .int 0, .int 0, .ref 86, .ref 87, .ref 88, .int 2, .int 0, .ref 89, .ref 90, .ref 91, .ref 92, .ref 93, .ref 94, .int 0, .int 0, .ref 95, .ref 96, .ref 97, .ref 98, .ref 99, .ref 100, .ref 101, .ref 102, .int 0, .int 0, .int 0, .int 0, .int 0, .ref 103, .ref 104, .int 0, .int 0, .int 0, .ref 105, .ref 106, .ref 107, .ref 108, .ref 109, .int 0, .ref 110, .ref 111, .ref 112, .ref 113, .int 0, .ref 114, .ref 115, .ref 116, .ref 117, .int (-1), .ref 118, .int (-1), .ref 119, .int 0, .ref 120, .ref 121, .int 0, .ref 122, .ref 123, .int (-1), .int 0, .ref 124, .ref 125, .ref 126, .int 0, .ref 127, .ref 128, .ref 129, .ref 130, .ref 131, .ref 132, .ref 133])) = h73 ∧ ∃ h74 : List aE, h73.set 91 (.inl (0, 1530, .inl (upd (fun _ => 0) (0 : Int32).toNatClampNeg 0))) = h74 ∧ ∃ h75 : List aE, h74.set 92 (.inl (0, 1530, .inl (upd (fun _ => 0) (0 : Int32).toNatClampNeg 0))) = h75 ∧ ∃ h76 : List aE, h75.set 90 (.inl (0, 17, .inl (upd (upd (fun _ => 0) (0 : Int32).toNatClampNeg 0) (0 : Int32).toNatClampNeg 1))) = h76 ∧ h76 = h')) := by
        refine am_of (lv := [some (.ref 67), none, none]) rfl (Nat.le_of_ble_eq_true rfl) rfl ?_
        refine aw_bipush (v := 90) (pc' := 2) dX12_readLine_0 rfl (by decide) ?_
        refine aw_aload_n (pc' := 3) dX12_readLine_2 rfl rfl rfl ?_
        refine aw_get clsAll (pc' := 6) dX12_readLine_3 rfl fl_RX12_325 (gss e36 (gss e35 (gss e34 (gss e33 (gsn e32 (by decide) (gss e31 hm.1)))))) rfl ?_
        refine aw_imul (pc' := 7) dX12_readLine_6 rfl ?_
        refine aw_topi (v := 0) (by decide) ?_
        refine aw_aload_n (pc' := 8) dX12_readLine_7 rfl rfl rfl ?_
        refine aw_get clsAll (pc' := 11) dX12_readLine_8 rfl fl_RX12_109 (gss e36 (gss e35 (gss e34 (gss e33 (gsn e32 (by decide) (gss e31 hm.1)))))) rfl ?_
        refine aw_aload_n (pc' := 12) dX12_readLine_11 rfl rfl rfl ?_
        refine aw_get clsAll (pc' := 15) dX12_readLine_12 rfl fl_RX12_325 (gss e36 (gss e35 (gss e34 (gss e33 (gsn e32 (by decide) (gss e31 hm.1)))))) rfl ?_
        refine aw_iald (v := 0) (pc' := 16) dX12_readLine_15 rfl (gsn e36 (by decide) (gsn e35 (by decide) (gsn e34 (by decide) (gsn e33 (by decide) (gss e32 (gsn e31 (by decide) ((hm.2 90 (by decide) (by decide)).trans h0_90))))))) (vpc (by decide)) rfl ?_
        refine aw_iadd (pc' := 17) dX12_readLine_16 rfl ?_
        refine aw_topi (v := 0) (by decide) ?_
        refine aw_istore_n (lv' := [_, _, _]) (pc' := 18) dX12_readLine_17 rfl (Nat.le_of_ble_eq_true rfl) rfl ?_
        refine aw_aload_n (pc' := 19) dX12_readLine_18 rfl rfl rfl ?_
        refine aw_get clsAll (pc' := 22) dX12_readLine_19 rfl fl_RX12_328 (gss e36 (gss e35 (gss e34 (gss e33 (gsn e32 (by decide) (gss e31 hm.1)))))) rfl ?_
        refine aw_istore_n (lv' := [_, _, _]) (pc' := 23) dX12_readLine_22 rfl (Nat.le_of_ble_eq_true rfl) rfl ?_
        refine aw_aload_n (pc' := 24) dX12_readLine_23 rfl rfl rfl ?_
        have cc38 : AM mX12_either 6 [.ref 67] h36 0 0 (PV fun h' => (∃ h68 : List aE, h36.set 59 (.inr (12, [.int 0, .int 0, .ref 68, .ref 69, .int 0, .ref 70, .ref 71, .ref 72, .ref 73, .ref 74, .ref 75, .ref 76, .ref 77, .ref 78, .ref 79, .ref 80, .ref 81, .ref 82, .ref 83, .ref 84, .ref 85, .int (-1), .int 0, .int 0, .int 0, .int 0, .ref 86, .ref 87, .ref 88, .int 2, .int 0, .ref 89, .ref 90, .ref 91, .ref 92, .ref 93, .ref 94, .int 0, .int 0, .ref 95, .ref 96, .ref 97, .ref 98, .ref 99, .ref 100, .ref 101, .ref 102, .int 0, .int 0, .int 0, .int 0, .int 0, .ref 103, .ref 104, .int 0, .int 0, .int 0, .ref 105, .ref 106, .ref 107, .ref 108, .ref 109, .int 0, .ref 110, .ref 111, .ref 112, .ref 113, .int 0, .ref 114, .ref 115, .ref 116, .ref 117, .int (-1), .ref 118, .int (-1), .ref 119, .int 0, .ref 120, .ref 121, .int 0, .ref 122, .ref 123, .int (-1), .int 0, .ref 124, .ref 125, .ref 126, .int 0, .ref 127, .ref 128, .ref 129, .ref 130, .ref 131, .ref 132, .ref 133])) = h68 ∧ h68 = h')) := by
          refine am_of (lv := [some (.ref 67)]) rfl (Nat.le_of_ble_eq_true rfl) rfl ?_
          refine aw_aload_n (pc' := 1) dX12_either_0 rfl rfl rfl ?_
          have cc39 : AM mX12_all 5 [.ref 67] h36 0 0 (PV fun h' => (∃ h66 : List aE, h36.set 59 (.inr (12, [.int 0, .int 0, .ref 68, .ref 69, .int 0, .ref 70, .ref 71, .ref 72, .ref 73, .ref 74, .ref 75, .ref 76, .ref 77, .ref 78, .ref 79, .ref 80, .ref 81, .ref 82, .ref 83, .ref 84, .ref 85, .int (-1), .int 0, .int 0, .int 0, .int 0, .ref 86, .ref 87, .ref 88, .int 2, .int 0, .ref 89, .ref 90, .ref 91, .ref 92, .ref 93, .ref 94, .int 0, .int 0, .ref 95, .ref 96, .ref 97, .ref 98, .ref 99, .ref 100, .ref 101, .ref 102, .int 0, .int 0, .int 0, .int 0, .int 0, .ref 103, .ref 104, .int 0, .int 0, .int 0, .ref 105, .ref 106, .ref 107, .ref 108, .ref 109, .int 0, .ref 110, .ref 111, .ref 112, .ref 113, .int 0, .ref 114, .ref 115, .ref 116, .ref 117, .int (-1), .ref 118, .int (-1), .ref 119, .int 0, .ref 120, .ref 121, .int 0, .ref 122, .ref 123, .int (-1), .int 0, .ref 124, .ref 125, .ref 126, .int 0, .ref 127, .ref 128, .ref 129, .ref 130, .ref 131, .ref 132, .ref 133])) = h66 ∧ h66 = h')) := by
            refine am_of (lv := [some (.ref 67)]) rfl (Nat.le_of_ble_eq_true rfl) rfl ?_
            refine aw_aload_n (pc' := 1) dX12_all_0 rfl rfl rfl ?_
            have cc40 : AM mX12_compared 4 [.ref 67] h36 0 0 (PV fun h' => (∃ h64 : List aE, h36.set 59 (.inr (12, [.int 0, .int 0, .ref 68, .ref 69, .int 0, .ref 70, .ref 71, .ref 72, .ref 73, .ref 74, .ref 75, .ref 76, .ref 77, .ref 78, .ref 79, .ref 80, .ref 81, .ref 82, .ref 83, .ref 84, .ref 85, .int (-1), .int 0, .int 0, .int 0, .int 0, .ref 86, .ref 87, .ref 88, .int 2, .int 0, .ref 89, .ref 90, .ref 91, .ref 92, .ref 93, .ref 94, .int 0, .int 0, .ref 95, .ref 96, .ref 97, .ref 98, .ref 99, .ref 100, .ref 101, .ref 102, .int 0, .int 0, .int 0, .int 0, .int 0, .ref 103, .ref 104, .int 0, .int 0, .int 0, .ref 105, .ref 106, .ref 107, .ref 108, .ref 109, .int 0, .ref 110, .ref 111, .ref 112, .ref 113, .int 0, .ref 114, .ref 115, .ref 116, .ref 117, .int (-1), .ref 118, .int (-1), .ref 119, .int 0, .ref 120, .ref 121, .int 0, .ref 122, .ref 123, .int (-1), .int 0, .ref 124, .ref 125, .ref 126, .int 0, .ref 127, .ref 128, .ref 129, .ref 130, .ref 131, .ref 132, .ref 133])) = h64 ∧ h64 = h')) := by
              refine am_of (lv := [some (.ref 67), none]) rfl (Nat.le_of_ble_eq_true rfl) rfl ?_
              refine aw_aload_n (pc' := 1) dX12_compared_0 rfl rfl rfl ?_
              have cc41 : AM mX12_sum 3 [.ref 67] h36 0 0 (PV fun h' => (∃ h60 : List aE, h36.set 59 (.inr (12, [.int 0, .int 0, .ref 68, .ref 69, .int 0, .ref 70, .ref 71, .ref 72, .ref 73, .ref 74, .ref 75, .ref 76, .ref 77, .ref 78, .ref 79, .ref 80, .ref 81, .ref 82, .ref 83, .ref 84, .ref 85, .int (-1), .int 0, .int 0, .int 0, .int 0, .ref 86, .ref 87, .ref 88, .int 2, .int 0, .ref 89, .ref 90, .ref 91, .ref 92, .ref 93, .ref 94, .int 0, .int 0, .ref 95, .ref 96, .ref 97, .ref 98, .ref 99, .ref 100, .ref 101, .ref 102, .int 0, .int 0, .int 0, .int 0, .int 0, .ref 103, .ref 104, .int 0, .int 0, .int 0, .ref 105, .ref 106, .ref 107, .ref 108, .ref 109, .int 0, .ref 110, .ref 111, .ref 112, .ref 113, .int 0, .ref 114, .ref 115, .ref 116, .ref 117, .int (-1), .ref 118, .int (-1), .ref 119, .int 0, .ref 120, .ref 121, .int 0, .ref 122, .ref 123, .int (-1), .int 0, .ref 124, .ref 125, .ref 126, .int 0, .ref 127, .ref 128, .ref 129, .ref 130, .ref 131, .ref 132, .ref 133])) = h60 ∧ h60 = h')) := by
                refine am_of (lv := [some (.ref 67), none]) rfl (Nat.le_of_ble_eq_true rfl) rfl ?_
                refine aw_aload_n (pc' := 1) dX12_sum_0 rfl rfl rfl ?_
                have cc42 : AM mX12_product 2 [.ref 67] h36 0 0 (PV fun h' => (∃ h58 : List aE, h36.set 59 (.inr (12, [.int 0, .int 0, .ref 68, .ref 69, .int 0, .ref 70, .ref 71, .ref 72, .ref 73, .ref 74, .ref 75, .ref 76, .ref 77, .ref 78, .ref 79, .ref 80, .ref 81, .ref 82, .ref 83, .ref 84, .ref 85, .int (-1), .int 0, .int 0, .int 0, .int 0, .ref 86, .ref 87, .ref 88, .int 2, .int 0, .ref 89, .ref 90, .ref 91, .ref 92, .ref 93, .ref 94, .int 0, .int 0, .ref 95, .ref 96, .ref 97, .ref 98, .ref 99, .ref 100, .ref 101, .ref 102, .int 0, .int 0, .int 0, .int 0, .int 0, .ref 103, .ref 104, .int 0, .int 0, .int 0, .ref 105, .ref 106, .ref 107, .ref 108, .ref 109, .int 0, .ref 110, .ref 111, .ref 112, .ref 113, .int 0, .ref 114, .ref 115, .ref 116, .ref 117, .int (-1), .ref 118, .int (-1), .ref 119, .int 0, .ref 120, .ref 121, .int 0, .ref 122, .ref 123, .int (-1), .int 0, .ref 124, .ref 125, .ref 126, .int 0, .ref 127, .ref 128, .ref 129, .ref 130, .ref 131, .ref 132, .ref 133])) = h58 ∧ h58 = h')) := by
                  refine am_of (lv := [some (.ref 67), none]) rfl (Nat.le_of_ble_eq_true rfl) rfl ?_
                  refine aw_aload_n (pc' := 1) dX12_product_0 rfl rfl rfl ?_
                  have cc43 : AM mX12_operand 1 [.ref 67] h36 0 0 (PV fun h' => (∃ h56 : List aE, h36.set 59 (.inr (12, [.int 0, .int 0, .ref 68, .ref 69, .int 0, .ref 70, .ref 71, .ref 72, .ref 73, .ref 74, .ref 75, .ref 76, .ref 77, .ref 78, .ref 79, .ref 80, .ref 81, .ref 82, .ref 83, .ref 84, .ref 85, .int (-1), .int 0, .int 0, .int 0, .int 0, .ref 86, .ref 87, .ref 88, .int 2, .int 0, .ref 89, .ref 90, .ref 91, .ref 92, .ref 93, .ref 94, .int 0, .int 0, .ref 95, .ref 96, .ref 97, .ref 98, .ref 99, .ref 100, .ref 101, .ref 102, .int 0, .int 0, .int 0, .int 0, .int 0, .ref 103, .ref 104, .int 0, .int 0, .int 0, .ref 105, .ref 106, .ref 107, .ref 108, .ref 109, .int 0, .ref 110, .ref 111, .ref 112, .ref 113, .int 0, .ref 114, .ref 115, .ref 116, .ref 117, .int (-1), .ref 118, .int (-1), .ref 119, .int 0, .ref 120, .ref 121, .int 0, .ref 122, .ref 123, .int (-1), .int 0, .ref 124, .ref 125, .ref 126, .int 0, .ref 127, .ref 128, .ref 129, .ref 130, .ref 131, .ref 132, .ref 133])) = h56 ∧ h56 = h')) := by
                    refine am_of (lv := [some (.ref 67), none, none, none]) rfl (Nat.le_of_ble_eq_true rfl) rfl ?_
                    refine aw_aload_n (pc' := 1) dX12_operand_0 rfl rfl rfl ?_
                    have cc44 : AM mX12_look 0 [.ref 67] h36 0 0 (PI fun r h' => ((-1) = r ∧ h36 = h')) := by
                      refine am_of (lv := [some (.ref 67)]) rfl (Nat.le_of_ble_eq_true rfl) rfl ?_
                      refine aw_aload_n (pc' := 1) dX12_look_0 rfl rfl rfl ?_
                      refine aw_get clsAll (pc' := 4) dX12_look_1 rfl fl_RX12_319 (gss e36 (gss e35 (gss e34 (gss e33 (gsn e32 (by decide) (gss e31 hm.1)))))) rfl ?_
                      refine aw_aload_n (pc' := 5) dX12_look_4 rfl rfl rfl ?_
                      refine aw_get clsAll (pc' := 8) dX12_look_5 rfl fl_RX12_316 (gss e36 (gss e35 (gss e34 (gss e33 (gsn e32 (by decide) (gss e31 hm.1)))))) rfl ?_
                      refine aw_cge (tgt := 23) (pc' := 11) dX12_look_8 (by decide) rfl (fun _ => ?_) (fun c => absurd c (by decide))
                      refine aw_iconst (v := (-1)) (pc' := 24) dX12_look_23 rfl (by decide) ?_
                      exact aw_ri dX12_look_24 rfl rfl (Nat.le_of_ble_eq_true rfl) (Nat.le_of_ble_eq_true rfl) ⟨rfl, rfl⟩
                    refine aw_callVi (M' := mX12_look) (nc' := 0) (ns' := 0) (pc' := 4) dX12_operand_1 rfl ml_RX12_337 kX12_look cc44 (gss e36 (gss e35 (gss e34 (gss e33 (gsn e32 (by decide) (gss e31 hm.1)))))) rfl rfl rfl (Nat.le_of_ble_eq_true rfl) (rok rfl) rfl rfl (fun r45 h45 q45 => ?_)
                    obtain ⟨rfl, rfl⟩ := q45
                    refine aw_istore_n (lv' := [_, _, _, _]) (pc' := 5) dX12_operand_4 rfl (Nat.le_of_ble_eq_true rfl) rfl ?_
                    refine aw_iload_n (pc' := 6) dX12_operand_5 rfl rfl ?_
                    have cc46 : AM mX12_nameOf 0 [.int (-1)] h36 0 0 (PI fun r h' => ((-1) = r ∧ h36 = h')) := by
                      refine am_of (lv := [some (.int (-1))]) rfl (Nat.le_of_ble_eq_true rfl) rfl ?_
                      refine aw_iload_n (pc' := 1) dX12_nameOf_0 rfl rfl ?_
                      refine aw_tabOut (tgt := 102) dX12_nameOf_1 (by decide) (by decide) ?_
                      refine aw_iconst (v := (-1)) (pc' := 103) dX12_nameOf_102 rfl (by decide) ?_
                      exact aw_ri dX12_nameOf_103 rfl rfl (Nat.le_of_ble_eq_true rfl) (Nat.le_of_ble_eq_true rfl) ⟨rfl, rfl⟩
                    refine aw_callSi (M' := mX12_nameOf) (nc' := 0) (ns' := 0) (pc' := 9) dX12_operand_6 rfl ml_RX12_341 kX12_nameOf cc46 rfl rfl (Nat.le_of_ble_eq_true rfl) (rok rfl) rfl rfl (fun r47 h47 q47 => ?_)
                    obtain ⟨rfl, rfl⟩ := q47
                    refine aw_zlt (tgt := 32) (pc' := 12) dX12_operand_9 (by decide) rfl (fun _ => ?_) (fun c => absurd (by decide) c)
                    refine aw_iload_n (pc' := 33) dX12_operand_32 rfl rfl ?_
                    refine aw_bipush (v := 33) (pc' := 35) dX12_operand_33 rfl (by decide) ?_
                    refine aw_icmp_eq (tgt := 44) (pc' := 38) dX12_operand_35 (by decide) rfl (fun c => absurd c (by decide)) (fun _ => ?_)
                    refine aw_iload_n (pc' := 39) dX12_operand_38 rfl rfl ?_
                    refine aw_bipush (v := 45) (pc' := 41) dX12_operand_39 rfl (by decide) ?_
                    refine aw_icmp_ne (tgt := 83) (pc' := 44) dX12_operand_41 (by decide) rfl (fun _ => ?_) (fun c => absurd c (by decide))
                    refine aw_iload_n (pc' := 84) dX12_operand_83 rfl rfl ?_
                    refine aw_bipush (v := 40) (pc' := 86) dX12_operand_84 rfl (by decide) ?_
                    refine aw_icmp_ne (tgt := 144) (pc' := 89) dX12_operand_86 (by decide) rfl (fun _ => ?_) (fun c => absurd c (by decide))
                    refine aw_iconst (v := 0) (pc' := 145) dX12_operand_144 rfl (by decide) ?_
                    refine aw_istore_n (lv' := [_, _, _, _]) (pc' := 146) dX12_operand_145 rfl (Nat.le_of_ble_eq_true rfl) rfl ?_
                    refine aw_iconst (v := 0) (pc' := 147) dX12_operand_146 rfl (by decide) ?_
                    refine aw_istore_n (lv' := [_, _, _, _]) (pc' := 148) dX12_operand_147 rfl (Nat.le_of_ble_eq_true rfl) rfl ?_
                    refine aw_iload_n (pc' := 149) dX12_operand_148 rfl rfl ?_
                    refine aw_iconst (v := 5) (pc' := 150) dX12_operand_149 rfl (by decide) ?_
                    refine aw_cge (tgt := 196) (pc' := 153) dX12_operand_150 (by decide) rfl (fun c => absurd (by decide) c) (fun _ => ?_)
                    refine aw_aload_n (pc' := 154) dX12_operand_153 rfl rfl rfl ?_
                    have cc48 : AM mX12_look 0 [.ref 67] h36 0 0 (PI fun r h' => ((-1) = r ∧ h36 = h')) := by
                      refine am_of (lv := [some (.ref 67)]) rfl (Nat.le_of_ble_eq_true rfl) rfl ?_
                      refine aw_aload_n (pc' := 1) dX12_look_0 rfl rfl rfl ?_
                      refine aw_get clsAll (pc' := 4) dX12_look_1 rfl fl_RX12_319 (gss e36 (gss e35 (gss e34 (gss e33 (gsn e32 (by decide) (gss e31 hm.1)))))) rfl ?_
                      refine aw_aload_n (pc' := 5) dX12_look_4 rfl rfl rfl ?_
                      refine aw_get clsAll (pc' := 8) dX12_look_5 rfl fl_RX12_316 (gss e36 (gss e35 (gss e34 (gss e33 (gsn e32 (by decide) (gss e31 hm.1)))))) rfl ?_
                      refine aw_cge (tgt := 23) (pc' := 11) dX12_look_8 (by decide) rfl (fun _ => ?_) (fun c => absurd c (by decide))
                      refine aw_iconst (v := (-1)) (pc' := 24) dX12_look_23 rfl (by decide) ?_
                      exact aw_ri dX12_look_24 rfl rfl (Nat.le_of_ble_eq_true rfl) (Nat.le_of_ble_eq_true rfl) ⟨rfl, rfl⟩
                    refine aw_callVi (M' := mX12_look) (nc' := 0) (ns' := 0) (pc' := 157) dX12_operand_154 rfl ml_RX12_337 kX12_look cc48 (gss e36 (gss e35 (gss e34 (gss e33 (gsn e32 (by decide) (gss e31 hm.1)))))) rfl rfl rfl (Nat.le_of_ble_eq_true rfl) (rok rfl) rfl rfl (fun r49 h49 q49 => ?_)
                    obtain ⟨rfl, rfl⟩ := q49
                    refine aw_bipush (v := 48) (pc' := 159) dX12_operand_157 rfl (by decide) ?_
                    refine aw_bipush (v := 57) (pc' := 161) dX12_operand_159 rfl (by decide) ?_
                    have cc50 : AM mX12_in 0 [.int (-1), .int 48, .int 57] h36 0 0 (PI fun r h' => (0 = r ∧ h36 = h')) := by
                      refine am_of (lv := [some (.int (-1)), some (.int 48), some (.int 57)]) rfl (Nat.le_of_ble_eq_true rfl) rfl ?_
                      refine aw_iload_n (pc' := 1) dX12_in_0 rfl rfl ?_
                      refine aw_iload_n (pc' := 2) dX12_in_1 rfl rfl ?_
                      refine aw_clt (tgt := 14) (pc' := 5) dX12_in_2 (by decide) rfl (fun _ => ?_) (fun c => absurd (by decide) c)
                      refine aw_iconst (v := 0) (pc' := 15) dX12_in_14 rfl (by decide) ?_
                      exact aw_ri dX12_in_15 rfl (by decide) (Nat.le_of_ble_eq_true rfl) (Nat.le_of_ble_eq_true rfl) ⟨rfl, rfl⟩
                    refine aw_callSi (M' := mX12_in) (nc' := 0) (ns' := 0) (pc' := 164) dX12_operand_161 rfl ml_RX12_230 kX12_in cc50 rfl rfl (Nat.le_of_ble_eq_true rfl) (rok rfl) rfl rfl (fun r51 h51 q51 => ?_)
                    obtain ⟨rfl, rfl⟩ := q51
                    refine aw_if_eq (tgt := 196) (pc' := 167) dX12_operand_164 (by decide) rfl (fun _ => ?_) (fun c => absurd (by decide) c)
                    refine aw_iload_n (pc' := 197) dX12_operand_196 rfl rfl ?_
                    refine aw_if_eq (tgt := 214) (pc' := 200) dX12_operand_197 (by decide) rfl (fun _ => ?_) (fun c => absurd (by decide) c)
                    refine aw_aload_n (pc' := 215) dX12_operand_214 rfl rfl rfl ?_
                    have cc52 : AM mX12_faultHere 0 [.ref 67] h36 0 0 (PV fun h' => (∃ h54 : List aE, h36.set 59 (.inr (12, [.int 0, .int 0, .ref 68, .ref 69, .int 0, .ref 70, .ref 71, .ref 72, .ref 73, .ref 74, .ref 75, .ref 76, .ref 77, .ref 78, .ref 79, .ref 80, .ref 81, .ref 82, .ref 83, .ref 84, .ref 85, .int (-1), .int 0, .int 0, .int 0, .int 0, .ref 86, .ref 87, .ref 88, .int 2, .int 0, .ref 89, .ref 90, .ref 91, .ref 92, .ref 93, .ref 94, .int 0, .int 0, .ref 95, .ref 96, .ref 97, .ref 98, .ref 99, .ref 100, .ref 101, .ref 102, .int 0, .int 0, .int 0, .int 0, .int 0, .ref 103, .ref 104, .int 0, .int 0, .int 0, .ref 105, .ref 106, .ref 107, .ref 108, .ref 109, .int 0, .ref 110, .ref 111, .ref 112, .ref 113, .int 0, .ref 114, .ref 115, .ref 116, .ref 117, .int (-1), .ref 118, .int (-1), .ref 119, .int 0, .ref 120, .ref 121, .int 0, .ref 122, .ref 123, .int (-1), .int 0, .ref 124, .ref 125, .ref 126, .int 0, .ref 127, .ref 128, .ref 129, .ref 130, .ref 131, .ref 132, .ref 133])) = h54 ∧ h54 = h')) := by
                      refine am_of (lv := [some (.ref 67)]) rfl (Nat.le_of_ble_eq_true rfl) rfl ?_
                      refine aw_aload_n (pc' := 1) dX12_faultHere_0 rfl rfl rfl ?_
                      refine aw_get clsAll (pc' := 4) dX12_faultHere_1 rfl fl_RX12_322 (gss e36 (gss e35 (gss e34 (gss e33 (gsn e32 (by decide) (gss e31 hm.1)))))) rfl ?_
                      refine aw_zge (tgt := 15) (pc' := 7) dX12_faultHere_4 (by decide) rfl (fun c => absurd (by decide) c) (fun _ => ?_)
                      refine aw_aload_n (pc' := 8) dX12_faultHere_7 rfl rfl rfl ?_
                      refine aw_aload_n (pc' := 9) dX12_faultHere_8 rfl rfl rfl ?_
                      refine aw_get clsAll (pc' := 12) dX12_faultHere_9 rfl fl_RX12_319 (gss e36 (gss e35 (gss e34 (gss e33 (gsn e32 (by decide) (gss e31 hm.1)))))) rfl ?_
                      refine aw_putG clsAll (pc' := 15) dX12_faultHere_12 rfl fl_RX12_322 (gss e36 (gss e35 (gss e34 (gss e33 (gsn e32 (by decide) (gss e31 hm.1)))))) (Nat.le_of_ble_eq_true rfl) rfl (fun h53 e53 => ?_)
                      exact aw_rv dX12_faultHere_15 rfl (Nat.le_of_ble_eq_true rfl) (Nat.le_of_ble_eq_true rfl) ⟨h53, e53, rfl⟩
                    refine aw_callVv (M' := mX12_faultHere) (nc' := 0) (ns' := 0) (pc' := 218) dX12_operand_215 rfl ml_RX12_334 kX12_faultHere cc52 (gss e36 (gss e35 (gss e34 (gss e33 (gsn e32 (by decide) (gss e31 hm.1)))))) rfl rfl rfl (Nat.le_of_ble_eq_true rfl) (rok rfl) rfl rfl (fun h55 q55 => ?_)
                    obtain ⟨h54, e54, rfl⟩ := q55
                    refine aw_goto (tgt := 227) dX12_operand_218 (by decide) ?_
                    exact aw_rv dX12_operand_227 rfl (Nat.le_of_ble_eq_true rfl) (Nat.le_of_ble_eq_true rfl) ⟨h54, e54, rfl⟩
                  refine aw_callVv (M' := mX12_operand) (nc' := 0) (ns' := 0) (pc' := 4) dX12_product_1 rfl ml_RX12_352 kX12_operand cc43 (gss e36 (gss e35 (gss e34 (gss e33 (gsn e32 (by decide) (gss e31 hm.1)))))) rfl rfl rfl (Nat.le_of_ble_eq_true rfl) (rok rfl) rfl rfl (fun h57 q57 => ?_)
                  obtain ⟨h56, e56, rfl⟩ := q57
                  refine aw_aload_n (pc' := 5) dX12_product_4 rfl rfl rfl ?_
                  refine aw_get clsAll (pc' := 8) dX12_product_5 rfl fl_RX12_322 (gss e56 (gss e36 (gss e35 (gss e34 (gss e33 (gsn e32 (by decide) (gss e31 hm.1))))))) rfl ?_
                  refine aw_zge (tgt := 66) (pc' := 11) dX12_product_8 (by decide) rfl (fun _ => ?_) (fun c => absurd c (by decide))
                  exact aw_rv dX12_product_66 rfl (Nat.le_of_ble_eq_true rfl) (Nat.le_of_ble_eq_true rfl) ⟨h56, e56, rfl⟩
                refine aw_callVv (M' := mX12_product) (nc' := 0) (ns' := 0) (pc' := 4) dX12_sum_1 rfl ml_RX12_358 kX12_product cc42 (gss e36 (gss e35 (gss e34 (gss e33 (gsn e32 (by decide) (gss e31 hm.1)))))) rfl rfl rfl (Nat.le_of_ble_eq_true rfl) (rok rfl) rfl rfl (fun h59 q59 => ?_)
                obtain ⟨h58, e58, rfl⟩ := q59
                refine aw_aload_n (pc' := 5) dX12_sum_4 rfl rfl rfl ?_
                refine aw_get clsAll (pc' := 8) dX12_sum_5 rfl fl_RX12_322 (gss e58 (gss e36 (gss e35 (gss e34 (gss e33 (gsn e32 (by decide) (gss e31 hm.1))))))) rfl ?_
                refine aw_zge (tgt := 57) (pc' := 11) dX12_sum_8 (by decide) rfl (fun _ => ?_) (fun c => absurd c (by decide))
                exact aw_rv dX12_sum_57 rfl (Nat.le_of_ble_eq_true rfl) (Nat.le_of_ble_eq_true rfl) ⟨h58, e58, rfl⟩
              refine aw_callVv (M' := mX12_sum) (nc' := 0) (ns' := 0) (pc' := 4) dX12_compared_1 rfl ml_RX12_361 kX12_sum cc41 (gss e36 (gss e35 (gss e34 (gss e33 (gsn e32 (by decide) (gss e31 hm.1)))))) rfl rfl rfl (Nat.le_of_ble_eq_true rfl) (rok rfl) rfl rfl (fun h61 q61 => ?_)
              obtain ⟨h60, e60, rfl⟩ := q61
              refine aw_aload_n (pc' := 5) dX12_compared_4 rfl rfl rfl ?_
              have cc62 : AM mX12_look 0 [.ref 67] h60 0 0 (PI fun r h' => ((-1) = r ∧ h60 = h')) := by
                refine am_of (lv := [some (.ref 67)]) rfl (Nat.le_of_ble_eq_true rfl) rfl ?_
                refine aw_aload_n (pc' := 1) dX12_look_0 rfl rfl rfl ?_
                refine aw_get clsAll (pc' := 4) dX12_look_1 rfl fl_RX12_319 (gss e60 (gss e36 (gss e35 (gss e34 (gss e33 (gsn e32 (by decide) (gss e31 hm.1))))))) rfl ?_
                refine aw_aload_n (pc' := 5) dX12_look_4 rfl rfl rfl ?_
                refine aw_get clsAll (pc' := 8) dX12_look_5 rfl fl_RX12_316 (gss e60 (gss e36 (gss e35 (gss e34 (gss e33 (gsn e32 (by decide) (gss e31 hm.1))))))) rfl ?_
                refine aw_cge (tgt := 23) (pc' := 11) dX12_look_8 (by decide) rfl (fun _ => ?_) (fun c => absurd c (by decide))
                refine aw_iconst (v := (-1)) (pc' := 24) dX12_look_23 rfl (by decide) ?_
                exact aw_ri dX12_look_24 rfl rfl (Nat.le_of_ble_eq_true rfl) (Nat.le_of_ble_eq_true rfl) ⟨rfl, rfl⟩
              refine aw_callVi (M' := mX12_look) (nc' := 0) (ns' := 0) (pc' := 8) dX12_compared_5 rfl ml_RX12_337 kX12_look cc62 (gss e60 (gss e36 (gss e35 (gss e34 (gss e33 (gsn e32 (by decide) (gss e31 hm.1))))))) rfl rfl rfl (Nat.le_of_ble_eq_true rfl) (rok rfl) rfl rfl (fun r63 h63 q63 => ?_)
              obtain ⟨rfl, rfl⟩ := q63
              refine aw_istore_n (lv' := [_, _]) (pc' := 9) dX12_compared_8 rfl (Nat.le_of_ble_eq_true rfl) rfl ?_
              refine aw_aload_n (pc' := 10) dX12_compared_9 rfl rfl rfl ?_
              refine aw_get clsAll (pc' := 13) dX12_compared_10 rfl fl_RX12_322 (gss e60 (gss e36 (gss e35 (gss e34 (gss e33 (gsn e32 (by decide) (gss e31 hm.1))))))) rfl ?_
              refine aw_zge (tgt := 34) (pc' := 16) dX12_compared_13 (by decide) rfl (fun _ => ?_) (fun c => absurd c (by decide))
              exact aw_rv dX12_compared_34 rfl (Nat.le_of_ble_eq_true rfl) (Nat.le_of_ble_eq_true rfl) ⟨h60, e60, rfl⟩
            refine aw_callVv (M' := mX12_compared) (nc' := 0) (ns' := 0) (pc' := 4) dX12_all_1 rfl ml_RX12_364 kX12_compared cc40 (gss e36 (gss e35 (gss e34 (gss e33 (gsn e32 (by decide) (gss e31 hm.1)))))) rfl rfl rfl (Nat.le_of_ble_eq_true rfl) (rok rfl) rfl rfl (fun h65 q65 => ?_)
            obtain ⟨h64, e64, rfl⟩ := q65
            refine aw_aload_n (pc' := 5) dX12_all_4 rfl rfl rfl ?_
            refine aw_get clsAll (pc' := 8) dX12_all_5 rfl fl_RX12_322 (gss e64 (gss e36 (gss e35 (gss e34 (gss e33 (gsn e32 (by decide) (gss e31 hm.1))))))) rfl ?_
            refine aw_zge (tgt := 44) (pc' := 11) dX12_all_8 (by decide) rfl (fun _ => ?_) (fun c => absurd c (by decide))
            exact aw_rv dX12_all_44 rfl (Nat.le_of_ble_eq_true rfl) (Nat.le_of_ble_eq_true rfl) ⟨h64, e64, rfl⟩
          refine aw_callVv (M' := mX12_all) (nc' := 0) (ns' := 0) (pc' := 4) dX12_either_1 rfl ml_RX12_367 kX12_all cc39 (gss e36 (gss e35 (gss e34 (gss e33 (gsn e32 (by decide) (gss e31 hm.1)))))) rfl rfl rfl (Nat.le_of_ble_eq_true rfl) (rok rfl) rfl rfl (fun h67 q67 => ?_)
          obtain ⟨h66, e66, rfl⟩ := q67
          refine aw_aload_n (pc' := 5) dX12_either_4 rfl rfl rfl ?_
          refine aw_get clsAll (pc' := 8) dX12_either_5 rfl fl_RX12_322 (gss e66 (gss e36 (gss e35 (gss e34 (gss e33 (gsn e32 (by decide) (gss e31 hm.1))))))) rfl ?_
          refine aw_zge (tgt := 44) (pc' := 11) dX12_either_8 (by decide) rfl (fun _ => ?_) (fun c => absurd c (by decide))
          exact aw_rv dX12_either_44 rfl (Nat.le_of_ble_eq_true rfl) (Nat.le_of_ble_eq_true rfl) ⟨h66, e66, rfl⟩
        refine aw_callVv (M' := mX12_either) (nc' := 0) (ns' := 0) (pc' := 27) dX12_readLine_24 rfl ml_RX12_355 kX12_either cc38 (gss e36 (gss e35 (gss e34 (gss e33 (gsn e32 (by decide) (gss e31 hm.1)))))) rfl rfl rfl (Nat.le_of_ble_eq_true rfl) (rok rfl) rfl rfl (fun h69 q69 => ?_)
        obtain ⟨h68, e68, rfl⟩ := q69
        refine aw_aload_n (pc' := 28) dX12_readLine_27 rfl rfl rfl ?_
        refine aw_get clsAll (pc' := 31) dX12_readLine_28 rfl fl_RX12_112 (gss e68 (gss e36 (gss e35 (gss e34 (gss e33 (gsn e32 (by decide) (gss e31 hm.1))))))) rfl ?_
        refine aw_iload_n (pc' := 32) dX12_readLine_31 rfl rfl ?_
        refine aw_iload_n (pc' := 33) dX12_readLine_32 rfl rfl ?_
        refine aw_iastG (pc' := 34) dX12_readLine_33 rfl (gsn e68 (by decide) (gsn e36 (by decide) (gsn e35 (by decide) (gsn e34 (by decide) (gsn e33 (by decide) (gsn e32 (by decide) (gsn e31 (by decide) ((hm.2 91 (by decide) (by decide)).trans h0_91)))))))) (vpc (by decide)) (fun h70 e70 => ?_)
        refine aw_aload_n (pc' := 35) dX12_readLine_34 rfl rfl rfl ?_
        refine aw_get clsAll (pc' := 38) dX12_readLine_35 rfl fl_RX12_322 (gsn e70 (by decide) (gss e68 (gss e36 (gss e35 (gss e34 (gss e33 (gsn e32 (by decide) (gss e31 hm.1)))))))) rfl ?_
        refine aw_zge (tgt := 74) (pc' := 41) dX12_readLine_38 (by decide) rfl (fun _ => ?_) (fun c => absurd c (by decide))
        refine aw_aload_n (pc' := 75) dX12_readLine_74 rfl rfl rfl ?_
        refine aw_get clsAll (pc' := 78) dX12_readLine_75 rfl fl_RX12_115 (gsn e70 (by decide) (gss e68 (gss e36 (gss e35 (gss e34 (gss e33 (gsn e32 (by decide) (gss e31 hm.1)))))))) rfl ?_
        refine aw_iload_n (pc' := 79) dX12_readLine_78 rfl rfl ?_
        refine aw_aload_n (pc' := 80) dX12_readLine_79 rfl rfl rfl ?_
        refine aw_get clsAll (pc' := 83) dX12_readLine_80 rfl fl_RX12_328 (gsn e70 (by decide) (gss e68 (gss e36 (gss e35 (gss e34 (gss e33 (gsn e32 (by decide) (gss e31 hm.1)))))))) rfl ?_
        refine aw_iastG (pc' := 84) dX12_readLine_83 rfl (gsn e70 (by decide) (gsn e68 (by decide) (gsn e36 (by decide) (gsn e35 (by decide) (gsn e34 (by decide) (gsn e33 (by decide) (gsn e32 (by decide) (gsn e31 (by decide) ((hm.2 92 (by decide) (by decide)).trans h0_92))))))))) (vpc (by decide)) (fun h71 e71 => ?_)
        refine aw_aload_n (pc' := 85) dX12_readLine_84 rfl rfl rfl ?_
        refine aw_get clsAll (pc' := 88) dX12_readLine_85 rfl fl_RX12_109 (gsn e71 (by decide) (gsn e70 (by decide) (gss e68 (gss e36 (gss e35 (gss e34 (gss e33 (gsn e32 (by decide) (gss e31 hm.1))))))))) rfl ?_
        refine aw_aload_n (pc' := 89) dX12_readLine_88 rfl rfl rfl ?_
        refine aw_get clsAll (pc' := 92) dX12_readLine_89 rfl fl_RX12_325 (gsn e71 (by decide) (gsn e70 (by decide) (gss e68 (gss e36 (gss e35 (gss e34 (gss e33 (gsn e32 (by decide) (gss e31 hm.1))))))))) rfl ?_
        refine aw_dup2 (pc' := 93) dX12_readLine_92 rfl rfl rfl ?_
        refine aw_iald (v := 0) (pc' := 94) dX12_readLine_93 rfl (gsn e71 (by decide) (gsn e70 (by decide) (gsn e68 (by decide) (gsn e36 (by decide) (gsn e35 (by decide) (gsn e34 (by decide) (gsn e33 (by decide) (gss e32 (gsn e31 (by decide) ((hm.2 90 (by decide) (by decide)).trans h0_90)))))))))) (vpc (by decide)) rfl ?_
        refine aw_iconst (v := 1) (pc' := 95) dX12_readLine_94 rfl (by decide) ?_
        refine aw_iadd (pc' := 96) dX12_readLine_95 rfl ?_
        refine aw_topi (v := 1) (by decide) ?_
        refine aw_iastG (pc' := 97) dX12_readLine_96 rfl (gsn e71 (by decide) (gsn e70 (by decide) (gsn e68 (by decide) (gsn e36 (by decide) (gsn e35 (by decide) (gsn e34 (by decide) (gsn e33 (by decide) (gss e32 (gsn e31 (by decide) ((hm.2 90 (by decide) (by decide)).trans h0_90)))))))))) (vpc (by decide)) (fun h72 e72 => ?_)
        exact aw_rv dX12_readLine_97 rfl (Nat.le_of_ble_eq_true rfl) (Nat.le_of_ble_eq_true rfl) ⟨h68, e68, h70, e70, h71, e71, h72, e72, rfl⟩
      refine aw_callVv (M' := mX12_readLine) (nc' := 0) (ns' := 0) (pc' := 77) dX12_text_74 rfl ml_RX12_376 kX12_readLine cc37 (gss e36 (gss e35 (gss e34 (gss e33 (gsn e32 (by decide) (gss e31 hm.1)))))) rfl rfl rfl (Nat.le_of_ble_eq_true rfl) (rok rfl) rfl rfl (fun h77 q77 => ?_)
      obtain ⟨h73, e73, h74, e74, h75, e75, h76, e76, rfl⟩ := q77
      refine aw_aload_n (pc' := 78) dX12_text_77 rfl rfl rfl ?_
      refine aw_get clsAll (pc' := 81) dX12_text_78 rfl fl_RX12_322 (gsn e76 (by decide) (gsn e75 (by decide) (gsn e74 (by decide) (gss e73 (gss e36 (gss e35 (gss e34 (gss e33 (gsn e32 (by decide) (gss e31 hm.1)))))))))) rfl ?_
      refine aw_zge (tgt := 110) (pc' := 84) dX12_text_81 (by decide) rfl (fun _ => ?_) (fun c => absurd c (by decide))
      refine aw_aload_n (pc' := 111) dX12_text_110 rfl rfl rfl ?_
      refine aw_get clsAll (pc' := 114) dX12_text_111 rfl fl_RX12_322 (gsn e76 (by decide) (gsn e75 (by decide) (gsn e74 (by decide) (gss e73 (gss e36 (gss e35 (gss e34 (gss e33 (gsn e32 (by decide) (gss e31 hm.1)))))))))) rfl ?_
      refine aw_zge (tgt := 132) (pc' := 117) dX12_text_114 (by decide) rfl (fun _ => ?_) (fun c => absurd c (by decide))
      refine aw_aload_n (pc' := 133) dX12_text_132 rfl rfl rfl ?_
      refine aw_iconst (v := 0) (pc' := 134) dX12_text_133 rfl (by decide) ?_
      refine aw_putG clsAll (pc' := 137) dX12_text_134 rfl fl_RX12_316 (gsn e76 (by decide) (gsn e75 (by decide) (gsn e74 (by decide) (gss e73 (gss e36 (gss e35 (gss e34 (gss e33 (gsn e32 (by decide) (gss e31 hm.1)))))))))) (Nat.le_of_ble_eq_true rfl) rfl (fun h78 e78 => ?_)
      refine aw_aload_n (pc' := 138) dX12_text_137 rfl rfl rfl ?_
      refine aw_get clsAll (pc' := 141) dX12_text_138 rfl fl_RX12_322 (gss e78 (gsn e76 (by decide) (gsn e75 (by decide) (gsn e74 (by decide) (gss e73 (gss e36 (gss e35 (gss e34 (gss e33 (gsn e32 (by decide) (gss e31 hm.1))))))))))) rfl ?_
      refine aw_zlt (tgt := 152) (pc' := 144) dX12_text_141 (by decide) rfl (fun c => absurd c (by decide)) (fun _ => ?_)
      refine aw_bipush (v := (-100)) (pc' := 146) dX12_text_144 rfl (by decide) ?_
      refine aw_aload_n (pc' := 147) dX12_text_146 rfl rfl rfl ?_
      refine aw_get clsAll (pc' := 150) dX12_text_147 rfl fl_RX12_322 (gss e78 (gsn e76 (by decide) (gsn e75 (by decide) (gsn e74 (by decide) (gss e73 (gss e36 (gss e35 (gss e34 (gss e33 (gsn e32 (by decide) (gss e31 hm.1))))))))))) rfl ?_
      refine aw_isub (pc' := 151) dX12_text_150 rfl ?_
      refine aw_topi (v := (-100)) (by decide) ?_
      exact aw_ri dX12_text_151 rfl rfl (Nat.le_of_ble_eq_true rfl) (Nat.le_of_ble_eq_true rfl) (by first | (simp [sp_text, cnd, okC, okS, okW_iff, okN_iff, inR, c18, c19, c20, c28, c29]; done) | (simp_all [sp_text, cnd, okC, okS, okW_iff, okN_iff, inR]; done) | skip)
set_option maxRecDepth 4000 in
theorem m_inForce (h : List aE) (hm : Fm 0 h) (w : Int32) (t : Int32) (k : Int32) : AM mX12_inForce 2 [.ref 67, .int w, .int t, .int k] h 0 0 (PI fun r h' => r = sp_inForce w t k) := by
  refine am_of (lv := [some (.ref 67), some (.int w), some (.int t), some (.int k)]) rfl (Nat.le_of_ble_eq_true rfl) rfl ?_
  refine aw_iload_n (pc' := 1) dX12_inForce_0 rfl rfl ?_
  have cc1 : AM mX12_isWhat 1 [.int w] h 0 0 (PI fun r h' => (w < 0 ∧ 0 = r ∧ h = h') ∨ (¬ (w < 0) ∧ 12 < w ∧ 0 = r ∧ h = h') ∨ (¬ (w < 0) ∧ ¬ (12 < w) ∧ 2 < (w % 10) ∧ 0 = r ∧ h = h') ∨ (¬ (w < 0) ∧ ¬ (12 < w) ∧ ¬ (2 < (w % 10)) ∧ 1 = r ∧ h = h')) := by
    refine am_of (lv := [some (.int w)]) rfl (Nat.le_of_ble_eq_true rfl) rfl ?_
    refine aw_iload_n (pc' := 1) dX12_isWhat_0 rfl rfl ?_
    refine aw_iconst (v := 0) (pc' := 2) dX12_isWhat_1 rfl (by decide) ?_
    refine aw_bipush (v := 12) (pc' := 4) dX12_isWhat_2 rfl (by decide) ?_
    have cc2 : AM mX12_in 0 [.int w, .int 0, .int 12] h 0 0 (PI fun r h' => (w < 0 ∧ 0 = r ∧ h = h') ∨ (¬ (w < 0) ∧ 12 < w ∧ 0 = r ∧ h = h') ∨ (¬ (w < 0) ∧ ¬ (12 < w) ∧ 1 = r ∧ h = h')) := by
      refine am_of (lv := [some (.int w), some (.int 0), some (.int 12)]) rfl (Nat.le_of_ble_eq_true rfl) rfl ?_
      refine aw_iload_n (pc' := 1) dX12_in_0 rfl rfl ?_
      refine aw_iload_n (pc' := 2) dX12_in_1 rfl rfl ?_
      refine aw_clt (tgt := 14) (pc' := 5) dX12_in_2 (by decide) rfl (fun c3 => ?_) (fun c3 => ?_)
      · refine aw_iconst (v := 0) (pc' := 15) dX12_in_14 rfl (by decide) ?_
        exact aw_ri dX12_in_15 rfl (by decide) (Nat.le_of_ble_eq_true rfl) (Nat.le_of_ble_eq_true rfl) (Or.inl ⟨c3, rfl, rfl⟩)
      · refine aw_iload_n (pc' := 6) dX12_in_5 rfl rfl ?_
        refine aw_iload_n (pc' := 7) dX12_in_6 rfl rfl ?_
        refine aw_cgt (tgt := 14) (pc' := 10) dX12_in_7 (by decide) rfl (fun c4 => ?_) (fun c4 => ?_)
        · refine aw_iconst (v := 0) (pc' := 15) dX12_in_14 rfl (by decide) ?_
          exact aw_ri dX12_in_15 rfl (by decide) (Nat.le_of_ble_eq_true rfl) (Nat.le_of_ble_eq_true rfl) (Or.inr (Or.inl ⟨c3, c4, rfl, rfl⟩))
        · refine aw_iconst (v := 1) (pc' := 11) dX12_in_10 rfl (by decide) ?_
          refine aw_goto (tgt := 15) dX12_in_11 (by decide) ?_
          exact aw_ri dX12_in_15 rfl (by decide) (Nat.le_of_ble_eq_true rfl) (Nat.le_of_ble_eq_true rfl) (Or.inr (Or.inr ⟨c3, c4, rfl, rfl⟩))
    refine aw_callSi (M' := mX12_in) (nc' := 0) (ns' := 0) (pc' := 7) dX12_isWhat_4 rfl ml_RX12_230 kX12_in cc2 rfl rfl (Nat.le_of_ble_eq_true rfl) (rok rfl) rfl rfl (fun r10 h10 q10 => ?_)
    rcases q10 with ⟨c5, rfl, rfl⟩ | ⟨c6, c7, rfl, rfl⟩ | ⟨c8, c9, rfl, rfl⟩
    · refine aw_if_eq (tgt := 22) (pc' := 10) dX12_isWhat_7 (by decide) rfl (fun _ => ?_) (fun c => absurd (by decide) c)
      refine aw_iconst (v := 0) (pc' := 23) dX12_isWhat_22 rfl (by decide) ?_
      exact aw_ri dX12_isWhat_23 rfl (by decide) (Nat.le_of_ble_eq_true rfl) (Nat.le_of_ble_eq_true rfl) (Or.inl ⟨c5, rfl, rfl⟩)
    · refine aw_if_eq (tgt := 22) (pc' := 10) dX12_isWhat_7 (by decide) rfl (fun _ => ?_) (fun c => absurd (by decide) c)
      refine aw_iconst (v := 0) (pc' := 23) dX12_isWhat_22 rfl (by decide) ?_
      exact aw_ri dX12_isWhat_23 rfl (by decide) (Nat.le_of_ble_eq_true rfl) (Nat.le_of_ble_eq_true rfl) (Or.inr (Or.inl ⟨c6, c7, rfl, rfl⟩))
    · refine aw_if_eq (tgt := 22) (pc' := 10) dX12_isWhat_7 (by decide) rfl (fun c => absurd c (by decide)) (fun _ => ?_)
      refine aw_iload_n (pc' := 11) dX12_isWhat_10 rfl rfl ?_
      refine aw_bipush (v := 10) (pc' := 13) dX12_isWhat_11 rfl (by decide) ?_
      refine aw_irem (pc' := 14) dX12_isWhat_13 rfl (by decide) ?_
      refine aw_iconst (v := 2) (pc' := 15) dX12_isWhat_14 rfl (by decide) ?_
      refine aw_cgt (tgt := 22) (pc' := 18) dX12_isWhat_15 (by decide) rfl (fun c11 => ?_) (fun c11 => ?_)
      · refine aw_iconst (v := 0) (pc' := 23) dX12_isWhat_22 rfl (by decide) ?_
        exact aw_ri dX12_isWhat_23 rfl (by decide) (Nat.le_of_ble_eq_true rfl) (Nat.le_of_ble_eq_true rfl) (Or.inr (Or.inr (Or.inl ⟨c8, c9, c11, rfl, rfl⟩)))
      · refine aw_iconst (v := 1) (pc' := 19) dX12_isWhat_18 rfl (by decide) ?_
        refine aw_goto (tgt := 23) dX12_isWhat_19 (by decide) ?_
        exact aw_ri dX12_isWhat_23 rfl (by decide) (Nat.le_of_ble_eq_true rfl) (Nat.le_of_ble_eq_true rfl) (Or.inr (Or.inr (Or.inr ⟨c8, c9, c11, rfl, rfl⟩)))
  refine aw_callSi (M' := mX12_isWhat) (nc' := 0) (ns' := 0) (pc' := 4) dX12_inForce_1 rfl ml_RX12_370 kX12_isWhat cc1 rfl rfl (Nat.le_of_ble_eq_true rfl) (rok rfl) rfl rfl (fun r21 h21 q21 => ?_)
  rcases q21 with ⟨c12, rfl, rfl⟩ | ⟨c13, c14, rfl, rfl⟩ | ⟨c15, c16, c17, rfl, rfl⟩ | ⟨c18, c19, c20, rfl, rfl⟩
  · refine aw_if_eq (tgt := 31) (pc' := 7) dX12_inForce_4 (by decide) rfl (fun _ => ?_) (fun c => absurd (by decide) c)
    refine aw_iconst (v := (-1)) (pc' := 32) dX12_inForce_31 rfl (by decide) ?_
    exact aw_ri dX12_inForce_32 rfl rfl (Nat.le_of_ble_eq_true rfl) (Nat.le_of_ble_eq_true rfl) (by first | (simp [sp_inForce, cnd, okC, okS, okW_iff, okN_iff, inR, c12]; done) | (simp_all [sp_inForce, cnd, okC, okS, okW_iff, okN_iff, inR]; done) | skip)
  · refine aw_if_eq (tgt := 31) (pc' := 7) dX12_inForce_4 (by decide) rfl (fun _ => ?_) (fun c => absurd (by decide) c)
    refine aw_iconst (v := (-1)) (pc' := 32) dX12_inForce_31 rfl (by decide) ?_
    exact aw_ri dX12_inForce_32 rfl rfl (Nat.le_of_ble_eq_true rfl) (Nat.le_of_ble_eq_true rfl) (by first | (simp [sp_inForce, cnd, okC, okS, okW_iff, okN_iff, inR, c13, c14]; done) | (simp_all [sp_inForce, cnd, okC, okS, okW_iff, okN_iff, inR]; done) | skip)
  · refine aw_if_eq (tgt := 31) (pc' := 7) dX12_inForce_4 (by decide) rfl (fun _ => ?_) (fun c => absurd (by decide) c)
    refine aw_iconst (v := (-1)) (pc' := 32) dX12_inForce_31 rfl (by decide) ?_
    exact aw_ri dX12_inForce_32 rfl rfl (Nat.le_of_ble_eq_true rfl) (Nat.le_of_ble_eq_true rfl) (by first | (simp [sp_inForce, cnd, okC, okS, okW_iff, okN_iff, inR, c15, c16, c17]; done) | (simp_all [sp_inForce, cnd, okC, okS, okW_iff, okN_iff, inR]; done) | skip)
  · refine aw_if_eq (tgt := 31) (pc' := 7) dX12_inForce_4 (by decide) rfl (fun c => absurd c (by decide)) (fun _ => ?_)
    refine aw_iload_n (pc' := 8) dX12_inForce_7 rfl rfl ?_
    have cc22 : AM mX12_isHour 1 [.int t] h 0 0 (PI fun r h' => (t < 0 ∧ 0 = r ∧ h = h') ∨ (¬ (t < 0) ∧ 1699 < t ∧ 0 = r ∧ h = h') ∨ (¬ (t < 0) ∧ ¬ (1699 < t) ∧ 1 = r ∧ h = h')) := by
      refine am_of (lv := [some (.int t)]) rfl (Nat.le_of_ble_eq_true rfl) rfl ?_
      refine aw_iload_n (pc' := 1) dX12_isHour_0 rfl rfl ?_
      refine aw_iconst (v := 0) (pc' := 2) dX12_isHour_1 rfl (by decide) ?_
      refine aw_sipush (v := 1699) (pc' := 5) dX12_isHour_2 rfl (by decide) ?_
      have cc23 : AM mX12_in 0 [.int t, .int 0, .int 1699] h 0 0 (PI fun r h' => (t < 0 ∧ 0 = r ∧ h = h') ∨ (¬ (t < 0) ∧ 1699 < t ∧ 0 = r ∧ h = h') ∨ (¬ (t < 0) ∧ ¬ (1699 < t) ∧ 1 = r ∧ h = h')) := by
        refine am_of (lv := [some (.int t), some (.int 0), some (.int 1699)]) rfl (Nat.le_of_ble_eq_true rfl) rfl ?_
        refine aw_iload_n (pc' := 1) dX12_in_0 rfl rfl ?_
        refine aw_iload_n (pc' := 2) dX12_in_1 rfl rfl ?_
        refine aw_clt (tgt := 14) (pc' := 5) dX12_in_2 (by decide) rfl (fun c24 => ?_) (fun c24 => ?_)
        · refine aw_iconst (v := 0) (pc' := 15) dX12_in_14 rfl (by decide) ?_
          exact aw_ri dX12_in_15 rfl (by decide) (Nat.le_of_ble_eq_true rfl) (Nat.le_of_ble_eq_true rfl) (Or.inl ⟨c24, rfl, rfl⟩)
        · refine aw_iload_n (pc' := 6) dX12_in_5 rfl rfl ?_
          refine aw_iload_n (pc' := 7) dX12_in_6 rfl rfl ?_
          refine aw_cgt (tgt := 14) (pc' := 10) dX12_in_7 (by decide) rfl (fun c25 => ?_) (fun c25 => ?_)
          · refine aw_iconst (v := 0) (pc' := 15) dX12_in_14 rfl (by decide) ?_
            exact aw_ri dX12_in_15 rfl (by decide) (Nat.le_of_ble_eq_true rfl) (Nat.le_of_ble_eq_true rfl) (Or.inr (Or.inl ⟨c24, c25, rfl, rfl⟩))
          · refine aw_iconst (v := 1) (pc' := 11) dX12_in_10 rfl (by decide) ?_
            refine aw_goto (tgt := 15) dX12_in_11 (by decide) ?_
            exact aw_ri dX12_in_15 rfl (by decide) (Nat.le_of_ble_eq_true rfl) (Nat.le_of_ble_eq_true rfl) (Or.inr (Or.inr ⟨c24, c25, rfl, rfl⟩))
      refine aw_callSi (M' := mX12_in) (nc' := 0) (ns' := 0) (pc' := 8) dX12_isHour_5 rfl ml_RX12_230 kX12_in cc23 rfl rfl (Nat.le_of_ble_eq_true rfl) (rok rfl) rfl rfl (fun r31 h31 q31 => ?_)
      rcases q31 with ⟨c26, rfl, rfl⟩ | ⟨c27, c28, rfl, rfl⟩ | ⟨c29, c30, rfl, rfl⟩
      · exact aw_ri dX12_isHour_8 rfl (by decide) (Nat.le_of_ble_eq_true rfl) (Nat.le_of_ble_eq_true rfl) (Or.inl ⟨c26, rfl, rfl⟩)
      · exact aw_ri dX12_isHour_8 rfl (by decide) (Nat.le_of_ble_eq_true rfl) (Nat.le_of_ble_eq_true rfl) (Or.inr (Or.inl ⟨c27, c28, rfl, rfl⟩))
      · exact aw_ri dX12_isHour_8 rfl (by decide) (Nat.le_of_ble_eq_true rfl) (Nat.le_of_ble_eq_true rfl) (Or.inr (Or.inr ⟨c29, c30, rfl, rfl⟩))
    refine aw_callSi (M' := mX12_isHour) (nc' := 0) (ns' := 0) (pc' := 11) dX12_inForce_8 rfl ml_RX12_382 kX12_isHour cc22 rfl rfl (Nat.le_of_ble_eq_true rfl) (rok rfl) rfl rfl (fun r37 h37 q37 => ?_)
    rcases q37 with ⟨c32, rfl, rfl⟩ | ⟨c33, c34, rfl, rfl⟩ | ⟨c35, c36, rfl, rfl⟩
    · refine aw_if_eq (tgt := 31) (pc' := 14) dX12_inForce_11 (by decide) rfl (fun _ => ?_) (fun c => absurd (by decide) c)
      refine aw_iconst (v := (-1)) (pc' := 32) dX12_inForce_31 rfl (by decide) ?_
      exact aw_ri dX12_inForce_32 rfl rfl (Nat.le_of_ble_eq_true rfl) (Nat.le_of_ble_eq_true rfl) (by first | (simp [sp_inForce, cnd, okC, okS, okW_iff, okN_iff, inR, c18, c19, c20, c32]; done) | (simp_all [sp_inForce, cnd, okC, okS, okW_iff, okN_iff, inR]; done) | skip)
    · refine aw_if_eq (tgt := 31) (pc' := 14) dX12_inForce_11 (by decide) rfl (fun _ => ?_) (fun c => absurd (by decide) c)
      refine aw_iconst (v := (-1)) (pc' := 32) dX12_inForce_31 rfl (by decide) ?_
      exact aw_ri dX12_inForce_32 rfl rfl (Nat.le_of_ble_eq_true rfl) (Nat.le_of_ble_eq_true rfl) (by first | (simp [sp_inForce, cnd, okC, okS, okW_iff, okN_iff, inR, c18, c19, c20, c33, c34]; done) | (simp_all [sp_inForce, cnd, okC, okS, okW_iff, okN_iff, inR]; done) | skip)
    · refine aw_if_eq (tgt := 31) (pc' := 14) dX12_inForce_11 (by decide) rfl (fun c => absurd c (by decide)) (fun _ => ?_)
      refine aw_iload_n (pc' := 15) dX12_inForce_14 rfl rfl ?_
      have cc38 : AM mX12_isHour 1 [.int k] h 0 0 (PI fun r h' => (k < 0 ∧ 0 = r ∧ h = h') ∨ (¬ (k < 0) ∧ 1699 < k ∧ 0 = r ∧ h = h') ∨ (¬ (k < 0) ∧ ¬ (1699 < k) ∧ 1 = r ∧ h = h')) := by
        refine am_of (lv := [some (.int k)]) rfl (Nat.le_of_ble_eq_true rfl) rfl ?_
        refine aw_iload_n (pc' := 1) dX12_isHour_0 rfl rfl ?_
        refine aw_iconst (v := 0) (pc' := 2) dX12_isHour_1 rfl (by decide) ?_
        refine aw_sipush (v := 1699) (pc' := 5) dX12_isHour_2 rfl (by decide) ?_
        have cc39 : AM mX12_in 0 [.int k, .int 0, .int 1699] h 0 0 (PI fun r h' => (k < 0 ∧ 0 = r ∧ h = h') ∨ (¬ (k < 0) ∧ 1699 < k ∧ 0 = r ∧ h = h') ∨ (¬ (k < 0) ∧ ¬ (1699 < k) ∧ 1 = r ∧ h = h')) := by
          refine am_of (lv := [some (.int k), some (.int 0), some (.int 1699)]) rfl (Nat.le_of_ble_eq_true rfl) rfl ?_
          refine aw_iload_n (pc' := 1) dX12_in_0 rfl rfl ?_
          refine aw_iload_n (pc' := 2) dX12_in_1 rfl rfl ?_
          refine aw_clt (tgt := 14) (pc' := 5) dX12_in_2 (by decide) rfl (fun c40 => ?_) (fun c40 => ?_)
          · refine aw_iconst (v := 0) (pc' := 15) dX12_in_14 rfl (by decide) ?_
            exact aw_ri dX12_in_15 rfl (by decide) (Nat.le_of_ble_eq_true rfl) (Nat.le_of_ble_eq_true rfl) (Or.inl ⟨c40, rfl, rfl⟩)
          · refine aw_iload_n (pc' := 6) dX12_in_5 rfl rfl ?_
            refine aw_iload_n (pc' := 7) dX12_in_6 rfl rfl ?_
            refine aw_cgt (tgt := 14) (pc' := 10) dX12_in_7 (by decide) rfl (fun c41 => ?_) (fun c41 => ?_)
            · refine aw_iconst (v := 0) (pc' := 15) dX12_in_14 rfl (by decide) ?_
              exact aw_ri dX12_in_15 rfl (by decide) (Nat.le_of_ble_eq_true rfl) (Nat.le_of_ble_eq_true rfl) (Or.inr (Or.inl ⟨c40, c41, rfl, rfl⟩))
            · refine aw_iconst (v := 1) (pc' := 11) dX12_in_10 rfl (by decide) ?_
              refine aw_goto (tgt := 15) dX12_in_11 (by decide) ?_
              exact aw_ri dX12_in_15 rfl (by decide) (Nat.le_of_ble_eq_true rfl) (Nat.le_of_ble_eq_true rfl) (Or.inr (Or.inr ⟨c40, c41, rfl, rfl⟩))
        refine aw_callSi (M' := mX12_in) (nc' := 0) (ns' := 0) (pc' := 8) dX12_isHour_5 rfl ml_RX12_230 kX12_in cc39 rfl rfl (Nat.le_of_ble_eq_true rfl) (rok rfl) rfl rfl (fun r47 h47 q47 => ?_)
        rcases q47 with ⟨c42, rfl, rfl⟩ | ⟨c43, c44, rfl, rfl⟩ | ⟨c45, c46, rfl, rfl⟩
        · exact aw_ri dX12_isHour_8 rfl (by decide) (Nat.le_of_ble_eq_true rfl) (Nat.le_of_ble_eq_true rfl) (Or.inl ⟨c42, rfl, rfl⟩)
        · exact aw_ri dX12_isHour_8 rfl (by decide) (Nat.le_of_ble_eq_true rfl) (Nat.le_of_ble_eq_true rfl) (Or.inr (Or.inl ⟨c43, c44, rfl, rfl⟩))
        · exact aw_ri dX12_isHour_8 rfl (by decide) (Nat.le_of_ble_eq_true rfl) (Nat.le_of_ble_eq_true rfl) (Or.inr (Or.inr ⟨c45, c46, rfl, rfl⟩))
      refine aw_callSi (M' := mX12_isHour) (nc' := 0) (ns' := 0) (pc' := 18) dX12_inForce_15 rfl ml_RX12_382 kX12_isHour cc38 rfl rfl (Nat.le_of_ble_eq_true rfl) (rok rfl) rfl rfl (fun r53 h53 q53 => ?_)
      rcases q53 with ⟨c48, rfl, rfl⟩ | ⟨c49, c50, rfl, rfl⟩ | ⟨c51, c52, rfl, rfl⟩
      · refine aw_if_eq (tgt := 31) (pc' := 21) dX12_inForce_18 (by decide) rfl (fun _ => ?_) (fun c => absurd (by decide) c)
        refine aw_iconst (v := (-1)) (pc' := 32) dX12_inForce_31 rfl (by decide) ?_
        exact aw_ri dX12_inForce_32 rfl rfl (Nat.le_of_ble_eq_true rfl) (Nat.le_of_ble_eq_true rfl) (by first | (simp [sp_inForce, cnd, okC, okS, okW_iff, okN_iff, inR, c18, c19, c20, c35, c36, c48]; done) | (simp_all [sp_inForce, cnd, okC, okS, okW_iff, okN_iff, inR]; done) | skip)
      · refine aw_if_eq (tgt := 31) (pc' := 21) dX12_inForce_18 (by decide) rfl (fun _ => ?_) (fun c => absurd (by decide) c)
        refine aw_iconst (v := (-1)) (pc' := 32) dX12_inForce_31 rfl (by decide) ?_
        exact aw_ri dX12_inForce_32 rfl rfl (Nat.le_of_ble_eq_true rfl) (Nat.le_of_ble_eq_true rfl) (by first | (simp [sp_inForce, cnd, okC, okS, okW_iff, okN_iff, inR, c18, c19, c20, c35, c36, c49, c50]; done) | (simp_all [sp_inForce, cnd, okC, okS, okW_iff, okN_iff, inR]; done) | skip)
      · refine aw_if_eq (tgt := 31) (pc' := 21) dX12_inForce_18 (by decide) rfl (fun c => absurd c (by decide)) (fun _ => ?_)
        refine aw_aload_n (pc' := 22) dX12_inForce_21 rfl rfl rfl ?_
        refine aw_iload_n (pc' := 23) dX12_inForce_22 rfl rfl ?_
        refine aw_iload_n (pc' := 24) dX12_inForce_23 rfl rfl ?_
        refine aw_iload_n (pc' := 25) dX12_inForce_24 rfl rfl ?_
        have cc54 : AM mX12_forceOf 1 [.ref 67, .int w, .int t, .int k] h 0 0 (PI fun r h' => ((-2) = r ∧ h = h')) := by
          refine am_of (lv := [some (.ref 67), some (.int w), some (.int t), some (.int k), none, none]) rfl (Nat.le_of_ble_eq_true rfl) rfl ?_
          refine aw_aload_n (pc' := 1) dX12_forceOf_0 rfl rfl rfl ?_
          have cc55 : AM mX12_firstThrough 0 [.ref 67] h 0 0 (PI fun r h' => (1700 = r ∧ h = h')) := by
            refine am_of (lv := [some (.ref 67), none, none]) rfl (Nat.le_of_ble_eq_true rfl) rfl ?_
            refine aw_sipush (v := 1700) (pc' := 3) dX12_firstThrough_0 rfl (by decide) ?_
            refine aw_istore_n (lv' := [_, _, _]) (pc' := 4) dX12_firstThrough_3 rfl (Nat.le_of_ble_eq_true rfl) rfl ?_
            refine aw_iconst (v := 0) (pc' := 5) dX12_firstThrough_4 rfl (by decide) ?_
            refine aw_istore_n (lv' := [_, _, _]) (pc' := 6) dX12_firstThrough_5 rfl (Nat.le_of_ble_eq_true rfl) rfl ?_
            refine aw_iload_n (pc' := 7) dX12_firstThrough_6 rfl rfl ?_
            refine aw_aload_n (pc' := 8) dX12_firstThrough_7 rfl rfl rfl ?_
            refine aw_get clsAll (pc' := 11) dX12_firstThrough_8 rfl fl_RX12_242 hm.1 rfl ?_
            refine aw_cge (tgt := 50) (pc' := 14) dX12_firstThrough_11 (by decide) rfl (fun _ => ?_) (fun c => absurd c (by decide))
            refine aw_iload_n (pc' := 51) dX12_firstThrough_50 rfl rfl ?_
            exact aw_ri dX12_firstThrough_51 rfl rfl (Nat.le_of_ble_eq_true rfl) (Nat.le_of_ble_eq_true rfl) ⟨rfl, rfl⟩
          refine aw_callVi (M' := mX12_firstThrough) (nc' := 0) (ns' := 0) (pc' := 4) dX12_forceOf_1 rfl ml_RX12_379 kX12_firstThrough cc55 hm.1 rfl rfl rfl (Nat.le_of_ble_eq_true rfl) (rok rfl) rfl rfl (fun r56 h56 q56 => ?_)
          obtain ⟨rfl, rfl⟩ := q56
          refine aw_iload_n (pc' := 5) dX12_forceOf_4 rfl rfl ?_
          refine aw_cgt (tgt := 12) (pc' := 8) dX12_forceOf_5 (by decide) rfl (fun _ => ?_) (fun c => absurd (bu1 c52 (by decide)) c)
          refine aw_iconst (v := 0) (pc' := 13) dX12_forceOf_12 rfl (by decide) ?_
          refine aw_istore (lv' := [_, _, _, _, _, _]) (pc' := 15) dX12_forceOf_13 rfl (Nat.le_of_ble_eq_true rfl) rfl ?_
          refine aw_aload_n (pc' := 16) dX12_forceOf_15 rfl rfl rfl ?_
          refine aw_get clsAll (pc' := 19) dX12_forceOf_16 rfl fl_RX12_373 hm.1 rfl ?_
          refine aw_iconst (v := 1) (pc' := 20) dX12_forceOf_19 rfl (by decide) ?_
          refine aw_isub (pc' := 21) dX12_forceOf_20 rfl ?_
          refine aw_topi (v := (-1)) (by decide) ?_
          refine aw_istore (lv' := [_, _, _, _, _, _]) (pc' := 23) dX12_forceOf_21 rfl (Nat.le_of_ble_eq_true rfl) rfl ?_
          refine aw_iload (pc' := 25) dX12_forceOf_23 rfl rfl ?_
          refine aw_zlt (tgt := 98) (pc' := 28) dX12_forceOf_25 (by decide) rfl (fun _ => ?_) (fun c => absurd (by decide) c)
          refine aw_bipush (v := (-2)) (pc' := 100) dX12_forceOf_98 rfl (by decide) ?_
          exact aw_ri dX12_forceOf_100 rfl rfl (Nat.le_of_ble_eq_true rfl) (Nat.le_of_ble_eq_true rfl) ⟨rfl, rfl⟩
        refine aw_callVi (M' := mX12_forceOf) (nc' := 0) (ns' := 0) (pc' := 28) dX12_inForce_25 rfl ml_RX12_385 kX12_forceOf cc54 hm.1 rfl rfl rfl (Nat.le_of_ble_eq_true rfl) (rok rfl) rfl rfl (fun r57 h57 q57 => ?_)
        obtain ⟨rfl, rfl⟩ := q57
        refine aw_goto (tgt := 32) dX12_inForce_28 (by decide) ?_
        exact aw_ri dX12_inForce_32 rfl rfl (Nat.le_of_ble_eq_true rfl) (Nat.le_of_ble_eq_true rfl) (by first | (simp [sp_inForce, cnd, okC, okS, okW_iff, okN_iff, inR, c18, c19, c20, c35, c36, c51, c52]; done) | (simp_all [sp_inForce, cnd, okC, okS, okW_iff, okN_iff, inR]; done) | skip)
set_option maxRecDepth 4000 in
theorem m_says (h : List aE) (hm : Fm 0 h) (w : Int32) (m : Int32) : AM mX12_says 3 [.ref 67, .int w, .int m] h 0 0 (PI fun r h' => r = sp_says w m) := by
  refine am_of (lv := [some (.ref 67), some (.int w), some (.int m)]) rfl (Nat.le_of_ble_eq_true rfl) rfl ?_
  refine aw_iload_n (pc' := 1) dX12_says_0 rfl rfl ?_
  have cc1 : AM mX12_isWhat 1 [.int w] h 0 0 (PI fun r h' => (w < 0 ∧ 0 = r ∧ h = h') ∨ (¬ (w < 0) ∧ 12 < w ∧ 0 = r ∧ h = h') ∨ (¬ (w < 0) ∧ ¬ (12 < w) ∧ 2 < (w % 10) ∧ 0 = r ∧ h = h') ∨ (¬ (w < 0) ∧ ¬ (12 < w) ∧ ¬ (2 < (w % 10)) ∧ 1 = r ∧ h = h')) := by
    refine am_of (lv := [some (.int w)]) rfl (Nat.le_of_ble_eq_true rfl) rfl ?_
    refine aw_iload_n (pc' := 1) dX12_isWhat_0 rfl rfl ?_
    refine aw_iconst (v := 0) (pc' := 2) dX12_isWhat_1 rfl (by decide) ?_
    refine aw_bipush (v := 12) (pc' := 4) dX12_isWhat_2 rfl (by decide) ?_
    have cc2 : AM mX12_in 0 [.int w, .int 0, .int 12] h 0 0 (PI fun r h' => (w < 0 ∧ 0 = r ∧ h = h') ∨ (¬ (w < 0) ∧ 12 < w ∧ 0 = r ∧ h = h') ∨ (¬ (w < 0) ∧ ¬ (12 < w) ∧ 1 = r ∧ h = h')) := by
      refine am_of (lv := [some (.int w), some (.int 0), some (.int 12)]) rfl (Nat.le_of_ble_eq_true rfl) rfl ?_
      refine aw_iload_n (pc' := 1) dX12_in_0 rfl rfl ?_
      refine aw_iload_n (pc' := 2) dX12_in_1 rfl rfl ?_
      refine aw_clt (tgt := 14) (pc' := 5) dX12_in_2 (by decide) rfl (fun c3 => ?_) (fun c3 => ?_)
      · refine aw_iconst (v := 0) (pc' := 15) dX12_in_14 rfl (by decide) ?_
        exact aw_ri dX12_in_15 rfl (by decide) (Nat.le_of_ble_eq_true rfl) (Nat.le_of_ble_eq_true rfl) (Or.inl ⟨c3, rfl, rfl⟩)
      · refine aw_iload_n (pc' := 6) dX12_in_5 rfl rfl ?_
        refine aw_iload_n (pc' := 7) dX12_in_6 rfl rfl ?_
        refine aw_cgt (tgt := 14) (pc' := 10) dX12_in_7 (by decide) rfl (fun c4 => ?_) (fun c4 => ?_)
        · refine aw_iconst (v := 0) (pc' := 15) dX12_in_14 rfl (by decide) ?_
          exact aw_ri dX12_in_15 rfl (by decide) (Nat.le_of_ble_eq_true rfl) (Nat.le_of_ble_eq_true rfl) (Or.inr (Or.inl ⟨c3, c4, rfl, rfl⟩))
        · refine aw_iconst (v := 1) (pc' := 11) dX12_in_10 rfl (by decide) ?_
          refine aw_goto (tgt := 15) dX12_in_11 (by decide) ?_
          exact aw_ri dX12_in_15 rfl (by decide) (Nat.le_of_ble_eq_true rfl) (Nat.le_of_ble_eq_true rfl) (Or.inr (Or.inr ⟨c3, c4, rfl, rfl⟩))
    refine aw_callSi (M' := mX12_in) (nc' := 0) (ns' := 0) (pc' := 7) dX12_isWhat_4 rfl ml_RX12_230 kX12_in cc2 rfl rfl (Nat.le_of_ble_eq_true rfl) (rok rfl) rfl rfl (fun r10 h10 q10 => ?_)
    rcases q10 with ⟨c5, rfl, rfl⟩ | ⟨c6, c7, rfl, rfl⟩ | ⟨c8, c9, rfl, rfl⟩
    · refine aw_if_eq (tgt := 22) (pc' := 10) dX12_isWhat_7 (by decide) rfl (fun _ => ?_) (fun c => absurd (by decide) c)
      refine aw_iconst (v := 0) (pc' := 23) dX12_isWhat_22 rfl (by decide) ?_
      exact aw_ri dX12_isWhat_23 rfl (by decide) (Nat.le_of_ble_eq_true rfl) (Nat.le_of_ble_eq_true rfl) (Or.inl ⟨c5, rfl, rfl⟩)
    · refine aw_if_eq (tgt := 22) (pc' := 10) dX12_isWhat_7 (by decide) rfl (fun _ => ?_) (fun c => absurd (by decide) c)
      refine aw_iconst (v := 0) (pc' := 23) dX12_isWhat_22 rfl (by decide) ?_
      exact aw_ri dX12_isWhat_23 rfl (by decide) (Nat.le_of_ble_eq_true rfl) (Nat.le_of_ble_eq_true rfl) (Or.inr (Or.inl ⟨c6, c7, rfl, rfl⟩))
    · refine aw_if_eq (tgt := 22) (pc' := 10) dX12_isWhat_7 (by decide) rfl (fun c => absurd c (by decide)) (fun _ => ?_)
      refine aw_iload_n (pc' := 11) dX12_isWhat_10 rfl rfl ?_
      refine aw_bipush (v := 10) (pc' := 13) dX12_isWhat_11 rfl (by decide) ?_
      refine aw_irem (pc' := 14) dX12_isWhat_13 rfl (by decide) ?_
      refine aw_iconst (v := 2) (pc' := 15) dX12_isWhat_14 rfl (by decide) ?_
      refine aw_cgt (tgt := 22) (pc' := 18) dX12_isWhat_15 (by decide) rfl (fun c11 => ?_) (fun c11 => ?_)
      · refine aw_iconst (v := 0) (pc' := 23) dX12_isWhat_22 rfl (by decide) ?_
        exact aw_ri dX12_isWhat_23 rfl (by decide) (Nat.le_of_ble_eq_true rfl) (Nat.le_of_ble_eq_true rfl) (Or.inr (Or.inr (Or.inl ⟨c8, c9, c11, rfl, rfl⟩)))
      · refine aw_iconst (v := 1) (pc' := 19) dX12_isWhat_18 rfl (by decide) ?_
        refine aw_goto (tgt := 23) dX12_isWhat_19 (by decide) ?_
        exact aw_ri dX12_isWhat_23 rfl (by decide) (Nat.le_of_ble_eq_true rfl) (Nat.le_of_ble_eq_true rfl) (Or.inr (Or.inr (Or.inr ⟨c8, c9, c11, rfl, rfl⟩)))
  refine aw_callSi (M' := mX12_isWhat) (nc' := 0) (ns' := 0) (pc' := 4) dX12_says_1 rfl ml_RX12_370 kX12_isWhat cc1 rfl rfl (Nat.le_of_ble_eq_true rfl) (rok rfl) rfl rfl (fun r21 h21 q21 => ?_)
  rcases q21 with ⟨c12, rfl, rfl⟩ | ⟨c13, c14, rfl, rfl⟩ | ⟨c15, c16, c17, rfl, rfl⟩ | ⟨c18, c19, c20, rfl, rfl⟩
  · refine aw_if_eq (tgt := 31) (pc' := 7) dX12_says_4 (by decide) rfl (fun _ => ?_) (fun c => absurd (by decide) c)
    refine aw_ldcw (pc' := 34) dX12_says_31 rfl ct_RX12_267 ?_
    exact aw_ri dX12_says_34 rfl rfl (Nat.le_of_ble_eq_true rfl) (Nat.le_of_ble_eq_true rfl) (by first | (simp [sp_says, cnd, okC, okS, okW_iff, okN_iff, inR, c12]; done) | (simp_all [sp_says, cnd, okC, okS, okW_iff, okN_iff, inR]; done) | skip)
  · refine aw_if_eq (tgt := 31) (pc' := 7) dX12_says_4 (by decide) rfl (fun _ => ?_) (fun c => absurd (by decide) c)
    refine aw_ldcw (pc' := 34) dX12_says_31 rfl ct_RX12_267 ?_
    exact aw_ri dX12_says_34 rfl rfl (Nat.le_of_ble_eq_true rfl) (Nat.le_of_ble_eq_true rfl) (by first | (simp [sp_says, cnd, okC, okS, okW_iff, okN_iff, inR, c13, c14]; done) | (simp_all [sp_says, cnd, okC, okS, okW_iff, okN_iff, inR]; done) | skip)
  · refine aw_if_eq (tgt := 31) (pc' := 7) dX12_says_4 (by decide) rfl (fun _ => ?_) (fun c => absurd (by decide) c)
    refine aw_ldcw (pc' := 34) dX12_says_31 rfl ct_RX12_267 ?_
    exact aw_ri dX12_says_34 rfl rfl (Nat.le_of_ble_eq_true rfl) (Nat.le_of_ble_eq_true rfl) (by first | (simp [sp_says, cnd, okC, okS, okW_iff, okN_iff, inR, c15, c16, c17]; done) | (simp_all [sp_says, cnd, okC, okS, okW_iff, okN_iff, inR]; done) | skip)
  · refine aw_if_eq (tgt := 31) (pc' := 7) dX12_says_4 (by decide) rfl (fun c => absurd c (by decide)) (fun _ => ?_)
    refine aw_iload_n (pc' := 8) dX12_says_7 rfl rfl ?_
    refine aw_bipush (v := 10) (pc' := 10) dX12_says_8 rfl (by decide) ?_
    refine aw_irem (pc' := 11) dX12_says_10 rfl (by decide) ?_
    refine aw_iconst (v := 2) (pc' := 12) dX12_says_11 rfl (by decide) ?_
    refine aw_icmp_ne (tgt := 23) (pc' := 15) dX12_says_12 (by decide) rfl (fun c22 => ?_) (fun c22 => ?_)
    · refine aw_aload_n (pc' := 24) dX12_says_23 rfl rfl rfl ?_
      refine aw_iload_n (pc' := 25) dX12_says_24 rfl rfl ?_
      have cc23 : AM mX12_isMan 2 [.ref 67, .int m] h 0 0 (PI fun r h' => (m < 0 ∧ 0 = r ∧ h = h') ∨ (¬ (m < 0) ∧ 0 = r ∧ h = h')) := by
        refine am_of (lv := [some (.ref 67), some (.int m)]) rfl (Nat.le_of_ble_eq_true rfl) rfl ?_
        refine aw_aload_n (pc' := 1) dX12_isMan_0 rfl rfl rfl ?_
        refine aw_iload_n (pc' := 2) dX12_isMan_1 rfl rfl ?_
        have cc24 : AM mX12_isBody 1 [.ref 67, .int m] h 0 0 (PI fun r h' => (m < 0 ∧ 0 = r ∧ h = h') ∨ (¬ (m < 0) ∧ 0 = r ∧ h = h')) := by
          refine am_of (lv := [some (.ref 67), some (.int m)]) rfl (Nat.le_of_ble_eq_true rfl) rfl ?_
          refine aw_iload_n (pc' := 1) dX12_isBody_0 rfl rfl ?_
          refine aw_iconst (v := 0) (pc' := 2) dX12_isBody_1 rfl (by decide) ?_
          refine aw_aload_n (pc' := 3) dX12_isBody_2 rfl rfl rfl ?_
          refine aw_get clsAll (pc' := 6) dX12_isBody_3 rfl fl_RX12_242 hm.1 rfl ?_
          refine aw_iconst (v := 1) (pc' := 7) dX12_isBody_6 rfl (by decide) ?_
          refine aw_isub (pc' := 8) dX12_isBody_7 rfl ?_
          refine aw_topi (v := (-1)) (by decide) ?_
          have cc25 : AM mX12_in 0 [.int m, .int 0, .int (-1)] h 0 0 (PI fun r h' => (m < 0 ∧ 0 = r ∧ h = h') ∨ (¬ (m < 0) ∧ 0 = r ∧ h = h')) := by
            refine am_of (lv := [some (.int m), some (.int 0), some (.int (-1))]) rfl (Nat.le_of_ble_eq_true rfl) rfl ?_
            refine aw_iload_n (pc' := 1) dX12_in_0 rfl rfl ?_
            refine aw_iload_n (pc' := 2) dX12_in_1 rfl rfl ?_
            refine aw_clt (tgt := 14) (pc' := 5) dX12_in_2 (by decide) rfl (fun c26 => ?_) (fun c26 => ?_)
            · refine aw_iconst (v := 0) (pc' := 15) dX12_in_14 rfl (by decide) ?_
              exact aw_ri dX12_in_15 rfl (by decide) (Nat.le_of_ble_eq_true rfl) (Nat.le_of_ble_eq_true rfl) (Or.inl ⟨c26, rfl, rfl⟩)
            · refine aw_iload_n (pc' := 6) dX12_in_5 rfl rfl ?_
              refine aw_iload_n (pc' := 7) dX12_in_6 rfl rfl ?_
              refine aw_cgt (tgt := 14) (pc' := 10) dX12_in_7 (by decide) rfl (fun _ => ?_) (fun c => absurd (bt1 c26 (by decide)) c)
              refine aw_iconst (v := 0) (pc' := 15) dX12_in_14 rfl (by decide) ?_
              exact aw_ri dX12_in_15 rfl (by decide) (Nat.le_of_ble_eq_true rfl) (Nat.le_of_ble_eq_true rfl) (Or.inr ⟨c26, rfl, rfl⟩)
          refine aw_callSi (M' := mX12_in) (nc' := 0) (ns' := 0) (pc' := 11) dX12_isBody_8 rfl ml_RX12_230 kX12_in cc25 rfl rfl (Nat.le_of_ble_eq_true rfl) (rok rfl) rfl rfl (fun r29 h29 q29 => ?_)
          rcases q29 with ⟨c27, rfl, rfl⟩ | ⟨c28, rfl, rfl⟩
          · exact aw_ri dX12_isBody_11 rfl (by decide) (Nat.le_of_ble_eq_true rfl) (Nat.le_of_ble_eq_true rfl) (Or.inl ⟨c27, rfl, rfl⟩)
          · exact aw_ri dX12_isBody_11 rfl (by decide) (Nat.le_of_ble_eq_true rfl) (Nat.le_of_ble_eq_true rfl) (Or.inr ⟨c28, rfl, rfl⟩)
        refine aw_callVi (M' := mX12_isBody) (nc' := 0) (ns' := 0) (pc' := 5) dX12_isMan_2 rfl ml_RX12_245 kX12_isBody cc24 hm.1 rfl rfl rfl (Nat.le_of_ble_eq_true rfl) (rok rfl) rfl rfl (fun r32 h32 q32 => ?_)
        rcases q32 with ⟨c30, rfl, rfl⟩ | ⟨c31, rfl, rfl⟩
        · refine aw_if_eq (tgt := 23) (pc' := 8) dX12_isMan_5 (by decide) rfl (fun _ => ?_) (fun c => absurd (by decide) c)
          refine aw_iconst (v := 0) (pc' := 24) dX12_isMan_23 rfl (by decide) ?_
          exact aw_ri dX12_isMan_24 rfl (by decide) (Nat.le_of_ble_eq_true rfl) (Nat.le_of_ble_eq_true rfl) (Or.inl ⟨c30, rfl, rfl⟩)
        · refine aw_if_eq (tgt := 23) (pc' := 8) dX12_isMan_5 (by decide) rfl (fun _ => ?_) (fun c => absurd (by decide) c)
          refine aw_iconst (v := 0) (pc' := 24) dX12_isMan_23 rfl (by decide) ?_
          exact aw_ri dX12_isMan_24 rfl (by decide) (Nat.le_of_ble_eq_true rfl) (Nat.le_of_ble_eq_true rfl) (Or.inr ⟨c31, rfl, rfl⟩)
      refine aw_callVi (M' := mX12_isMan) (nc' := 0) (ns' := 0) (pc' := 28) dX12_says_25 rfl ml_RX12_275 kX12_isMan cc23 hm.1 rfl rfl rfl (Nat.le_of_ble_eq_true rfl) (rok rfl) rfl rfl (fun r35 h35 q35 => ?_)
      rcases q35 with ⟨c33, rfl, rfl⟩ | ⟨c34, rfl, rfl⟩
      · refine aw_if_ne (tgt := 35) (pc' := 31) dX12_says_28 (by decide) rfl (fun c => absurd (by decide) c) (fun _ => ?_)
        refine aw_ldcw (pc' := 34) dX12_says_31 rfl ct_RX12_267 ?_
        exact aw_ri dX12_says_34 rfl rfl (Nat.le_of_ble_eq_true rfl) (Nat.le_of_ble_eq_true rfl) (by first | (simp [sp_says, cnd, okC, okS, okW_iff, okN_iff, inR, c18, c19, c20, c22, c33]; done) | (simp_all [sp_says, cnd, okC, okS, okW_iff, okN_iff, inR]; done) | skip)
      · refine aw_if_ne (tgt := 35) (pc' := 31) dX12_says_28 (by decide) rfl (fun c => absurd (by decide) c) (fun _ => ?_)
        refine aw_ldcw (pc' := 34) dX12_says_31 rfl ct_RX12_267 ?_
        exact aw_ri dX12_says_34 rfl rfl (Nat.le_of_ble_eq_true rfl) (Nat.le_of_ble_eq_true rfl) (by first | (simp [sp_says, cnd, okC, okS, okW_iff, okN_iff, inR, c18, c19, c20, c22, c34]; done) | (simp_all [sp_says, cnd, okC, okS, okW_iff, okN_iff, inR]; done) | skip)
    · refine aw_iload_n (pc' := 16) dX12_says_15 rfl rfl ?_
      refine aw_iconst (v := (-1)) (pc' := 17) dX12_says_16 rfl (by decide) ?_
      refine aw_icmp_eq (tgt := 35) (pc' := 20) dX12_says_17 (by decide) rfl (fun c36 => ?_) (fun c36 => ?_)
      · refine aw_aload_n (pc' := 36) dX12_says_35 rfl rfl rfl ?_
        refine aw_iload_n (pc' := 37) dX12_says_36 rfl rfl ?_
        refine aw_iload_n (pc' := 38) dX12_says_37 rfl rfl ?_
        refine aw_iload_n (pc' := 39) dX12_says_38 rfl rfl ?_
        refine aw_bipush (v := 10) (pc' := 41) dX12_says_39 rfl (by decide) ?_
        refine aw_irem (pc' := 42) dX12_says_41 rfl (by decide) ?_
        refine aw_if_ne (tgt := 49) (pc' := 45) dX12_says_42 (by decide) rfl (fun _ => ?_) (fun c => absurd c (by rw [c22]; decide))
        refine aw_iconst (v := 0) (pc' := 50) dX12_says_49 rfl (by decide) ?_
        have cc37 : AM mX12_saysNow 2 [.ref 67, .int w, .int m, .int 0] h 0 0 (PI fun r h' => (0 = r ∧ h = h')) := by
          refine am_of (lv := [some (.ref 67), some (.int w), some (.int m), some (.int 0), none, none, none]) rfl (Nat.le_of_ble_eq_true rfl) rfl ?_
          refine aw_aload_n (pc' := 1) dX12_saysNow_0 rfl rfl rfl ?_
          refine aw_iload_n (pc' := 2) dX12_saysNow_1 rfl rfl ?_
          refine aw_aload_n (pc' := 3) dX12_saysNow_2 rfl rfl rfl ?_
          refine aw_get clsAll (pc' := 6) dX12_saysNow_3 rfl fl_RX12_281 hm.1 rfl ?_
          refine aw_aload_n (pc' := 7) dX12_saysNow_6 rfl rfl rfl ?_
          refine aw_get clsAll (pc' := 10) dX12_saysNow_7 rfl fl_RX12_281 hm.1 rfl ?_
          have cc38 : AM mX12_forceOf 1 [.ref 67, .int w, .int 0, .int 0] h 0 0 (PI fun r h' => ((-2) = r ∧ h = h')) := by
            refine am_of (lv := [some (.ref 67), some (.int w), some (.int 0), some (.int 0), none, none]) rfl (Nat.le_of_ble_eq_true rfl) rfl ?_
            refine aw_aload_n (pc' := 1) dX12_forceOf_0 rfl rfl rfl ?_
            have cc39 : AM mX12_firstThrough 0 [.ref 67] h 0 0 (PI fun r h' => (1700 = r ∧ h = h')) := by
              refine am_of (lv := [some (.ref 67), none, none]) rfl (Nat.le_of_ble_eq_true rfl) rfl ?_
              refine aw_sipush (v := 1700) (pc' := 3) dX12_firstThrough_0 rfl (by decide) ?_
              refine aw_istore_n (lv' := [_, _, _]) (pc' := 4) dX12_firstThrough_3 rfl (Nat.le_of_ble_eq_true rfl) rfl ?_
              refine aw_iconst (v := 0) (pc' := 5) dX12_firstThrough_4 rfl (by decide) ?_
              refine aw_istore_n (lv' := [_, _, _]) (pc' := 6) dX12_firstThrough_5 rfl (Nat.le_of_ble_eq_true rfl) rfl ?_
              refine aw_iload_n (pc' := 7) dX12_firstThrough_6 rfl rfl ?_
              refine aw_aload_n (pc' := 8) dX12_firstThrough_7 rfl rfl rfl ?_
              refine aw_get clsAll (pc' := 11) dX12_firstThrough_8 rfl fl_RX12_242 hm.1 rfl ?_
              refine aw_cge (tgt := 50) (pc' := 14) dX12_firstThrough_11 (by decide) rfl (fun _ => ?_) (fun c => absurd c (by decide))
              refine aw_iload_n (pc' := 51) dX12_firstThrough_50 rfl rfl ?_
              exact aw_ri dX12_firstThrough_51 rfl rfl (Nat.le_of_ble_eq_true rfl) (Nat.le_of_ble_eq_true rfl) ⟨rfl, rfl⟩
            refine aw_callVi (M' := mX12_firstThrough) (nc' := 0) (ns' := 0) (pc' := 4) dX12_forceOf_1 rfl ml_RX12_379 kX12_firstThrough cc39 hm.1 rfl rfl rfl (Nat.le_of_ble_eq_true rfl) (rok rfl) rfl rfl (fun r40 h40 q40 => ?_)
            obtain ⟨rfl, rfl⟩ := q40
            refine aw_iload_n (pc' := 5) dX12_forceOf_4 rfl rfl ?_
            refine aw_cgt (tgt := 12) (pc' := 8) dX12_forceOf_5 (by decide) rfl (fun _ => ?_) (fun c => absurd (by decide) c)
            refine aw_iconst (v := 0) (pc' := 13) dX12_forceOf_12 rfl (by decide) ?_
            refine aw_istore (lv' := [_, _, _, _, _, _]) (pc' := 15) dX12_forceOf_13 rfl (Nat.le_of_ble_eq_true rfl) rfl ?_
            refine aw_aload_n (pc' := 16) dX12_forceOf_15 rfl rfl rfl ?_
            refine aw_get clsAll (pc' := 19) dX12_forceOf_16 rfl fl_RX12_373 hm.1 rfl ?_
            refine aw_iconst (v := 1) (pc' := 20) dX12_forceOf_19 rfl (by decide) ?_
            refine aw_isub (pc' := 21) dX12_forceOf_20 rfl ?_
            refine aw_topi (v := (-1)) (by decide) ?_
            refine aw_istore (lv' := [_, _, _, _, _, _]) (pc' := 23) dX12_forceOf_21 rfl (Nat.le_of_ble_eq_true rfl) rfl ?_
            refine aw_iload (pc' := 25) dX12_forceOf_23 rfl rfl ?_
            refine aw_zlt (tgt := 98) (pc' := 28) dX12_forceOf_25 (by decide) rfl (fun _ => ?_) (fun c => absurd (by decide) c)
            refine aw_bipush (v := (-2)) (pc' := 100) dX12_forceOf_98 rfl (by decide) ?_
            exact aw_ri dX12_forceOf_100 rfl rfl (Nat.le_of_ble_eq_true rfl) (Nat.le_of_ble_eq_true rfl) ⟨rfl, rfl⟩
          refine aw_callVi (M' := mX12_forceOf) (nc' := 0) (ns' := 0) (pc' := 13) dX12_saysNow_10 rfl ml_RX12_385 kX12_forceOf cc38 hm.1 rfl rfl rfl (Nat.le_of_ble_eq_true rfl) (rok rfl) rfl rfl (fun r41 h41 q41 => ?_)
          obtain ⟨rfl, rfl⟩ := q41
          refine aw_istore (lv' := [_, _, _, _, _, _, _]) (pc' := 15) dX12_saysNow_13 rfl (Nat.le_of_ble_eq_true rfl) rfl ?_
          refine aw_iload (pc' := 17) dX12_saysNow_15 rfl rfl ?_
          refine aw_zge (tgt := 22) (pc' := 20) dX12_saysNow_17 (by decide) rfl (fun c => absurd (by decide) c) (fun _ => ?_)
          refine aw_iload_n (pc' := 21) dX12_saysNow_20 rfl rfl ?_
          exact aw_ri dX12_saysNow_21 rfl rfl (Nat.le_of_ble_eq_true rfl) (Nat.le_of_ble_eq_true rfl) ⟨rfl, rfl⟩
        refine aw_callVi (M' := mX12_saysNow) (nc' := 0) (ns' := 0) (pc' := 53) dX12_says_50 rfl ml_RX12_403 kX12_saysNow cc37 hm.1 rfl rfl rfl (Nat.le_of_ble_eq_true rfl) (rok rfl) rfl rfl (fun r42 h42 q42 => ?_)
        obtain ⟨rfl, rfl⟩ := q42
        exact aw_ri dX12_says_53 rfl rfl (Nat.le_of_ble_eq_true rfl) (Nat.le_of_ble_eq_true rfl) (by first | (simp [sp_says, cnd, okC, okS, okW_iff, okN_iff, inR, c18, c19, c20, c22, c36]; done) | (simp_all [sp_says, cnd, okC, okS, okW_iff, okN_iff, inR]; done) | skip)
      · refine aw_goto (tgt := 31) dX12_says_20 (by decide) ?_
        refine aw_ldcw (pc' := 34) dX12_says_31 rfl ct_RX12_267 ?_
        exact aw_ri dX12_says_34 rfl rfl (Nat.le_of_ble_eq_true rfl) (Nat.le_of_ble_eq_true rfl) (by first | (simp [sp_says, cnd, okC, okS, okW_iff, okN_iff, inR, c18, c19, c20, c22, c36]; done) | (simp_all [sp_says, cnd, okC, okS, okW_iff, okN_iff, inR]; done) | skip)
set_option maxRecDepth 4000 in
theorem m_spoons (h : List aE) (hm : Fm 0 h) (v : Int32) : AM mX12_spoons 1 [.ref 67, .int v] h 0 0 (PI fun r h' => r = sp_spoons v) := by
  refine am_of (lv := [some (.ref 67), some (.int v), none]) rfl (Nat.le_of_ble_eq_true rfl) rfl ?_
  refine aw_iload_n (pc' := 1) dX12_spoons_0 rfl rfl ?_
  refine aw_iconst (v := 0) (pc' := 2) dX12_spoons_1 rfl (by decide) ?_
  refine aw_sipush (v := 9999) (pc' := 5) dX12_spoons_2 rfl (by decide) ?_
  have cc1 : AM mX12_in 0 [.int v, .int 0, .int 9999] h 0 0 (PI fun r h' => (v < 0 ∧ 0 = r ∧ h = h') ∨ (¬ (v < 0) ∧ 9999 < v ∧ 0 = r ∧ h = h') ∨ (¬ (v < 0) ∧ ¬ (9999 < v) ∧ 1 = r ∧ h = h')) := by
    refine am_of (lv := [some (.int v), some (.int 0), some (.int 9999)]) rfl (Nat.le_of_ble_eq_true rfl) rfl ?_
    refine aw_iload_n (pc' := 1) dX12_in_0 rfl rfl ?_
    refine aw_iload_n (pc' := 2) dX12_in_1 rfl rfl ?_
    refine aw_clt (tgt := 14) (pc' := 5) dX12_in_2 (by decide) rfl (fun c2 => ?_) (fun c2 => ?_)
    · refine aw_iconst (v := 0) (pc' := 15) dX12_in_14 rfl (by decide) ?_
      exact aw_ri dX12_in_15 rfl (by decide) (Nat.le_of_ble_eq_true rfl) (Nat.le_of_ble_eq_true rfl) (Or.inl ⟨c2, rfl, rfl⟩)
    · refine aw_iload_n (pc' := 6) dX12_in_5 rfl rfl ?_
      refine aw_iload_n (pc' := 7) dX12_in_6 rfl rfl ?_
      refine aw_cgt (tgt := 14) (pc' := 10) dX12_in_7 (by decide) rfl (fun c3 => ?_) (fun c3 => ?_)
      · refine aw_iconst (v := 0) (pc' := 15) dX12_in_14 rfl (by decide) ?_
        exact aw_ri dX12_in_15 rfl (by decide) (Nat.le_of_ble_eq_true rfl) (Nat.le_of_ble_eq_true rfl) (Or.inr (Or.inl ⟨c2, c3, rfl, rfl⟩))
      · refine aw_iconst (v := 1) (pc' := 11) dX12_in_10 rfl (by decide) ?_
        refine aw_goto (tgt := 15) dX12_in_11 (by decide) ?_
        exact aw_ri dX12_in_15 rfl (by decide) (Nat.le_of_ble_eq_true rfl) (Nat.le_of_ble_eq_true rfl) (Or.inr (Or.inr ⟨c2, c3, rfl, rfl⟩))
  refine aw_callSi (M' := mX12_in) (nc' := 0) (ns' := 0) (pc' := 8) dX12_spoons_5 rfl ml_RX12_230 kX12_in cc1 rfl rfl (Nat.le_of_ble_eq_true rfl) (rok rfl) rfl rfl (fun r9 h9 q9 => ?_)
  rcases q9 with ⟨c4, rfl, rfl⟩ | ⟨c5, c6, rfl, rfl⟩ | ⟨c7, c8, rfl, rfl⟩
  · refine aw_if_ne (tgt := 13) (pc' := 11) dX12_spoons_8 (by decide) rfl (fun c => absurd (by decide) c) (fun _ => ?_)
    refine aw_iconst (v := (-1)) (pc' := 12) dX12_spoons_11 rfl (by decide) ?_
    exact aw_ri dX12_spoons_12 rfl rfl (Nat.le_of_ble_eq_true rfl) (Nat.le_of_ble_eq_true rfl) (by first | (simp [sp_spoons, cnd, okC, okS, okW_iff, okN_iff, inR, c4]; done) | (simp_all [sp_spoons, cnd, okC, okS, okW_iff, okN_iff, inR]; done) | skip)
  · refine aw_if_ne (tgt := 13) (pc' := 11) dX12_spoons_8 (by decide) rfl (fun c => absurd (by decide) c) (fun _ => ?_)
    refine aw_iconst (v := (-1)) (pc' := 12) dX12_spoons_11 rfl (by decide) ?_
    exact aw_ri dX12_spoons_12 rfl rfl (Nat.le_of_ble_eq_true rfl) (Nat.le_of_ble_eq_true rfl) (by first | (simp [sp_spoons, cnd, okC, okS, okW_iff, okN_iff, inR, c5, c6]; done) | (simp_all [sp_spoons, cnd, okC, okS, okW_iff, okN_iff, inR]; done) | skip)
  · refine aw_if_ne (tgt := 13) (pc' := 11) dX12_spoons_8 (by decide) rfl (fun _ => ?_) (fun c => absurd c (by decide))
    refine aw_aload_n (pc' := 14) dX12_spoons_13 rfl rfl rfl ?_
    refine aw_get clsAll (pc' := 17) dX12_spoons_14 rfl fl_RX12_397 hm.1 rfl ?_
    refine aw_istore_n (lv' := [_, _, _]) (pc' := 18) dX12_spoons_17 rfl (Nat.le_of_ble_eq_true rfl) rfl ?_
    refine aw_aload_n (pc' := 19) dX12_spoons_18 rfl rfl rfl ?_
    refine aw_iload_n (pc' := 20) dX12_spoons_19 rfl rfl ?_
    refine aw_putG clsAll (pc' := 23) dX12_spoons_20 rfl fl_RX12_397 hm.1 (Nat.le_of_ble_eq_true rfl) rfl (fun h10 e10 => ?_)
    refine aw_iload_n (pc' := 24) dX12_spoons_23 rfl rfl ?_
    exact aw_ri dX12_spoons_24 rfl rfl (Nat.le_of_ble_eq_true rfl) (Nat.le_of_ble_eq_true rfl) (by first | (simp [sp_spoons, cnd, okC, okS, okW_iff, okN_iff, inR, c7, c8]; done) | (simp_all [sp_spoons, cnd, okC, okS, okW_iff, okN_iff, inR]; done) | skip)
set_option maxRecDepth 4000 in
theorem m_move (h : List aE) (hm : Fm 0 h) (c : Int32) (t : Int32) : AM mX12_move 2 [.ref 67, .int c, .int t] h 0 0 (PI fun r h' => r = sp_move c t) := by
  refine am_of (lv := [some (.ref 67), some (.int c), some (.int t)]) rfl (Nat.le_of_ble_eq_true rfl) rfl ?_
  refine aw_iload_n (pc' := 1) dX12_move_0 rfl rfl ?_
  have cc1 : AM mX12_isCell 1 [.int c] h 0 0 (PI fun r h' => (c < 0 ∧ 0 = r ∧ h = h') ∨ (¬ (c < 0) ∧ ¬ ((c / 100) < 32) ∧ 0 = r ∧ h = h') ∨ (¬ (c < 0) ∧ (c / 100) < 32 ∧ (c % 100) < 1 ∧ 0 = r ∧ h = h') ∨ (¬ (c < 0) ∧ (c / 100) < 32 ∧ ¬ ((c % 100) < 1) ∧ 60 < (c % 100) ∧ 0 = r ∧ h = h') ∨ (¬ (c < 0) ∧ (c / 100) < 32 ∧ ¬ ((c % 100) < 1) ∧ ¬ (60 < (c % 100)) ∧ 1 = r ∧ h = h')) := by
    refine am_of (lv := [some (.int c)]) rfl (Nat.le_of_ble_eq_true rfl) rfl ?_
    refine aw_iload_n (pc' := 1) dX12_isCell_0 rfl rfl ?_
    refine aw_zlt (tgt := 30) (pc' := 4) dX12_isCell_1 (by decide) rfl (fun c2 => ?_) (fun c2 => ?_)
    · refine aw_iconst (v := 0) (pc' := 31) dX12_isCell_30 rfl (by decide) ?_
      exact aw_ri dX12_isCell_31 rfl (by decide) (Nat.le_of_ble_eq_true rfl) (Nat.le_of_ble_eq_true rfl) (Or.inl ⟨c2, rfl, rfl⟩)
    · refine aw_iload_n (pc' := 5) dX12_isCell_4 rfl rfl ?_
      refine aw_bipush (v := 100) (pc' := 7) dX12_isCell_5 rfl (by decide) ?_
      refine aw_idiv (pc' := 8) dX12_isCell_7 rfl (by decide) ?_
      refine aw_bipush (v := 32) (pc' := 10) dX12_isCell_8 rfl (by decide) ?_
      refine aw_cge (tgt := 30) (pc' := 13) dX12_isCell_10 (by decide) rfl (fun c3 => ?_) (fun c3 => ?_)
      · refine aw_iconst (v := 0) (pc' := 31) dX12_isCell_30 rfl (by decide) ?_
        exact aw_ri dX12_isCell_31 rfl (by decide) (Nat.le_of_ble_eq_true rfl) (Nat.le_of_ble_eq_true rfl) (Or.inr (Or.inl ⟨c2, c3, rfl, rfl⟩))
      · refine aw_iload_n (pc' := 14) dX12_isCell_13 rfl rfl ?_
        refine aw_bipush (v := 100) (pc' := 16) dX12_isCell_14 rfl (by decide) ?_
        refine aw_irem (pc' := 17) dX12_isCell_16 rfl (by decide) ?_
        refine aw_iconst (v := 1) (pc' := 18) dX12_isCell_17 rfl (by decide) ?_
        refine aw_bipush (v := 60) (pc' := 20) dX12_isCell_18 rfl (by decide) ?_
        have cc4 : AM mX12_in 0 [.int (c % 100), .int 1, .int 60] h 0 0 (PI fun r h' => ((c % 100) < 1 ∧ 0 = r ∧ h = h') ∨ (¬ ((c % 100) < 1) ∧ 60 < (c % 100) ∧ 0 = r ∧ h = h') ∨ (¬ ((c % 100) < 1) ∧ ¬ (60 < (c % 100)) ∧ 1 = r ∧ h = h')) := by
          refine am_of (lv := [some (.int (c % 100)), some (.int 1), some (.int 60)]) rfl (Nat.le_of_ble_eq_true rfl) rfl ?_
          refine aw_iload_n (pc' := 1) dX12_in_0 rfl rfl ?_
          refine aw_iload_n (pc' := 2) dX12_in_1 rfl rfl ?_
          refine aw_clt (tgt := 14) (pc' := 5) dX12_in_2 (by decide) rfl (fun c5 => ?_) (fun c5 => ?_)
          · refine aw_iconst (v := 0) (pc' := 15) dX12_in_14 rfl (by decide) ?_
            exact aw_ri dX12_in_15 rfl (by decide) (Nat.le_of_ble_eq_true rfl) (Nat.le_of_ble_eq_true rfl) (Or.inl ⟨c5, rfl, rfl⟩)
          · refine aw_iload_n (pc' := 6) dX12_in_5 rfl rfl ?_
            refine aw_iload_n (pc' := 7) dX12_in_6 rfl rfl ?_
            refine aw_cgt (tgt := 14) (pc' := 10) dX12_in_7 (by decide) rfl (fun c6 => ?_) (fun c6 => ?_)
            · refine aw_iconst (v := 0) (pc' := 15) dX12_in_14 rfl (by decide) ?_
              exact aw_ri dX12_in_15 rfl (by decide) (Nat.le_of_ble_eq_true rfl) (Nat.le_of_ble_eq_true rfl) (Or.inr (Or.inl ⟨c5, c6, rfl, rfl⟩))
            · refine aw_iconst (v := 1) (pc' := 11) dX12_in_10 rfl (by decide) ?_
              refine aw_goto (tgt := 15) dX12_in_11 (by decide) ?_
              exact aw_ri dX12_in_15 rfl (by decide) (Nat.le_of_ble_eq_true rfl) (Nat.le_of_ble_eq_true rfl) (Or.inr (Or.inr ⟨c5, c6, rfl, rfl⟩))
        refine aw_callSi (M' := mX12_in) (nc' := 0) (ns' := 0) (pc' := 23) dX12_isCell_20 rfl ml_RX12_230 kX12_in cc4 rfl rfl (Nat.le_of_ble_eq_true rfl) (rok rfl) rfl rfl (fun r12 h12 q12 => ?_)
        rcases q12 with ⟨c7, rfl, rfl⟩ | ⟨c8, c9, rfl, rfl⟩ | ⟨c10, c11, rfl, rfl⟩
        · refine aw_if_eq (tgt := 30) (pc' := 26) dX12_isCell_23 (by decide) rfl (fun _ => ?_) (fun c => absurd (by decide) c)
          refine aw_iconst (v := 0) (pc' := 31) dX12_isCell_30 rfl (by decide) ?_
          exact aw_ri dX12_isCell_31 rfl (by decide) (Nat.le_of_ble_eq_true rfl) (Nat.le_of_ble_eq_true rfl) (Or.inr (Or.inr (Or.inl ⟨c2, c3, c7, rfl, rfl⟩)))
        · refine aw_if_eq (tgt := 30) (pc' := 26) dX12_isCell_23 (by decide) rfl (fun _ => ?_) (fun c => absurd (by decide) c)
          refine aw_iconst (v := 0) (pc' := 31) dX12_isCell_30 rfl (by decide) ?_
          exact aw_ri dX12_isCell_31 rfl (by decide) (Nat.le_of_ble_eq_true rfl) (Nat.le_of_ble_eq_true rfl) (Or.inr (Or.inr (Or.inr (Or.inl ⟨c2, c3, c8, c9, rfl, rfl⟩))))
        · refine aw_if_eq (tgt := 30) (pc' := 26) dX12_isCell_23 (by decide) rfl (fun c => absurd c (by decide)) (fun _ => ?_)
          refine aw_iconst (v := 1) (pc' := 27) dX12_isCell_26 rfl (by decide) ?_
          refine aw_goto (tgt := 31) dX12_isCell_27 (by decide) ?_
          exact aw_ri dX12_isCell_31 rfl (by decide) (Nat.le_of_ble_eq_true rfl) (Nat.le_of_ble_eq_true rfl) (Or.inr (Or.inr (Or.inr (Or.inr ⟨c2, c3, c10, c11, rfl, rfl⟩))))
  refine aw_callSi (M' := mX12_isCell) (nc' := 0) (ns' := 0) (pc' := 4) dX12_move_1 rfl ml_RX12_234 kX12_isCell cc1 rfl rfl (Nat.le_of_ble_eq_true rfl) (rok rfl) rfl rfl (fun r27 h27 q27 => ?_)
  rcases q27 with ⟨c13, rfl, rfl⟩ | ⟨c14, c15, rfl, rfl⟩ | ⟨c16, c17, c18, rfl, rfl⟩ | ⟨c19, c20, c21, c22, rfl, rfl⟩ | ⟨c23, c24, c25, c26, rfl, rfl⟩
  · refine aw_if_eq (tgt := 23) (pc' := 7) dX12_move_4 (by decide) rfl (fun _ => ?_) (fun c => absurd (by decide) c)
    refine aw_iconst (v := (-1)) (pc' := 24) dX12_move_23 rfl (by decide) ?_
    exact aw_ri dX12_move_24 rfl rfl (Nat.le_of_ble_eq_true rfl) (Nat.le_of_ble_eq_true rfl) (by first | (simp [sp_move, cnd, okC, okS, okW_iff, okN_iff, inR, n0_, c13]; done) | (simp_all [sp_move, cnd, okC, okS, okW_iff, okN_iff, inR, n0_]; done) | skip)
  · refine aw_if_eq (tgt := 23) (pc' := 7) dX12_move_4 (by decide) rfl (fun _ => ?_) (fun c => absurd (by decide) c)
    refine aw_iconst (v := (-1)) (pc' := 24) dX12_move_23 rfl (by decide) ?_
    exact aw_ri dX12_move_24 rfl rfl (Nat.le_of_ble_eq_true rfl) (Nat.le_of_ble_eq_true rfl) (by first | (simp [sp_move, cnd, okC, okS, okW_iff, okN_iff, inR, n0_, c14, c15]; done) | (simp_all [sp_move, cnd, okC, okS, okW_iff, okN_iff, inR, n0_]; done) | skip)
  · refine aw_if_eq (tgt := 23) (pc' := 7) dX12_move_4 (by decide) rfl (fun _ => ?_) (fun c => absurd (by decide) c)
    refine aw_iconst (v := (-1)) (pc' := 24) dX12_move_23 rfl (by decide) ?_
    exact aw_ri dX12_move_24 rfl rfl (Nat.le_of_ble_eq_true rfl) (Nat.le_of_ble_eq_true rfl) (by first | (simp [sp_move, cnd, okC, okS, okW_iff, okN_iff, inR, n0_, c16, c17, c18]; done) | (simp_all [sp_move, cnd, okC, okS, okW_iff, okN_iff, inR, n0_]; done) | skip)
  · refine aw_if_eq (tgt := 23) (pc' := 7) dX12_move_4 (by decide) rfl (fun _ => ?_) (fun c => absurd (by decide) c)
    refine aw_iconst (v := (-1)) (pc' := 24) dX12_move_23 rfl (by decide) ?_
    exact aw_ri dX12_move_24 rfl rfl (Nat.le_of_ble_eq_true rfl) (Nat.le_of_ble_eq_true rfl) (by first | (simp [sp_move, cnd, okC, okS, okW_iff, okN_iff, inR, n0_, c19, c20, c21, c22]; done) | (simp_all [sp_move, cnd, okC, okS, okW_iff, okN_iff, inR, n0_]; done) | skip)
  · refine aw_if_eq (tgt := 23) (pc' := 7) dX12_move_4 (by decide) rfl (fun c => absurd c (by decide)) (fun _ => ?_)
    refine aw_iload_n (pc' := 8) dX12_move_7 rfl rfl ?_
    refine aw_aload_n (pc' := 9) dX12_move_8 rfl rfl rfl ?_
    refine aw_get clsAll (pc' := 12) dX12_move_9 rfl fl_RX12_281 hm.1 rfl ?_
    refine aw_iconst (v := 1) (pc' := 13) dX12_move_12 rfl (by decide) ?_
    refine aw_iadd (pc' := 14) dX12_move_13 rfl ?_
    refine aw_topi (v := 1) (by decide) ?_
    refine aw_sipush (v := 1699) (pc' := 17) dX12_move_14 rfl (by decide) ?_
    have cc28 : AM mX12_in 0 [.int t, .int 1, .int 1699] h 0 0 (PI fun r h' => (t < 1 ∧ 0 = r ∧ h = h') ∨ (¬ (t < 1) ∧ 1699 < t ∧ 0 = r ∧ h = h') ∨ (¬ (t < 1) ∧ ¬ (1699 < t) ∧ 1 = r ∧ h = h')) := by
      refine am_of (lv := [some (.int t), some (.int 1), some (.int 1699)]) rfl (Nat.le_of_ble_eq_true rfl) rfl ?_
      refine aw_iload_n (pc' := 1) dX12_in_0 rfl rfl ?_
      refine aw_iload_n (pc' := 2) dX12_in_1 rfl rfl ?_
      refine aw_clt (tgt := 14) (pc' := 5) dX12_in_2 (by decide) rfl (fun c29 => ?_) (fun c29 => ?_)
      · refine aw_iconst (v := 0) (pc' := 15) dX12_in_14 rfl (by decide) ?_
        exact aw_ri dX12_in_15 rfl (by decide) (Nat.le_of_ble_eq_true rfl) (Nat.le_of_ble_eq_true rfl) (Or.inl ⟨c29, rfl, rfl⟩)
      · refine aw_iload_n (pc' := 6) dX12_in_5 rfl rfl ?_
        refine aw_iload_n (pc' := 7) dX12_in_6 rfl rfl ?_
        refine aw_cgt (tgt := 14) (pc' := 10) dX12_in_7 (by decide) rfl (fun c30 => ?_) (fun c30 => ?_)
        · refine aw_iconst (v := 0) (pc' := 15) dX12_in_14 rfl (by decide) ?_
          exact aw_ri dX12_in_15 rfl (by decide) (Nat.le_of_ble_eq_true rfl) (Nat.le_of_ble_eq_true rfl) (Or.inr (Or.inl ⟨c29, c30, rfl, rfl⟩))
        · refine aw_iconst (v := 1) (pc' := 11) dX12_in_10 rfl (by decide) ?_
          refine aw_goto (tgt := 15) dX12_in_11 (by decide) ?_
          exact aw_ri dX12_in_15 rfl (by decide) (Nat.le_of_ble_eq_true rfl) (Nat.le_of_ble_eq_true rfl) (Or.inr (Or.inr ⟨c29, c30, rfl, rfl⟩))
    refine aw_callSi (M' := mX12_in) (nc' := 0) (ns' := 0) (pc' := 20) dX12_move_17 rfl ml_RX12_230 kX12_in cc28 rfl rfl (Nat.le_of_ble_eq_true rfl) (rok rfl) rfl rfl (fun r36 h36 q36 => ?_)
    rcases q36 with ⟨c31, rfl, rfl⟩ | ⟨c32, c33, rfl, rfl⟩ | ⟨c34, c35, rfl, rfl⟩
    · refine aw_if_ne (tgt := 25) (pc' := 23) dX12_move_20 (by decide) rfl (fun c => absurd (by decide) c) (fun _ => ?_)
      refine aw_iconst (v := (-1)) (pc' := 24) dX12_move_23 rfl (by decide) ?_
      exact aw_ri dX12_move_24 rfl rfl (Nat.le_of_ble_eq_true rfl) (Nat.le_of_ble_eq_true rfl) (by first | (simp [sp_move, cnd, okC, okS, okW_iff, okN_iff, inR, n0_, c23, c24, c25, c26, c31]; done) | (simp_all [sp_move, cnd, okC, okS, okW_iff, okN_iff, inR, n0_]; done) | skip)
    · refine aw_if_ne (tgt := 25) (pc' := 23) dX12_move_20 (by decide) rfl (fun c => absurd (by decide) c) (fun _ => ?_)
      refine aw_iconst (v := (-1)) (pc' := 24) dX12_move_23 rfl (by decide) ?_
      exact aw_ri dX12_move_24 rfl rfl (Nat.le_of_ble_eq_true rfl) (Nat.le_of_ble_eq_true rfl) (by first | (simp [sp_move, cnd, okC, okS, okW_iff, okN_iff, inR, n0_, c23, c24, c25, c26, c32, c33]; done) | (simp_all [sp_move, cnd, okC, okS, okW_iff, okN_iff, inR, n0_]; done) | skip)
    · refine aw_if_ne (tgt := 25) (pc' := 23) dX12_move_20 (by decide) rfl (fun _ => ?_) (fun c => absurd c (by decide))
      refine aw_aload_n (pc' := 26) dX12_move_25 rfl rfl rfl ?_
      refine aw_get clsAll (pc' := 29) dX12_move_26 rfl fl_RX12_406 hm.1 rfl ?_
      refine aw_bipush (v := 60) (pc' := 31) dX12_move_29 rfl (by decide) ?_
      refine aw_icmp_ne (tgt := 37) (pc' := 34) dX12_move_31 (by decide) rfl (fun _ => ?_) (fun c => absurd c (by decide))
      refine aw_aload_n (pc' := 38) dX12_move_37 rfl rfl rfl ?_
      refine aw_get clsAll (pc' := 41) dX12_move_38 rfl fl_RX12_130 hm.1 rfl ?_
      refine aw_aload_n (pc' := 42) dX12_move_41 rfl rfl rfl ?_
      refine aw_get clsAll (pc' := 45) dX12_move_42 rfl fl_RX12_406 hm.1 rfl ?_
      refine aw_iload_n (pc' := 46) dX12_move_45 rfl rfl ?_
      refine aw_iastG (pc' := 47) dX12_move_46 rfl ((hm.2 97 (by decide) (by decide)).trans h0_97) (vpc (by decide)) (fun h37 e37 => ?_)
      refine aw_aload_n (pc' := 48) dX12_move_47 rfl rfl rfl ?_
      refine aw_get clsAll (pc' := 51) dX12_move_48 rfl fl_RX12_133 (gsn e37 (by decide) hm.1) rfl ?_
      refine aw_aload_n (pc' := 52) dX12_move_51 rfl rfl rfl ?_
      refine aw_get clsAll (pc' := 55) dX12_move_52 rfl fl_RX12_406 (gsn e37 (by decide) hm.1) rfl ?_
      refine aw_iload_n (pc' := 56) dX12_move_55 rfl rfl ?_
      refine aw_iastG (pc' := 57) dX12_move_56 rfl (gsn e37 (by decide) ((hm.2 98 (by decide) (by decide)).trans h0_98)) (vpc (by decide)) (fun h38 e38 => ?_)
      refine aw_aload_n (pc' := 58) dX12_move_57 rfl rfl rfl ?_
      refine aw_dup (pc' := 59) dX12_move_58 rfl rfl ?_
      refine aw_get clsAll (pc' := 62) dX12_move_59 rfl fl_RX12_406 (gsn e38 (by decide) (gsn e37 (by decide) hm.1)) rfl ?_
      refine aw_iconst (v := 1) (pc' := 63) dX12_move_62 rfl (by decide) ?_
      refine aw_iadd (pc' := 64) dX12_move_63 rfl ?_
      refine aw_topi (v := 1) (by decide) ?_
      refine aw_putG clsAll (pc' := 67) dX12_move_64 rfl fl_RX12_406 (gsn e38 (by decide) (gsn e37 (by decide) hm.1)) (Nat.le_of_ble_eq_true rfl) rfl (fun h39 e39 => ?_)
      refine aw_aload_n (pc' := 68) dX12_move_67 rfl rfl rfl ?_
      refine aw_get clsAll (pc' := 71) dX12_move_68 rfl fl_RX12_406 (gss e39 (gsn e38 (by decide) (gsn e37 (by decide) hm.1))) rfl ?_
      exact aw_ri dX12_move_71 rfl rfl (Nat.le_of_ble_eq_true rfl) (Nat.le_of_ble_eq_true rfl) (by first | (simp [sp_move, cnd, okC, okS, okW_iff, okN_iff, inR, n0_, c23, c24, c25, c26, c34, c35]; done) | (simp_all [sp_move, cnd, okC, okS, okW_iff, okN_iff, inR, n0_]; done) | skip)
