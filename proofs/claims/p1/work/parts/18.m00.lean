set_option maxRecDepth 4000 in
theorem m_hard (h : List aE) (hm : Fm 0 h) (c : Int32) (v : Int32) : AM mX12_hard 2 [.ref 67, .int c, .int v] h 0 0 (PI fun r h' => r = sp_hard c v) := by
  refine am_of (lv := [some (.ref 67), some (.int c), some (.int v), none]) rfl (Nat.le_of_ble_eq_true rfl) rfl ?_
  refine aw_iload_n (pc' := 1) dX12_hard_0 rfl rfl ?_
  have cc1 : AM mX12_isCell 1 [.int c] h 0 0 (PI fun r h' => (c < 0 ∧ 0 = r ∧ h = h') ∨ (¬ (c < 0) ∧ ¬ ((c / 100) < 32) ∧ 0 = r ∧ h = h') ∨ (¬ (c < 0) ∧ (c / 100) < 32 ∧ (c % 100) < 1 ∧ 0 = r ∧ h = h') ∨ (¬ (c < 0) ∧ (c / 100) < 32 ∧ ¬ ((c % 100) < 1) ∧ 60 < (c % 100) ∧ 0 = r ∧ h = h') ∨ (¬ (c < 0) ∧ (c / 100) < 32 ∧ ¬ ((c % 100) < 1) ∧ ¬ (60 < (c % 100)) ∧ 1 = r ∧ h = h')) := by
    refine am_of (lv := [some (.int c)]) rfl (Nat.le_of_ble_eq_true rfl) rfl ?_
    refine aw_iload_n (pc' := 1) dX12_isCell_0 rfl rfl ?_
    refine aw_zlt (tgt := 30) (pc' := 4) dX12_isCell_1 (by decide) rfl (fun c2 => ?_) (fun c2 => ?_)
    · refine aw_iconst (v := 0) (pc' := 31) dX12_isCell_30 rfl (by decide) ?_
      exact aw_ri dX12_isCell_31 rfl (by decide) (Nat.le_of_ble_eq_true rfl) (Nat.le_of_ble_eq_true rfl) (Or.inl ⟨c2, rfl, rfl⟩)
    · refine aw_iload_n (pc' := 5) dX12_isCell_4 rfl rfl ?_
      refine aw_bipush (v := 100) (pc' := 7) dX12_isCell_5 rfl (by decide) ?_
      refine aw_idiv (pc' := 8) dX12_isCell_7 rfl (by decide) ?_
      refine aw_bipush (v := 32) (pc' := 10) dX12_isCell_8 rfl (by decide) ?_
      refine aw_cge (tgt := 30) (pc' := 13) dX12_isCell_10 (by decide) rfl (fun c3 => ?_) (fun c3 => ?_)
      · refine aw_iconst (v := 0) (pc' := 31) dX12_isCell_30 rfl (by decide) ?_
        exact aw_ri dX12_isCell_31 rfl (by decide) (Nat.le_of_ble_eq_true rfl) (Nat.le_of_ble_eq_true rfl) (Or.inr (Or.inl ⟨c2, c3, rfl, rfl⟩))
      · refine aw_iload_n (pc' := 14) dX12_isCell_13 rfl rfl ?_
        refine aw_bipush (v := 100) (pc' := 16) dX12_isCell_14 rfl (by decide) ?_
        refine aw_irem (pc' := 17) dX12_isCell_16 rfl (by decide) ?_
        refine aw_iconst (v := 1) (pc' := 18) dX12_isCell_17 rfl (by decide) ?_
        refine aw_bipush (v := 60) (pc' := 20) dX12_isCell_18 rfl (by decide) ?_
        have cc4 : AM mX12_in 0 [.int (c % 100), .int 1, .int 60] h 0 0 (PI fun r h' => ((c % 100) < 1 ∧ 0 = r ∧ h = h') ∨ (¬ ((c % 100) < 1) ∧ 60 < (c % 100) ∧ 0 = r ∧ h = h') ∨ (¬ ((c % 100) < 1) ∧ ¬ (60 < (c % 100)) ∧ 1 = r ∧ h = h')) := by
          refine am_of (lv := [some (.int (c % 100)), some (.int 1), some (.int 60)]) rfl (Nat.le_of_ble_eq_true rfl) rfl ?_
          refine aw_iload_n (pc' := 1) dX12_in_0 rfl rfl ?_
          refine aw_iload_n (pc' := 2) dX12_in_1 rfl rfl ?_
          refine aw_clt (tgt := 14) (pc' := 5) dX12_in_2 (by decide) rfl (fun c5 => ?_) (fun c5 => ?_)
          · refine aw_iconst (v := 0) (pc' := 15) dX12_in_14 rfl (by decide) ?_
            exact aw_ri dX12_in_15 rfl (by decide) (Nat.le_of_ble_eq_true rfl) (Nat.le_of_ble_eq_true rfl) (Or.inl ⟨c5, rfl, rfl⟩)
          · refine aw_iload_n (pc' := 6) dX12_in_5 rfl rfl ?_
            refine aw_iload_n (pc' := 7) dX12_in_6 rfl rfl ?_
            refine aw_cgt (tgt := 14) (pc' := 10) dX12_in_7 (by decide) rfl (fun c6 => ?_) (fun c6 => ?_)
            · refine aw_iconst (v := 0) (pc' := 15) dX12_in_14 rfl (by decide) ?_
              exact aw_ri dX12_in_15 rfl (by decide) (Nat.le_of_ble_eq_true rfl) (Nat.le_of_ble_eq_true rfl) (Or.inr (Or.inl ⟨c5, c6, rfl, rfl⟩))
            · refine aw_iconst (v := 1) (pc' := 11) dX12_in_10 rfl (by decide) ?_
              refine aw_goto (tgt := 15) dX12_in_11 (by decide) ?_
              exact aw_ri dX12_in_15 rfl (by decide) (Nat.le_of_ble_eq_true rfl) (Nat.le_of_ble_eq_true rfl) (Or.inr (Or.inr ⟨c5, c6, rfl, rfl⟩))
        refine aw_callSi (M' := mX12_in) (nc' := 0) (ns' := 0) (pc' := 23) dX12_isCell_20 rfl ml_RX12_230 kX12_in cc4 rfl rfl (Nat.le_of_ble_eq_true rfl) (rok rfl) rfl rfl (fun r12 h12 q12 => ?_)
        rcases q12 with ⟨c7, rfl, rfl⟩ | ⟨c8, c9, rfl, rfl⟩ | ⟨c10, c11, rfl, rfl⟩
        · refine aw_if_eq (tgt := 30) (pc' := 26) dX12_isCell_23 (by decide) rfl (fun _ => ?_) (fun c => absurd (by decide) c)
          refine aw_iconst (v := 0) (pc' := 31) dX12_isCell_30 rfl (by decide) ?_
          exact aw_ri dX12_isCell_31 rfl (by decide) (Nat.le_of_ble_eq_true rfl) (Nat.le_of_ble_eq_true rfl) (Or.inr (Or.inr (Or.inl ⟨c2, c3, c7, rfl, rfl⟩)))
        · refine aw_if_eq (tgt := 30) (pc' := 26) dX12_isCell_23 (by decide) rfl (fun _ => ?_) (fun c => absurd (by decide) c)
          refine aw_iconst (v := 0) (pc' := 31) dX12_isCell_30 rfl (by decide) ?_
          exact aw_ri dX12_isCell_31 rfl (by decide) (Nat.le_of_ble_eq_true rfl) (Nat.le_of_ble_eq_true rfl) (Or.inr (Or.inr (Or.inr (Or.inl ⟨c2, c3, c8, c9, rfl, rfl⟩))))
        · refine aw_if_eq (tgt := 30) (pc' := 26) dX12_isCell_23 (by decide) rfl (fun c => absurd c (by decide)) (fun _ => ?_)
          refine aw_iconst (v := 1) (pc' := 27) dX12_isCell_26 rfl (by decide) ?_
          refine aw_goto (tgt := 31) dX12_isCell_27 (by decide) ?_
          exact aw_ri dX12_isCell_31 rfl (by decide) (Nat.le_of_ble_eq_true rfl) (Nat.le_of_ble_eq_true rfl) (Or.inr (Or.inr (Or.inr (Or.inr ⟨c2, c3, c10, c11, rfl, rfl⟩))))
  refine aw_callSi (M' := mX12_isCell) (nc' := 0) (ns' := 0) (pc' := 4) dX12_hard_1 rfl ml_RX12_234 kX12_isCell cc1 rfl rfl (Nat.le_of_ble_eq_true rfl) (rok rfl) rfl rfl (fun r27 h27 q27 => ?_)
  rcases q27 with ⟨c13, rfl, rfl⟩ | ⟨c14, c15, rfl, rfl⟩ | ⟨c16, c17, c18, rfl, rfl⟩ | ⟨c19, c20, c21, c22, rfl, rfl⟩ | ⟨c23, c24, c25, c26, rfl, rfl⟩
  · refine aw_if_eq (tgt := 17) (pc' := 7) dX12_hard_4 (by decide) rfl (fun _ => ?_) (fun c => absurd (by decide) c)
    refine aw_iconst (v := (-1)) (pc' := 18) dX12_hard_17 rfl (by decide) ?_
    exact aw_ri dX12_hard_18 rfl rfl (Nat.le_of_ble_eq_true rfl) (Nat.le_of_ble_eq_true rfl) (by first | (simp [sp_hard, cnd, okC, okS, okW_iff, okN_iff, inR, c13]; done) | (simp_all [sp_hard, cnd, okC, okS, okW_iff, okN_iff, inR]; done) | skip)
  · refine aw_if_eq (tgt := 17) (pc' := 7) dX12_hard_4 (by decide) rfl (fun _ => ?_) (fun c => absurd (by decide) c)
    refine aw_iconst (v := (-1)) (pc' := 18) dX12_hard_17 rfl (by decide) ?_
    exact aw_ri dX12_hard_18 rfl rfl (Nat.le_of_ble_eq_true rfl) (Nat.le_of_ble_eq_true rfl) (by first | (simp [sp_hard, cnd, okC, okS, okW_iff, okN_iff, inR, c14, c15]; done) | (simp_all [sp_hard, cnd, okC, okS, okW_iff, okN_iff, inR]; done) | skip)
  · refine aw_if_eq (tgt := 17) (pc' := 7) dX12_hard_4 (by decide) rfl (fun _ => ?_) (fun c => absurd (by decide) c)
    refine aw_iconst (v := (-1)) (pc' := 18) dX12_hard_17 rfl (by decide) ?_
    exact aw_ri dX12_hard_18 rfl rfl (Nat.le_of_ble_eq_true rfl) (Nat.le_of_ble_eq_true rfl) (by first | (simp [sp_hard, cnd, okC, okS, okW_iff, okN_iff, inR, c16, c17, c18]; done) | (simp_all [sp_hard, cnd, okC, okS, okW_iff, okN_iff, inR]; done) | skip)
  · refine aw_if_eq (tgt := 17) (pc' := 7) dX12_hard_4 (by decide) rfl (fun _ => ?_) (fun c => absurd (by decide) c)
    refine aw_iconst (v := (-1)) (pc' := 18) dX12_hard_17 rfl (by decide) ?_
    exact aw_ri dX12_hard_18 rfl rfl (Nat.le_of_ble_eq_true rfl) (Nat.le_of_ble_eq_true rfl) (by first | (simp [sp_hard, cnd, okC, okS, okW_iff, okN_iff, inR, c19, c20, c21, c22]; done) | (simp_all [sp_hard, cnd, okC, okS, okW_iff, okN_iff, inR]; done) | skip)
  · refine aw_if_eq (tgt := 17) (pc' := 7) dX12_hard_4 (by decide) rfl (fun c => absurd c (by decide)) (fun _ => ?_)
    refine aw_iload_n (pc' := 8) dX12_hard_7 rfl rfl ?_
    refine aw_iconst (v := 1) (pc' := 9) dX12_hard_8 rfl (by decide) ?_
    refine aw_bipush (v := 9) (pc' := 11) dX12_hard_9 rfl (by decide) ?_
    have cc28 : AM mX12_in 0 [.int v, .int 1, .int 9] h 0 0 (PI fun r h' => (v < 1 ∧ 0 = r ∧ h = h') ∨ (¬ (v < 1) ∧ 9 < v ∧ 0 = r ∧ h = h') ∨ (¬ (v < 1) ∧ ¬ (9 < v) ∧ 1 = r ∧ h = h')) := by
      refine am_of (lv := [some (.int v), some (.int 1), some (.int 9)]) rfl (Nat.le_of_ble_eq_true rfl) rfl ?_
      refine aw_iload_n (pc' := 1) dX12_in_0 rfl rfl ?_
      refine aw_iload_n (pc' := 2) dX12_in_1 rfl rfl ?_
      refine aw_clt (tgt := 14) (pc' := 5) dX12_in_2 (by decide) rfl (fun c29 => ?_) (fun c29 => ?_)
      · refine aw_iconst (v := 0) (pc' := 15) dX12_in_14 rfl (by decide) ?_
        exact aw_ri dX12_in_15 rfl (by decide) (Nat.le_of_ble_eq_true rfl) (Nat.le_of_ble_eq_true rfl) (Or.inl ⟨c29, rfl, rfl⟩)
      · refine aw_iload_n (pc' := 6) dX12_in_5 rfl rfl ?_
        refine aw_iload_n (pc' := 7) dX12_in_6 rfl rfl ?_
        refine aw_cgt (tgt := 14) (pc' := 10) dX12_in_7 (by decide) rfl (fun c30 => ?_) (fun c30 => ?_)
        · refine aw_iconst (v := 0) (pc' := 15) dX12_in_14 rfl (by decide) ?_
          exact aw_ri dX12_in_15 rfl (by decide) (Nat.le_of_ble_eq_true rfl) (Nat.le_of_ble_eq_true rfl) (Or.inr (Or.inl ⟨c29, c30, rfl, rfl⟩))
        · refine aw_iconst (v := 1) (pc' := 11) dX12_in_10 rfl (by decide) ?_
          refine aw_goto (tgt := 15) dX12_in_11 (by decide) ?_
          exact aw_ri dX12_in_15 rfl (by decide) (Nat.le_of_ble_eq_true rfl) (Nat.le_of_ble_eq_true rfl) (Or.inr (Or.inr ⟨c29, c30, rfl, rfl⟩))
    refine aw_callSi (M' := mX12_in) (nc' := 0) (ns' := 0) (pc' := 14) dX12_hard_11 rfl ml_RX12_230 kX12_in cc28 rfl rfl (Nat.le_of_ble_eq_true rfl) (rok rfl) rfl rfl (fun r36 h36 q36 => ?_)
    rcases q36 with ⟨c31, rfl, rfl⟩ | ⟨c32, c33, rfl, rfl⟩ | ⟨c34, c35, rfl, rfl⟩
    · refine aw_if_ne (tgt := 19) (pc' := 17) dX12_hard_14 (by decide) rfl (fun c => absurd (by decide) c) (fun _ => ?_)
      refine aw_iconst (v := (-1)) (pc' := 18) dX12_hard_17 rfl (by decide) ?_
      exact aw_ri dX12_hard_18 rfl rfl (Nat.le_of_ble_eq_true rfl) (Nat.le_of_ble_eq_true rfl) (by first | (simp [sp_hard, cnd, okC, okS, okW_iff, okN_iff, inR, c23, c24, c25, c26, c31]; done) | (simp_all [sp_hard, cnd, okC, okS, okW_iff, okN_iff, inR]; done) | skip)
    · refine aw_if_ne (tgt := 19) (pc' := 17) dX12_hard_14 (by decide) rfl (fun c => absurd (by decide) c) (fun _ => ?_)
      refine aw_iconst (v := (-1)) (pc' := 18) dX12_hard_17 rfl (by decide) ?_
      exact aw_ri dX12_hard_18 rfl rfl (Nat.le_of_ble_eq_true rfl) (Nat.le_of_ble_eq_true rfl) (by first | (simp [sp_hard, cnd, okC, okS, okW_iff, okN_iff, inR, c23, c24, c25, c26, c32, c33]; done) | (simp_all [sp_hard, cnd, okC, okS, okW_iff, okN_iff, inR]; done) | skip)
    · refine aw_if_ne (tgt := 19) (pc' := 17) dX12_hard_14 (by decide) rfl (fun _ => ?_) (fun c => absurd c (by decide))
      refine aw_iconst (v := 3) (pc' := 20) dX12_hard_19 rfl (by decide) ?_
      refine aw_aload_n (pc' := 21) dX12_hard_20 rfl rfl rfl ?_
      refine aw_get clsAll (pc' := 24) dX12_hard_21 rfl fl_RX12_7 hm.1 rfl ?_
      refine aw_iload_n (pc' := 25) dX12_hard_24 rfl rfl ?_
      have cc37 : AM mX12_placeOf 0 [.int c] h 0 0 (PI fun r h' => (((61 * (c / 100)) + (c % 100)) = r ∧ h = h')) := by
        refine am_of (lv := [some (.int c)]) rfl (Nat.le_of_ble_eq_true rfl) rfl ?_
        refine aw_bipush (v := 61) (pc' := 2) dX12_placeOf_0 rfl (by decide) ?_
        refine aw_iload_n (pc' := 3) dX12_placeOf_2 rfl rfl ?_
        refine aw_bipush (v := 100) (pc' := 5) dX12_placeOf_3 rfl (by decide) ?_
        refine aw_idiv (pc' := 6) dX12_placeOf_5 rfl (by decide) ?_
        refine aw_imul (pc' := 7) dX12_placeOf_6 rfl ?_
        refine aw_iload_n (pc' := 8) dX12_placeOf_7 rfl rfl ?_
        refine aw_bipush (v := 100) (pc' := 10) dX12_placeOf_8 rfl (by decide) ?_
        refine aw_irem (pc' := 11) dX12_placeOf_10 rfl (by decide) ?_
        refine aw_iadd (pc' := 12) dX12_placeOf_11 rfl ?_
        exact aw_ri dX12_placeOf_12 rfl rfl (Nat.le_of_ble_eq_true rfl) (Nat.le_of_ble_eq_true rfl) ⟨rfl, rfl⟩
      refine aw_callSi (M' := mX12_placeOf) (nc' := 0) (ns' := 0) (pc' := 28) dX12_hard_25 rfl ml_RX12_238 kX12_placeOf cc37 rfl rfl (Nat.le_of_ble_eq_true rfl) (rok rfl) rfl rfl (fun r38 h38 q38 => ?_)
      obtain ⟨rfl, rfl⟩ := q38
      refine aw_iald (v := 0) (pc' := 29) dX12_hard_28 rfl ((hm.2 60 (by decide) (by decide)).trans h0_60) (pl_m c23 c24 c25 c26) rfl ?_
      refine aw_iadd (pc' := 30) dX12_hard_29 rfl ?_
      refine aw_topi (v := 3) (by decide) ?_
      refine aw_istore_n (lv' := [_, _, _, _]) (pc' := 31) dX12_hard_30 rfl (Nat.le_of_ble_eq_true rfl) rfl ?_
      refine aw_aload_n (pc' := 32) dX12_hard_31 rfl rfl rfl ?_
      refine aw_get clsAll (pc' := 35) dX12_hard_32 rfl fl_RX12_7 hm.1 rfl ?_
      refine aw_iload_n (pc' := 36) dX12_hard_35 rfl rfl ?_
      have cc39 : AM mX12_placeOf 0 [.int c] h 0 0 (PI fun r h' => (((61 * (c / 100)) + (c % 100)) = r ∧ h = h')) := by
        refine am_of (lv := [some (.int c)]) rfl (Nat.le_of_ble_eq_true rfl) rfl ?_
        refine aw_bipush (v := 61) (pc' := 2) dX12_placeOf_0 rfl (by decide) ?_
        refine aw_iload_n (pc' := 3) dX12_placeOf_2 rfl rfl ?_
        refine aw_bipush (v := 100) (pc' := 5) dX12_placeOf_3 rfl (by decide) ?_
        refine aw_idiv (pc' := 6) dX12_placeOf_5 rfl (by decide) ?_
        refine aw_imul (pc' := 7) dX12_placeOf_6 rfl ?_
        refine aw_iload_n (pc' := 8) dX12_placeOf_7 rfl rfl ?_
        refine aw_bipush (v := 100) (pc' := 10) dX12_placeOf_8 rfl (by decide) ?_
        refine aw_irem (pc' := 11) dX12_placeOf_10 rfl (by decide) ?_
        refine aw_iadd (pc' := 12) dX12_placeOf_11 rfl ?_
        exact aw_ri dX12_placeOf_12 rfl rfl (Nat.le_of_ble_eq_true rfl) (Nat.le_of_ble_eq_true rfl) ⟨rfl, rfl⟩
      refine aw_callSi (M' := mX12_placeOf) (nc' := 0) (ns' := 0) (pc' := 39) dX12_hard_36 rfl ml_RX12_238 kX12_placeOf cc39 rfl rfl (Nat.le_of_ble_eq_true rfl) (rok rfl) rfl rfl (fun r40 h40 q40 => ?_)
      obtain ⟨rfl, rfl⟩ := q40
      refine aw_iload_n (pc' := 40) dX12_hard_39 rfl rfl ?_
      refine aw_iconst (v := 3) (pc' := 41) dX12_hard_40 rfl (by decide) ?_
      refine aw_isub (pc' := 42) dX12_hard_41 rfl ?_
      refine aw_iastG (pc' := 43) dX12_hard_42 rfl ((hm.2 60 (by decide) (by decide)).trans h0_60) (pl_m c23 c24 c25 c26) (fun h41 e41 => ?_)
      refine aw_iload_n (pc' := 44) dX12_hard_43 rfl rfl ?_
      exact aw_ri dX12_hard_44 rfl rfl (Nat.le_of_ble_eq_true rfl) (Nat.le_of_ble_eq_true rfl) (by first | (simp [sp_hard, cnd, okC, okS, okW_iff, okN_iff, inR, c23, c24, c25, c26, c34, c35]; done) | (simp_all [sp_hard, cnd, okC, okS, okW_iff, okN_iff, inR]; done) | skip)
set_option maxRecDepth 4000 in
theorem m_open (h : List aE) (hm : Fm 0 h) (c : Int32) (v : Int32) : AM mX12_open 2 [.ref 67, .int c, .int v] h 0 0 (PI fun r h' => r = sp_open c v) := by
  refine am_of (lv := [some (.ref 67), some (.int c), some (.int v), none]) rfl (Nat.le_of_ble_eq_true rfl) rfl ?_
  refine aw_iload_n (pc' := 1) dX12_open_0 rfl rfl ?_
  have cc1 : AM mX12_isCell 1 [.int c] h 0 0 (PI fun r h' => (c < 0 ∧ 0 = r ∧ h = h') ∨ (¬ (c < 0) ∧ ¬ ((c / 100) < 32) ∧ 0 = r ∧ h = h') ∨ (¬ (c < 0) ∧ (c / 100) < 32 ∧ (c % 100) < 1 ∧ 0 = r ∧ h = h') ∨ (¬ (c < 0) ∧ (c / 100) < 32 ∧ ¬ ((c % 100) < 1) ∧ 60 < (c % 100) ∧ 0 = r ∧ h = h') ∨ (¬ (c < 0) ∧ (c / 100) < 32 ∧ ¬ ((c % 100) < 1) ∧ ¬ (60 < (c % 100)) ∧ 1 = r ∧ h = h')) := by
    refine am_of (lv := [some (.int c)]) rfl (Nat.le_of_ble_eq_true rfl) rfl ?_
    refine aw_iload_n (pc' := 1) dX12_isCell_0 rfl rfl ?_
    refine aw_zlt (tgt := 30) (pc' := 4) dX12_isCell_1 (by decide) rfl (fun c2 => ?_) (fun c2 => ?_)
    · refine aw_iconst (v := 0) (pc' := 31) dX12_isCell_30 rfl (by decide) ?_
      exact aw_ri dX12_isCell_31 rfl (by decide) (Nat.le_of_ble_eq_true rfl) (Nat.le_of_ble_eq_true rfl) (Or.inl ⟨c2, rfl, rfl⟩)
    · refine aw_iload_n (pc' := 5) dX12_isCell_4 rfl rfl ?_
      refine aw_bipush (v := 100) (pc' := 7) dX12_isCell_5 rfl (by decide) ?_
      refine aw_idiv (pc' := 8) dX12_isCell_7 rfl (by decide) ?_
      refine aw_bipush (v := 32) (pc' := 10) dX12_isCell_8 rfl (by decide) ?_
      refine aw_cge (tgt := 30) (pc' := 13) dX12_isCell_10 (by decide) rfl (fun c3 => ?_) (fun c3 => ?_)
      · refine aw_iconst (v := 0) (pc' := 31) dX12_isCell_30 rfl (by decide) ?_
        exact aw_ri dX12_isCell_31 rfl (by decide) (Nat.le_of_ble_eq_true rfl) (Nat.le_of_ble_eq_true rfl) (Or.inr (Or.inl ⟨c2, c3, rfl, rfl⟩))
      · refine aw_iload_n (pc' := 14) dX12_isCell_13 rfl rfl ?_
        refine aw_bipush (v := 100) (pc' := 16) dX12_isCell_14 rfl (by decide) ?_
        refine aw_irem (pc' := 17) dX12_isCell_16 rfl (by decide) ?_
        refine aw_iconst (v := 1) (pc' := 18) dX12_isCell_17 rfl (by decide) ?_
        refine aw_bipush (v := 60) (pc' := 20) dX12_isCell_18 rfl (by decide) ?_
        have cc4 : AM mX12_in 0 [.int (c % 100), .int 1, .int 60] h 0 0 (PI fun r h' => ((c % 100) < 1 ∧ 0 = r ∧ h = h') ∨ (¬ ((c % 100) < 1) ∧ 60 < (c % 100) ∧ 0 = r ∧ h = h') ∨ (¬ ((c % 100) < 1) ∧ ¬ (60 < (c % 100)) ∧ 1 = r ∧ h = h')) := by
          refine am_of (lv := [some (.int (c % 100)), some (.int 1), some (.int 60)]) rfl (Nat.le_of_ble_eq_true rfl) rfl ?_
          refine aw_iload_n (pc' := 1) dX12_in_0 rfl rfl ?_
          refine aw_iload_n (pc' := 2) dX12_in_1 rfl rfl ?_
          refine aw_clt (tgt := 14) (pc' := 5) dX12_in_2 (by decide) rfl (fun c5 => ?_) (fun c5 => ?_)
          · refine aw_iconst (v := 0) (pc' := 15) dX12_in_14 rfl (by decide) ?_
            exact aw_ri dX12_in_15 rfl (by decide) (Nat.le_of_ble_eq_true rfl) (Nat.le_of_ble_eq_true rfl) (Or.inl ⟨c5, rfl, rfl⟩)
          · refine aw_iload_n (pc' := 6) dX12_in_5 rfl rfl ?_
            refine aw_iload_n (pc' := 7) dX12_in_6 rfl rfl ?_
            refine aw_cgt (tgt := 14) (pc' := 10) dX12_in_7 (by decide) rfl (fun c6 => ?_) (fun c6 => ?_)
            · refine aw_iconst (v := 0) (pc' := 15) dX12_in_14 rfl (by decide) ?_
              exact aw_ri dX12_in_15 rfl (by decide) (Nat.le_of_ble_eq_true rfl) (Nat.le_of_ble_eq_true rfl) (Or.inr (Or.inl ⟨c5, c6, rfl, rfl⟩))
            · refine aw_iconst (v := 1) (pc' := 11) dX12_in_10 rfl (by decide) ?_
              refine aw_goto (tgt := 15) dX12_in_11 (by decide) ?_
              exact aw_ri dX12_in_15 rfl (by decide) (Nat.le_of_ble_eq_true rfl) (Nat.le_of_ble_eq_true rfl) (Or.inr (Or.inr ⟨c5, c6, rfl, rfl⟩))
        refine aw_callSi (M' := mX12_in) (nc' := 0) (ns' := 0) (pc' := 23) dX12_isCell_20 rfl ml_RX12_230 kX12_in cc4 rfl rfl (Nat.le_of_ble_eq_true rfl) (rok rfl) rfl rfl (fun r12 h12 q12 => ?_)
        rcases q12 with ⟨c7, rfl, rfl⟩ | ⟨c8, c9, rfl, rfl⟩ | ⟨c10, c11, rfl, rfl⟩
        · refine aw_if_eq (tgt := 30) (pc' := 26) dX12_isCell_23 (by decide) rfl (fun _ => ?_) (fun c => absurd (by decide) c)
          refine aw_iconst (v := 0) (pc' := 31) dX12_isCell_30 rfl (by decide) ?_
          exact aw_ri dX12_isCell_31 rfl (by decide) (Nat.le_of_ble_eq_true rfl) (Nat.le_of_ble_eq_true rfl) (Or.inr (Or.inr (Or.inl ⟨c2, c3, c7, rfl, rfl⟩)))
        · refine aw_if_eq (tgt := 30) (pc' := 26) dX12_isCell_23 (by decide) rfl (fun _ => ?_) (fun c => absurd (by decide) c)
          refine aw_iconst (v := 0) (pc' := 31) dX12_isCell_30 rfl (by decide) ?_
          exact aw_ri dX12_isCell_31 rfl (by decide) (Nat.le_of_ble_eq_true rfl) (Nat.le_of_ble_eq_true rfl) (Or.inr (Or.inr (Or.inr (Or.inl ⟨c2, c3, c8, c9, rfl, rfl⟩))))
        · refine aw_if_eq (tgt := 30) (pc' := 26) dX12_isCell_23 (by decide) rfl (fun c => absurd c (by decide)) (fun _ => ?_)
          refine aw_iconst (v := 1) (pc' := 27) dX12_isCell_26 rfl (by decide) ?_
          refine aw_goto (tgt := 31) dX12_isCell_27 (by decide) ?_
          exact aw_ri dX12_isCell_31 rfl (by decide) (Nat.le_of_ble_eq_true rfl) (Nat.le_of_ble_eq_true rfl) (Or.inr (Or.inr (Or.inr (Or.inr ⟨c2, c3, c10, c11, rfl, rfl⟩))))
  refine aw_callSi (M' := mX12_isCell) (nc' := 0) (ns' := 0) (pc' := 4) dX12_open_1 rfl ml_RX12_234 kX12_isCell cc1 rfl rfl (Nat.le_of_ble_eq_true rfl) (rok rfl) rfl rfl (fun r27 h27 q27 => ?_)
  rcases q27 with ⟨c13, rfl, rfl⟩ | ⟨c14, c15, rfl, rfl⟩ | ⟨c16, c17, c18, rfl, rfl⟩ | ⟨c19, c20, c21, c22, rfl, rfl⟩ | ⟨c23, c24, c25, c26, rfl, rfl⟩
  · refine aw_if_eq (tgt := 16) (pc' := 7) dX12_open_4 (by decide) rfl (fun _ => ?_) (fun c => absurd (by decide) c)
    refine aw_iconst (v := (-1)) (pc' := 17) dX12_open_16 rfl (by decide) ?_
    exact aw_ri dX12_open_17 rfl rfl (Nat.le_of_ble_eq_true rfl) (Nat.le_of_ble_eq_true rfl) (by first | (simp [sp_open, cnd, okC, okS, okW_iff, okN_iff, inR, c13]; done) | (simp_all [sp_open, cnd, okC, okS, okW_iff, okN_iff, inR]; done) | skip)
  · refine aw_if_eq (tgt := 16) (pc' := 7) dX12_open_4 (by decide) rfl (fun _ => ?_) (fun c => absurd (by decide) c)
    refine aw_iconst (v := (-1)) (pc' := 17) dX12_open_16 rfl (by decide) ?_
    exact aw_ri dX12_open_17 rfl rfl (Nat.le_of_ble_eq_true rfl) (Nat.le_of_ble_eq_true rfl) (by first | (simp [sp_open, cnd, okC, okS, okW_iff, okN_iff, inR, c14, c15]; done) | (simp_all [sp_open, cnd, okC, okS, okW_iff, okN_iff, inR]; done) | skip)
  · refine aw_if_eq (tgt := 16) (pc' := 7) dX12_open_4 (by decide) rfl (fun _ => ?_) (fun c => absurd (by decide) c)
    refine aw_iconst (v := (-1)) (pc' := 17) dX12_open_16 rfl (by decide) ?_
    exact aw_ri dX12_open_17 rfl rfl (Nat.le_of_ble_eq_true rfl) (Nat.le_of_ble_eq_true rfl) (by first | (simp [sp_open, cnd, okC, okS, okW_iff, okN_iff, inR, c16, c17, c18]; done) | (simp_all [sp_open, cnd, okC, okS, okW_iff, okN_iff, inR]; done) | skip)
  · refine aw_if_eq (tgt := 16) (pc' := 7) dX12_open_4 (by decide) rfl (fun _ => ?_) (fun c => absurd (by decide) c)
    refine aw_iconst (v := (-1)) (pc' := 17) dX12_open_16 rfl (by decide) ?_
    exact aw_ri dX12_open_17 rfl rfl (Nat.le_of_ble_eq_true rfl) (Nat.le_of_ble_eq_true rfl) (by first | (simp [sp_open, cnd, okC, okS, okW_iff, okN_iff, inR, c19, c20, c21, c22]; done) | (simp_all [sp_open, cnd, okC, okS, okW_iff, okN_iff, inR]; done) | skip)
  · refine aw_if_eq (tgt := 16) (pc' := 7) dX12_open_4 (by decide) rfl (fun c => absurd c (by decide)) (fun _ => ?_)
    refine aw_iload_n (pc' := 8) dX12_open_7 rfl rfl ?_
    refine aw_iconst (v := 0) (pc' := 9) dX12_open_8 rfl (by decide) ?_
    refine aw_iconst (v := 1) (pc' := 10) dX12_open_9 rfl (by decide) ?_
    have cc28 : AM mX12_in 0 [.int v, .int 0, .int 1] h 0 0 (PI fun r h' => (v < 0 ∧ 0 = r ∧ h = h') ∨ (¬ (v < 0) ∧ 1 < v ∧ 0 = r ∧ h = h') ∨ (¬ (v < 0) ∧ ¬ (1 < v) ∧ 1 = r ∧ h = h')) := by
      refine am_of (lv := [some (.int v), some (.int 0), some (.int 1)]) rfl (Nat.le_of_ble_eq_true rfl) rfl ?_
      refine aw_iload_n (pc' := 1) dX12_in_0 rfl rfl ?_
      refine aw_iload_n (pc' := 2) dX12_in_1 rfl rfl ?_
      refine aw_clt (tgt := 14) (pc' := 5) dX12_in_2 (by decide) rfl (fun c29 => ?_) (fun c29 => ?_)
      · refine aw_iconst (v := 0) (pc' := 15) dX12_in_14 rfl (by decide) ?_
        exact aw_ri dX12_in_15 rfl (by decide) (Nat.le_of_ble_eq_true rfl) (Nat.le_of_ble_eq_true rfl) (Or.inl ⟨c29, rfl, rfl⟩)
      · refine aw_iload_n (pc' := 6) dX12_in_5 rfl rfl ?_
        refine aw_iload_n (pc' := 7) dX12_in_6 rfl rfl ?_
        refine aw_cgt (tgt := 14) (pc' := 10) dX12_in_7 (by decide) rfl (fun c30 => ?_) (fun c30 => ?_)
        · refine aw_iconst (v := 0) (pc' := 15) dX12_in_14 rfl (by decide) ?_
          exact aw_ri dX12_in_15 rfl (by decide) (Nat.le_of_ble_eq_true rfl) (Nat.le_of_ble_eq_true rfl) (Or.inr (Or.inl ⟨c29, c30, rfl, rfl⟩))
        · refine aw_iconst (v := 1) (pc' := 11) dX12_in_10 rfl (by decide) ?_
          refine aw_goto (tgt := 15) dX12_in_11 (by decide) ?_
          exact aw_ri dX12_in_15 rfl (by decide) (Nat.le_of_ble_eq_true rfl) (Nat.le_of_ble_eq_true rfl) (Or.inr (Or.inr ⟨c29, c30, rfl, rfl⟩))
    refine aw_callSi (M' := mX12_in) (nc' := 0) (ns' := 0) (pc' := 13) dX12_open_10 rfl ml_RX12_230 kX12_in cc28 rfl rfl (Nat.le_of_ble_eq_true rfl) (rok rfl) rfl rfl (fun r36 h36 q36 => ?_)
    rcases q36 with ⟨c31, rfl, rfl⟩ | ⟨c32, c33, rfl, rfl⟩ | ⟨c34, c35, rfl, rfl⟩
    · refine aw_if_ne (tgt := 18) (pc' := 16) dX12_open_13 (by decide) rfl (fun c => absurd (by decide) c) (fun _ => ?_)
      refine aw_iconst (v := (-1)) (pc' := 17) dX12_open_16 rfl (by decide) ?_
      exact aw_ri dX12_open_17 rfl rfl (Nat.le_of_ble_eq_true rfl) (Nat.le_of_ble_eq_true rfl) (by first | (simp [sp_open, cnd, okC, okS, okW_iff, okN_iff, inR, c23, c24, c25, c26, c31]; done) | (simp_all [sp_open, cnd, okC, okS, okW_iff, okN_iff, inR]; done) | skip)
    · refine aw_if_ne (tgt := 18) (pc' := 16) dX12_open_13 (by decide) rfl (fun c => absurd (by decide) c) (fun _ => ?_)
      refine aw_iconst (v := (-1)) (pc' := 17) dX12_open_16 rfl (by decide) ?_
      exact aw_ri dX12_open_17 rfl rfl (Nat.le_of_ble_eq_true rfl) (Nat.le_of_ble_eq_true rfl) (by first | (simp [sp_open, cnd, okC, okS, okW_iff, okN_iff, inR, c23, c24, c25, c26, c32, c33]; done) | (simp_all [sp_open, cnd, okC, okS, okW_iff, okN_iff, inR]; done) | skip)
    · refine aw_if_ne (tgt := 18) (pc' := 16) dX12_open_13 (by decide) rfl (fun _ => ?_) (fun c => absurd c (by decide))
      refine aw_aload_n (pc' := 19) dX12_open_18 rfl rfl rfl ?_
      refine aw_get clsAll (pc' := 22) dX12_open_19 rfl fl_RX12_13 hm.1 rfl ?_
      refine aw_iload_n (pc' := 23) dX12_open_22 rfl rfl ?_
      have cc37 : AM mX12_placeOf 0 [.int c] h 0 0 (PI fun r h' => (((61 * (c / 100)) + (c % 100)) = r ∧ h = h')) := by
        refine am_of (lv := [some (.int c)]) rfl (Nat.le_of_ble_eq_true rfl) rfl ?_
        refine aw_bipush (v := 61) (pc' := 2) dX12_placeOf_0 rfl (by decide) ?_
        refine aw_iload_n (pc' := 3) dX12_placeOf_2 rfl rfl ?_
        refine aw_bipush (v := 100) (pc' := 5) dX12_placeOf_3 rfl (by decide) ?_
        refine aw_idiv (pc' := 6) dX12_placeOf_5 rfl (by decide) ?_
        refine aw_imul (pc' := 7) dX12_placeOf_6 rfl ?_
        refine aw_iload_n (pc' := 8) dX12_placeOf_7 rfl rfl ?_
        refine aw_bipush (v := 100) (pc' := 10) dX12_placeOf_8 rfl (by decide) ?_
        refine aw_irem (pc' := 11) dX12_placeOf_10 rfl (by decide) ?_
        refine aw_iadd (pc' := 12) dX12_placeOf_11 rfl ?_
        exact aw_ri dX12_placeOf_12 rfl rfl (Nat.le_of_ble_eq_true rfl) (Nat.le_of_ble_eq_true rfl) ⟨rfl, rfl⟩
      refine aw_callSi (M' := mX12_placeOf) (nc' := 0) (ns' := 0) (pc' := 26) dX12_open_23 rfl ml_RX12_238 kX12_placeOf cc37 rfl rfl (Nat.le_of_ble_eq_true rfl) (rok rfl) rfl rfl (fun r38 h38 q38 => ?_)
      obtain ⟨rfl, rfl⟩ := q38
      refine aw_zald (v := 0) (pc' := 27) dX12_open_26 rfl ((hm.2 61 (by decide) (by decide)).trans h0_61) (pl_m c23 c24 c25 c26) rfl ?_
      refine aw_if_eq (tgt := 34) (pc' := 30) dX12_open_27 (by decide) rfl (fun _ => ?_) (fun c => absurd (by decide) c)
      refine aw_iconst (v := 0) (pc' := 35) dX12_open_34 rfl (by decide) ?_
      refine aw_istore_n (lv' := [_, _, _, _]) (pc' := 36) dX12_open_35 rfl (Nat.le_of_ble_eq_true rfl) rfl ?_
      refine aw_aload_n (pc' := 37) dX12_open_36 rfl rfl rfl ?_
      refine aw_get clsAll (pc' := 40) dX12_open_37 rfl fl_RX12_13 hm.1 rfl ?_
      refine aw_iload_n (pc' := 41) dX12_open_40 rfl rfl ?_
      have cc39 : AM mX12_placeOf 0 [.int c] h 0 0 (PI fun r h' => (((61 * (c / 100)) + (c % 100)) = r ∧ h = h')) := by
        refine am_of (lv := [some (.int c)]) rfl (Nat.le_of_ble_eq_true rfl) rfl ?_
        refine aw_bipush (v := 61) (pc' := 2) dX12_placeOf_0 rfl (by decide) ?_
        refine aw_iload_n (pc' := 3) dX12_placeOf_2 rfl rfl ?_
        refine aw_bipush (v := 100) (pc' := 5) dX12_placeOf_3 rfl (by decide) ?_
        refine aw_idiv (pc' := 6) dX12_placeOf_5 rfl (by decide) ?_
        refine aw_imul (pc' := 7) dX12_placeOf_6 rfl ?_
        refine aw_iload_n (pc' := 8) dX12_placeOf_7 rfl rfl ?_
        refine aw_bipush (v := 100) (pc' := 10) dX12_placeOf_8 rfl (by decide) ?_
        refine aw_irem (pc' := 11) dX12_placeOf_10 rfl (by decide) ?_
        refine aw_iadd (pc' := 12) dX12_placeOf_11 rfl ?_
        exact aw_ri dX12_placeOf_12 rfl rfl (Nat.le_of_ble_eq_true rfl) (Nat.le_of_ble_eq_true rfl) ⟨rfl, rfl⟩
      refine aw_callSi (M' := mX12_placeOf) (nc' := 0) (ns' := 0) (pc' := 44) dX12_open_41 rfl ml_RX12_238 kX12_placeOf cc39 rfl rfl (Nat.le_of_ble_eq_true rfl) (rok rfl) rfl rfl (fun r40 h40 q40 => ?_)
      obtain ⟨rfl, rfl⟩ := q40
      refine aw_iload_n (pc' := 45) dX12_open_44 rfl rfl ?_
      refine aw_iconst (v := 1) (pc' := 46) dX12_open_45 rfl (by decide) ?_
      refine aw_icmp_ne (tgt := 53) (pc' := 49) dX12_open_46 (by decide) rfl (fun c41 => ?_) (fun c41 => ?_)
      · refine aw_iconst (v := 0) (pc' := 54) dX12_open_53 rfl (by decide) ?_
        refine aw_zastG (pc' := 55) dX12_open_54 rfl ((hm.2 61 (by decide) (by decide)).trans h0_61) (pl_m c23 c24 c25 c26) (by decide) (fun h42 e42 => ?_)
        refine aw_iload_n (pc' := 56) dX12_open_55 rfl rfl ?_
        exact aw_ri dX12_open_56 rfl rfl (Nat.le_of_ble_eq_true rfl) (Nat.le_of_ble_eq_true rfl) (by first | (simp [sp_open, cnd, okC, okS, okW_iff, okN_iff, inR, c23, c24, c25, c26, c34, c35, c41]; done) | (simp_all [sp_open, cnd, okC, okS, okW_iff, okN_iff, inR]; done) | skip)
      · refine aw_iconst (v := 1) (pc' := 50) dX12_open_49 rfl (by decide) ?_
        refine aw_goto (tgt := 54) dX12_open_50 (by decide) ?_
        refine aw_zastG (pc' := 55) dX12_open_54 rfl ((hm.2 61 (by decide) (by decide)).trans h0_61) (pl_m c23 c24 c25 c26) (by decide) (fun h43 e43 => ?_)
        refine aw_iload_n (pc' := 56) dX12_open_55 rfl rfl ?_
        exact aw_ri dX12_open_56 rfl rfl (Nat.le_of_ble_eq_true rfl) (Nat.le_of_ble_eq_true rfl) (by first | (simp [sp_open, cnd, okC, okS, okW_iff, okN_iff, inR, c23, c24, c25, c26, c34, c35, c41]; done) | (simp_all [sp_open, cnd, okC, okS, okW_iff, okN_iff, inR]; done) | skip)
set_option maxRecDepth 4000 in
theorem m_ofCell (h : List aE) (hm : Fm 0 h) (c : Int32) (v : Int32) : AM mX12_ofCell 2 [.ref 67, .int c, .int v] h 0 0 (PI fun r h' => r = sp_ofCell c v) := by
  refine am_of (lv := [some (.ref 67), some (.int c), some (.int v)]) rfl (Nat.le_of_ble_eq_true rfl) rfl ?_
  refine aw_iload_n (pc' := 1) dX12_ofCell_0 rfl rfl ?_
  have cc1 : AM mX12_isCell 1 [.int c] h 0 0 (PI fun r h' => (c < 0 ∧ 0 = r ∧ h = h') ∨ (¬ (c < 0) ∧ ¬ ((c / 100) < 32) ∧ 0 = r ∧ h = h') ∨ (¬ (c < 0) ∧ (c / 100) < 32 ∧ (c % 100) < 1 ∧ 0 = r ∧ h = h') ∨ (¬ (c < 0) ∧ (c / 100) < 32 ∧ ¬ ((c % 100) < 1) ∧ 60 < (c % 100) ∧ 0 = r ∧ h = h') ∨ (¬ (c < 0) ∧ (c / 100) < 32 ∧ ¬ ((c % 100) < 1) ∧ ¬ (60 < (c % 100)) ∧ 1 = r ∧ h = h')) := by
    refine am_of (lv := [some (.int c)]) rfl (Nat.le_of_ble_eq_true rfl) rfl ?_
    refine aw_iload_n (pc' := 1) dX12_isCell_0 rfl rfl ?_
    refine aw_zlt (tgt := 30) (pc' := 4) dX12_isCell_1 (by decide) rfl (fun c2 => ?_) (fun c2 => ?_)
    · refine aw_iconst (v := 0) (pc' := 31) dX12_isCell_30 rfl (by decide) ?_
      exact aw_ri dX12_isCell_31 rfl (by decide) (Nat.le_of_ble_eq_true rfl) (Nat.le_of_ble_eq_true rfl) (Or.inl ⟨c2, rfl, rfl⟩)
    · refine aw_iload_n (pc' := 5) dX12_isCell_4 rfl rfl ?_
      refine aw_bipush (v := 100) (pc' := 7) dX12_isCell_5 rfl (by decide) ?_
      refine aw_idiv (pc' := 8) dX12_isCell_7 rfl (by decide) ?_
      refine aw_bipush (v := 32) (pc' := 10) dX12_isCell_8 rfl (by decide) ?_
      refine aw_cge (tgt := 30) (pc' := 13) dX12_isCell_10 (by decide) rfl (fun c3 => ?_) (fun c3 => ?_)
      · refine aw_iconst (v := 0) (pc' := 31) dX12_isCell_30 rfl (by decide) ?_
        exact aw_ri dX12_isCell_31 rfl (by decide) (Nat.le_of_ble_eq_true rfl) (Nat.le_of_ble_eq_true rfl) (Or.inr (Or.inl ⟨c2, c3, rfl, rfl⟩))
      · refine aw_iload_n (pc' := 14) dX12_isCell_13 rfl rfl ?_
        refine aw_bipush (v := 100) (pc' := 16) dX12_isCell_14 rfl (by decide) ?_
        refine aw_irem (pc' := 17) dX12_isCell_16 rfl (by decide) ?_
        refine aw_iconst (v := 1) (pc' := 18) dX12_isCell_17 rfl (by decide) ?_
        refine aw_bipush (v := 60) (pc' := 20) dX12_isCell_18 rfl (by decide) ?_
        have cc4 : AM mX12_in 0 [.int (c % 100), .int 1, .int 60] h 0 0 (PI fun r h' => ((c % 100) < 1 ∧ 0 = r ∧ h = h') ∨ (¬ ((c % 100) < 1) ∧ 60 < (c % 100) ∧ 0 = r ∧ h = h') ∨ (¬ ((c % 100) < 1) ∧ ¬ (60 < (c % 100)) ∧ 1 = r ∧ h = h')) := by
          refine am_of (lv := [some (.int (c % 100)), some (.int 1), some (.int 60)]) rfl (Nat.le_of_ble_eq_true rfl) rfl ?_
          refine aw_iload_n (pc' := 1) dX12_in_0 rfl rfl ?_
          refine aw_iload_n (pc' := 2) dX12_in_1 rfl rfl ?_
          refine aw_clt (tgt := 14) (pc' := 5) dX12_in_2 (by decide) rfl (fun c5 => ?_) (fun c5 => ?_)
          · refine aw_iconst (v := 0) (pc' := 15) dX12_in_14 rfl (by decide) ?_
            exact aw_ri dX12_in_15 rfl (by decide) (Nat.le_of_ble_eq_true rfl) (Nat.le_of_ble_eq_true rfl) (Or.inl ⟨c5, rfl, rfl⟩)
          · refine aw_iload_n (pc' := 6) dX12_in_5 rfl rfl ?_
            refine aw_iload_n (pc' := 7) dX12_in_6 rfl rfl ?_
            refine aw_cgt (tgt := 14) (pc' := 10) dX12_in_7 (by decide) rfl (fun c6 => ?_) (fun c6 => ?_)
            · refine aw_iconst (v := 0) (pc' := 15) dX12_in_14 rfl (by decide) ?_
              exact aw_ri dX12_in_15 rfl (by decide) (Nat.le_of_ble_eq_true rfl) (Nat.le_of_ble_eq_true rfl) (Or.inr (Or.inl ⟨c5, c6, rfl, rfl⟩))
            · refine aw_iconst (v := 1) (pc' := 11) dX12_in_10 rfl (by decide) ?_
              refine aw_goto (tgt := 15) dX12_in_11 (by decide) ?_
              exact aw_ri dX12_in_15 rfl (by decide) (Nat.le_of_ble_eq_true rfl) (Nat.le_of_ble_eq_true rfl) (Or.inr (Or.inr ⟨c5, c6, rfl, rfl⟩))
        refine aw_callSi (M' := mX12_in) (nc' := 0) (ns' := 0) (pc' := 23) dX12_isCell_20 rfl ml_RX12_230 kX12_in cc4 rfl rfl (Nat.le_of_ble_eq_true rfl) (rok rfl) rfl rfl (fun r12 h12 q12 => ?_)
        rcases q12 with ⟨c7, rfl, rfl⟩ | ⟨c8, c9, rfl, rfl⟩ | ⟨c10, c11, rfl, rfl⟩
        · refine aw_if_eq (tgt := 30) (pc' := 26) dX12_isCell_23 (by decide) rfl (fun _ => ?_) (fun c => absurd (by decide) c)
          refine aw_iconst (v := 0) (pc' := 31) dX12_isCell_30 rfl (by decide) ?_
          exact aw_ri dX12_isCell_31 rfl (by decide) (Nat.le_of_ble_eq_true rfl) (Nat.le_of_ble_eq_true rfl) (Or.inr (Or.inr (Or.inl ⟨c2, c3, c7, rfl, rfl⟩)))
        · refine aw_if_eq (tgt := 30) (pc' := 26) dX12_isCell_23 (by decide) rfl (fun _ => ?_) (fun c => absurd (by decide) c)
          refine aw_iconst (v := 0) (pc' := 31) dX12_isCell_30 rfl (by decide) ?_
          exact aw_ri dX12_isCell_31 rfl (by decide) (Nat.le_of_ble_eq_true rfl) (Nat.le_of_ble_eq_true rfl) (Or.inr (Or.inr (Or.inr (Or.inl ⟨c2, c3, c8, c9, rfl, rfl⟩))))
        · refine aw_if_eq (tgt := 30) (pc' := 26) dX12_isCell_23 (by decide) rfl (fun c => absurd c (by decide)) (fun _ => ?_)
          refine aw_iconst (v := 1) (pc' := 27) dX12_isCell_26 rfl (by decide) ?_
          refine aw_goto (tgt := 31) dX12_isCell_27 (by decide) ?_
          exact aw_ri dX12_isCell_31 rfl (by decide) (Nat.le_of_ble_eq_true rfl) (Nat.le_of_ble_eq_true rfl) (Or.inr (Or.inr (Or.inr (Or.inr ⟨c2, c3, c10, c11, rfl, rfl⟩))))
  refine aw_callSi (M' := mX12_isCell) (nc' := 0) (ns' := 0) (pc' := 4) dX12_ofCell_1 rfl ml_RX12_234 kX12_isCell cc1 rfl rfl (Nat.le_of_ble_eq_true rfl) (rok rfl) rfl rfl (fun r27 h27 q27 => ?_)
  rcases q27 with ⟨c13, rfl, rfl⟩ | ⟨c14, c15, rfl, rfl⟩ | ⟨c16, c17, c18, rfl, rfl⟩ | ⟨c19, c20, c21, c22, rfl, rfl⟩ | ⟨c23, c24, c25, c26, rfl, rfl⟩
  · refine aw_if_eq (tgt := 16) (pc' := 7) dX12_ofCell_4 (by decide) rfl (fun _ => ?_) (fun c => absurd (by decide) c)
    refine aw_iconst (v := (-1)) (pc' := 17) dX12_ofCell_16 rfl (by decide) ?_
    refine aw_goto (tgt := 55) dX12_ofCell_17 (by decide) ?_
    exact aw_ri dX12_ofCell_55 rfl rfl (Nat.le_of_ble_eq_true rfl) (Nat.le_of_ble_eq_true rfl) (by first | (simp [sp_ofCell, cnd, okC, okS, okW_iff, okN_iff, inR, c13]; done) | (simp_all [sp_ofCell, cnd, okC, okS, okW_iff, okN_iff, inR]; done) | skip)
  · refine aw_if_eq (tgt := 16) (pc' := 7) dX12_ofCell_4 (by decide) rfl (fun _ => ?_) (fun c => absurd (by decide) c)
    refine aw_iconst (v := (-1)) (pc' := 17) dX12_ofCell_16 rfl (by decide) ?_
    refine aw_goto (tgt := 55) dX12_ofCell_17 (by decide) ?_
    exact aw_ri dX12_ofCell_55 rfl rfl (Nat.le_of_ble_eq_true rfl) (Nat.le_of_ble_eq_true rfl) (by first | (simp [sp_ofCell, cnd, okC, okS, okW_iff, okN_iff, inR, c14, c15]; done) | (simp_all [sp_ofCell, cnd, okC, okS, okW_iff, okN_iff, inR]; done) | skip)
  · refine aw_if_eq (tgt := 16) (pc' := 7) dX12_ofCell_4 (by decide) rfl (fun _ => ?_) (fun c => absurd (by decide) c)
    refine aw_iconst (v := (-1)) (pc' := 17) dX12_ofCell_16 rfl (by decide) ?_
    refine aw_goto (tgt := 55) dX12_ofCell_17 (by decide) ?_
    exact aw_ri dX12_ofCell_55 rfl rfl (Nat.le_of_ble_eq_true rfl) (Nat.le_of_ble_eq_true rfl) (by first | (simp [sp_ofCell, cnd, okC, okS, okW_iff, okN_iff, inR, c16, c17, c18]; done) | (simp_all [sp_ofCell, cnd, okC, okS, okW_iff, okN_iff, inR]; done) | skip)
  · refine aw_if_eq (tgt := 16) (pc' := 7) dX12_ofCell_4 (by decide) rfl (fun _ => ?_) (fun c => absurd (by decide) c)
    refine aw_iconst (v := (-1)) (pc' := 17) dX12_ofCell_16 rfl (by decide) ?_
    refine aw_goto (tgt := 55) dX12_ofCell_17 (by decide) ?_
    exact aw_ri dX12_ofCell_55 rfl rfl (Nat.le_of_ble_eq_true rfl) (Nat.le_of_ble_eq_true rfl) (by first | (simp [sp_ofCell, cnd, okC, okS, okW_iff, okN_iff, inR, c19, c20, c21, c22]; done) | (simp_all [sp_ofCell, cnd, okC, okS, okW_iff, okN_iff, inR]; done) | skip)
  · refine aw_if_eq (tgt := 16) (pc' := 7) dX12_ofCell_4 (by decide) rfl (fun c => absurd c (by decide)) (fun _ => ?_)
    refine aw_iload_n (pc' := 8) dX12_ofCell_7 rfl rfl ?_
    refine aw_iconst (v := 0) (pc' := 9) dX12_ofCell_8 rfl (by decide) ?_
    refine aw_iconst (v := 1) (pc' := 10) dX12_ofCell_9 rfl (by decide) ?_
    have cc28 : AM mX12_in 0 [.int v, .int 0, .int 1] h 0 0 (PI fun r h' => (v < 0 ∧ 0 = r ∧ h = h') ∨ (¬ (v < 0) ∧ 1 < v ∧ 0 = r ∧ h = h') ∨ (¬ (v < 0) ∧ ¬ (1 < v) ∧ 1 = r ∧ h = h')) := by
      refine am_of (lv := [some (.int v), some (.int 0), some (.int 1)]) rfl (Nat.le_of_ble_eq_true rfl) rfl ?_
      refine aw_iload_n (pc' := 1) dX12_in_0 rfl rfl ?_
      refine aw_iload_n (pc' := 2) dX12_in_1 rfl rfl ?_
      refine aw_clt (tgt := 14) (pc' := 5) dX12_in_2 (by decide) rfl (fun c29 => ?_) (fun c29 => ?_)
      · refine aw_iconst (v := 0) (pc' := 15) dX12_in_14 rfl (by decide) ?_
        exact aw_ri dX12_in_15 rfl (by decide) (Nat.le_of_ble_eq_true rfl) (Nat.le_of_ble_eq_true rfl) (Or.inl ⟨c29, rfl, rfl⟩)
      · refine aw_iload_n (pc' := 6) dX12_in_5 rfl rfl ?_
        refine aw_iload_n (pc' := 7) dX12_in_6 rfl rfl ?_
        refine aw_cgt (tgt := 14) (pc' := 10) dX12_in_7 (by decide) rfl (fun c30 => ?_) (fun c30 => ?_)
        · refine aw_iconst (v := 0) (pc' := 15) dX12_in_14 rfl (by decide) ?_
          exact aw_ri dX12_in_15 rfl (by decide) (Nat.le_of_ble_eq_true rfl) (Nat.le_of_ble_eq_true rfl) (Or.inr (Or.inl ⟨c29, c30, rfl, rfl⟩))
        · refine aw_iconst (v := 1) (pc' := 11) dX12_in_10 rfl (by decide) ?_
          refine aw_goto (tgt := 15) dX12_in_11 (by decide) ?_
          exact aw_ri dX12_in_15 rfl (by decide) (Nat.le_of_ble_eq_true rfl) (Nat.le_of_ble_eq_true rfl) (Or.inr (Or.inr ⟨c29, c30, rfl, rfl⟩))
    refine aw_callSi (M' := mX12_in) (nc' := 0) (ns' := 0) (pc' := 13) dX12_ofCell_10 rfl ml_RX12_230 kX12_in cc28 rfl rfl (Nat.le_of_ble_eq_true rfl) (rok rfl) rfl rfl (fun r36 h36 q36 => ?_)
    rcases q36 with ⟨c31, rfl, rfl⟩ | ⟨c32, c33, rfl, rfl⟩ | ⟨c34, c35, rfl, rfl⟩
    · refine aw_if_ne (tgt := 20) (pc' := 16) dX12_ofCell_13 (by decide) rfl (fun c => absurd (by decide) c) (fun _ => ?_)
      refine aw_iconst (v := (-1)) (pc' := 17) dX12_ofCell_16 rfl (by decide) ?_
      refine aw_goto (tgt := 55) dX12_ofCell_17 (by decide) ?_
      exact aw_ri dX12_ofCell_55 rfl rfl (Nat.le_of_ble_eq_true rfl) (Nat.le_of_ble_eq_true rfl) (by first | (simp [sp_ofCell, cnd, okC, okS, okW_iff, okN_iff, inR, c23, c24, c25, c26, c31]; done) | (simp_all [sp_ofCell, cnd, okC, okS, okW_iff, okN_iff, inR]; done) | skip)
    · refine aw_if_ne (tgt := 20) (pc' := 16) dX12_ofCell_13 (by decide) rfl (fun c => absurd (by decide) c) (fun _ => ?_)
      refine aw_iconst (v := (-1)) (pc' := 17) dX12_ofCell_16 rfl (by decide) ?_
      refine aw_goto (tgt := 55) dX12_ofCell_17 (by decide) ?_
      exact aw_ri dX12_ofCell_55 rfl rfl (Nat.le_of_ble_eq_true rfl) (Nat.le_of_ble_eq_true rfl) (by first | (simp [sp_ofCell, cnd, okC, okS, okW_iff, okN_iff, inR, c23, c24, c25, c26, c32, c33]; done) | (simp_all [sp_ofCell, cnd, okC, okS, okW_iff, okN_iff, inR]; done) | skip)
    · refine aw_if_ne (tgt := 20) (pc' := 16) dX12_ofCell_13 (by decide) rfl (fun _ => ?_) (fun c => absurd c (by decide))
      refine aw_iload_n (pc' := 21) dX12_ofCell_20 rfl rfl ?_
      refine aw_if_ne (tgt := 38) (pc' := 24) dX12_ofCell_21 (by decide) rfl (fun c37 => ?_) (fun c37 => ?_)
      · refine aw_aload_n (pc' := 39) dX12_ofCell_38 rfl rfl rfl ?_
        refine aw_get clsAll (pc' := 42) dX12_ofCell_39 rfl fl_RX12_13 hm.1 rfl ?_
        refine aw_iload_n (pc' := 43) dX12_ofCell_42 rfl rfl ?_
        have cc38 : AM mX12_placeOf 0 [.int c] h 0 0 (PI fun r h' => (((61 * (c / 100)) + (c % 100)) = r ∧ h = h')) := by
          refine am_of (lv := [some (.int c)]) rfl (Nat.le_of_ble_eq_true rfl) rfl ?_
          refine aw_bipush (v := 61) (pc' := 2) dX12_placeOf_0 rfl (by decide) ?_
          refine aw_iload_n (pc' := 3) dX12_placeOf_2 rfl rfl ?_
          refine aw_bipush (v := 100) (pc' := 5) dX12_placeOf_3 rfl (by decide) ?_
          refine aw_idiv (pc' := 6) dX12_placeOf_5 rfl (by decide) ?_
          refine aw_imul (pc' := 7) dX12_placeOf_6 rfl ?_
          refine aw_iload_n (pc' := 8) dX12_placeOf_7 rfl rfl ?_
          refine aw_bipush (v := 100) (pc' := 10) dX12_placeOf_8 rfl (by decide) ?_
          refine aw_irem (pc' := 11) dX12_placeOf_10 rfl (by decide) ?_
          refine aw_iadd (pc' := 12) dX12_placeOf_11 rfl ?_
          exact aw_ri dX12_placeOf_12 rfl rfl (Nat.le_of_ble_eq_true rfl) (Nat.le_of_ble_eq_true rfl) ⟨rfl, rfl⟩
        refine aw_callSi (M' := mX12_placeOf) (nc' := 0) (ns' := 0) (pc' := 46) dX12_ofCell_43 rfl ml_RX12_238 kX12_placeOf cc38 rfl rfl (Nat.le_of_ble_eq_true rfl) (rok rfl) rfl rfl (fun r39 h39 q39 => ?_)
        obtain ⟨rfl, rfl⟩ := q39
        refine aw_zald (v := 0) (pc' := 47) dX12_ofCell_46 rfl ((hm.2 61 (by decide) (by decide)).trans h0_61) (pl_m c23 c24 c25 c26) rfl ?_
        refine aw_if_eq (tgt := 54) (pc' := 50) dX12_ofCell_47 (by decide) rfl (fun _ => ?_) (fun c => absurd (by decide) c)
        refine aw_iconst (v := 0) (pc' := 55) dX12_ofCell_54 rfl (by decide) ?_
        exact aw_ri dX12_ofCell_55 rfl rfl (Nat.le_of_ble_eq_true rfl) (Nat.le_of_ble_eq_true rfl) (by first | (simp [sp_ofCell, cnd, okC, okS, okW_iff, okN_iff, inR, c23, c24, c25, c26, c34, c35, c37]; done) | (simp_all [sp_ofCell, cnd, okC, okS, okW_iff, okN_iff, inR]; done) | skip)
      · refine aw_iconst (v := 3) (pc' := 25) dX12_ofCell_24 rfl (by decide) ?_
        refine aw_aload_n (pc' := 26) dX12_ofCell_25 rfl rfl rfl ?_
        refine aw_get clsAll (pc' := 29) dX12_ofCell_26 rfl fl_RX12_7 hm.1 rfl ?_
        refine aw_iload_n (pc' := 30) dX12_ofCell_29 rfl rfl ?_
        have cc40 : AM mX12_placeOf 0 [.int c] h 0 0 (PI fun r h' => (((61 * (c / 100)) + (c % 100)) = r ∧ h = h')) := by
          refine am_of (lv := [some (.int c)]) rfl (Nat.le_of_ble_eq_true rfl) rfl ?_
          refine aw_bipush (v := 61) (pc' := 2) dX12_placeOf_0 rfl (by decide) ?_
          refine aw_iload_n (pc' := 3) dX12_placeOf_2 rfl rfl ?_
          refine aw_bipush (v := 100) (pc' := 5) dX12_placeOf_3 rfl (by decide) ?_
          refine aw_idiv (pc' := 6) dX12_placeOf_5 rfl (by decide) ?_
          refine aw_imul (pc' := 7) dX12_placeOf_6 rfl ?_
          refine aw_iload_n (pc' := 8) dX12_placeOf_7 rfl rfl ?_
          refine aw_bipush (v := 100) (pc' := 10) dX12_placeOf_8 rfl (by decide) ?_
          refine aw_irem (pc' := 11) dX12_placeOf_10 rfl (by decide) ?_
          refine aw_iadd (pc' := 12) dX12_placeOf_11 rfl ?_
          exact aw_ri dX12_placeOf_12 rfl rfl (Nat.le_of_ble_eq_true rfl) (Nat.le_of_ble_eq_true rfl) ⟨rfl, rfl⟩
        refine aw_callSi (M' := mX12_placeOf) (nc' := 0) (ns' := 0) (pc' := 33) dX12_ofCell_30 rfl ml_RX12_238 kX12_placeOf cc40 rfl rfl (Nat.le_of_ble_eq_true rfl) (rok rfl) rfl rfl (fun r41 h41 q41 => ?_)
        obtain ⟨rfl, rfl⟩ := q41
        refine aw_iald (v := 0) (pc' := 34) dX12_ofCell_33 rfl ((hm.2 60 (by decide) (by decide)).trans h0_60) (pl_m c23 c24 c25 c26) rfl ?_
        refine aw_iadd (pc' := 35) dX12_ofCell_34 rfl ?_
        refine aw_topi (v := 3) (by decide) ?_
        refine aw_goto (tgt := 55) dX12_ofCell_35 (by decide) ?_
        exact aw_ri dX12_ofCell_55 rfl rfl (Nat.le_of_ble_eq_true rfl) (Nat.le_of_ble_eq_true rfl) (by first | (simp [sp_ofCell, cnd, okC, okS, okW_iff, okN_iff, inR, c23, c24, c25, c26, c34, c35, c37]; done) | (simp_all [sp_ofCell, cnd, okC, okS, okW_iff, okN_iff, inR]; done) | skip)
set_option maxRecDepth 4000 in
theorem m_body (h : List aE) (hm : Fm 0 h) (k : Int32) : AM mX12_body 1 [.ref 67, .int k] h 0 0 (PI fun r h' => r = sp_body k) := by
  refine am_of (lv := [some (.ref 67), some (.int k)]) rfl (Nat.le_of_ble_eq_true rfl) rfl ?_
  refine aw_iload_n (pc' := 1) dX12_body_0 rfl rfl ?_
  refine aw_iconst (v := 0) (pc' := 2) dX12_body_1 rfl (by decide) ?_
  refine aw_iconst (v := 1) (pc' := 3) dX12_body_2 rfl (by decide) ?_
  have cc1 : AM mX12_in 0 [.int k, .int 0, .int 1] h 0 0 (PI fun r h' => (k < 0 ∧ 0 = r ∧ h = h') ∨ (¬ (k < 0) ∧ 1 < k ∧ 0 = r ∧ h = h') ∨ (¬ (k < 0) ∧ ¬ (1 < k) ∧ 1 = r ∧ h = h')) := by
    refine am_of (lv := [some (.int k), some (.int 0), some (.int 1)]) rfl (Nat.le_of_ble_eq_true rfl) rfl ?_
    refine aw_iload_n (pc' := 1) dX12_in_0 rfl rfl ?_
    refine aw_iload_n (pc' := 2) dX12_in_1 rfl rfl ?_
    refine aw_clt (tgt := 14) (pc' := 5) dX12_in_2 (by decide) rfl (fun c2 => ?_) (fun c2 => ?_)
    · refine aw_iconst (v := 0) (pc' := 15) dX12_in_14 rfl (by decide) ?_
      exact aw_ri dX12_in_15 rfl (by decide) (Nat.le_of_ble_eq_true rfl) (Nat.le_of_ble_eq_true rfl) (Or.inl ⟨c2, rfl, rfl⟩)
    · refine aw_iload_n (pc' := 6) dX12_in_5 rfl rfl ?_
      refine aw_iload_n (pc' := 7) dX12_in_6 rfl rfl ?_
      refine aw_cgt (tgt := 14) (pc' := 10) dX12_in_7 (by decide) rfl (fun c3 => ?_) (fun c3 => ?_)
      · refine aw_iconst (v := 0) (pc' := 15) dX12_in_14 rfl (by decide) ?_
        exact aw_ri dX12_in_15 rfl (by decide) (Nat.le_of_ble_eq_true rfl) (Nat.le_of_ble_eq_true rfl) (Or.inr (Or.inl ⟨c2, c3, rfl, rfl⟩))
      · refine aw_iconst (v := 1) (pc' := 11) dX12_in_10 rfl (by decide) ?_
        refine aw_goto (tgt := 15) dX12_in_11 (by decide) ?_
        exact aw_ri dX12_in_15 rfl (by decide) (Nat.le_of_ble_eq_true rfl) (Nat.le_of_ble_eq_true rfl) (Or.inr (Or.inr ⟨c2, c3, rfl, rfl⟩))
  refine aw_callSi (M' := mX12_in) (nc' := 0) (ns' := 0) (pc' := 6) dX12_body_3 rfl ml_RX12_230 kX12_in cc1 rfl rfl (Nat.le_of_ble_eq_true rfl) (rok rfl) rfl rfl (fun r9 h9 q9 => ?_)
  rcases q9 with ⟨c4, rfl, rfl⟩ | ⟨c5, c6, rfl, rfl⟩ | ⟨c7, c8, rfl, rfl⟩
  · refine aw_if_ne (tgt := 11) (pc' := 9) dX12_body_6 (by decide) rfl (fun c => absurd (by decide) c) (fun _ => ?_)
    refine aw_iconst (v := (-1)) (pc' := 10) dX12_body_9 rfl (by decide) ?_
    exact aw_ri dX12_body_10 rfl rfl (Nat.le_of_ble_eq_true rfl) (Nat.le_of_ble_eq_true rfl) (by first | (simp [sp_body, cnd, okC, okS, okW_iff, okN_iff, inR, bd_, c4]; done) | (simp_all [sp_body, cnd, okC, okS, okW_iff, okN_iff, inR, bd_]; done) | skip)
  · refine aw_if_ne (tgt := 11) (pc' := 9) dX12_body_6 (by decide) rfl (fun c => absurd (by decide) c) (fun _ => ?_)
    refine aw_iconst (v := (-1)) (pc' := 10) dX12_body_9 rfl (by decide) ?_
    exact aw_ri dX12_body_10 rfl rfl (Nat.le_of_ble_eq_true rfl) (Nat.le_of_ble_eq_true rfl) (by first | (simp [sp_body, cnd, okC, okS, okW_iff, okN_iff, inR, bd_, c5, c6]; done) | (simp_all [sp_body, cnd, okC, okS, okW_iff, okN_iff, inR, bd_]; done) | skip)
  · refine aw_if_ne (tgt := 11) (pc' := 9) dX12_body_6 (by decide) rfl (fun _ => ?_) (fun c => absurd c (by decide))
    refine aw_aload_n (pc' := 12) dX12_body_11 rfl rfl rfl ?_
    refine aw_get clsAll (pc' := 15) dX12_body_12 rfl fl_RX12_242 hm.1 rfl ?_
    refine aw_bipush (v := 120) (pc' := 17) dX12_body_15 rfl (by decide) ?_
    refine aw_icmp_ne (tgt := 25) (pc' := 20) dX12_body_17 (by decide) rfl (fun _ => ?_) (fun c => absurd c (by decide))
    refine aw_aload_n (pc' := 26) dX12_body_25 rfl rfl rfl ?_
    refine aw_iload_n (pc' := 27) dX12_body_26 rfl rfl ?_
    have cc10 : AM mX12_add 0 [.ref 67, .int k] h 0 0 (PI fun r h' => (0 = r ∧ ∃ h13 : List aE, h.set 62 (.inl (0, 120, .inl (upd (fun _ => 0) (0 : Int32).toNatClampNeg k))) = h13 ∧ ∃ h14 : List aE, h13.set 59 (.inr (12, [.int 0, .int 0, .ref 68, .ref 69, .int 1, .ref 70, .ref 71, .ref 72, .ref 73, .ref 74, .ref 75, .ref 76, .ref 77, .ref 78, .ref 79, .ref 80, .ref 81, .ref 82, .ref 83, .ref 84, .ref 85, .int (-1), .int 0, .int 0, .int 0, .int 0, .ref 86, .ref 87, .ref 88, .int 2, .int 0, .ref 89, .ref 90, .ref 91, .ref 92, .ref 93, .ref 94, .int 0, .int 0, .ref 95, .ref 96, .ref 97, .ref 98, .ref 99, .ref 100, .ref 101, .ref 102, .int 0, .int 0, .int 0, .int 0, .int 0, .ref 103, .ref 104, .int 0, .int 0, .int 0, .ref 105, .ref 106, .ref 107, .ref 108, .ref 109, .int 0, .ref 110, .ref 111, .ref 112, .ref 113, .int 0, .ref 114, .ref 115, .ref 116, .ref 117, .int (-1), .ref 118, .int (-1), .ref 119, .int 0, .ref 120, .ref 121, .int 0, .ref 122, .ref 123, .int (-1), .int 0, .ref 124, .ref 125, .ref 126, .int 0, .ref 127, .ref 128, .ref 129, .ref 130, .ref 131, .ref 132, .ref 133])) = h14 ∧ h14 = h')) := by
      refine am_of (lv := [some (.ref 67), some (.int k)]) rfl (Nat.le_of_ble_eq_true rfl) rfl ?_
      refine aw_aload_n (pc' := 1) dX12_add_0 rfl rfl rfl ?_
      refine aw_get clsAll (pc' := 4) dX12_add_1 rfl fl_RX12_17 hm.1 rfl ?_
      refine aw_aload_n (pc' := 5) dX12_add_4 rfl rfl rfl ?_
      refine aw_get clsAll (pc' := 8) dX12_add_5 rfl fl_RX12_242 hm.1 rfl ?_
      refine aw_iload_n (pc' := 9) dX12_add_8 rfl rfl ?_
      refine aw_iastG (pc' := 10) dX12_add_9 rfl ((hm.2 62 (by decide) (by decide)).trans h0_62) (vpc (by decide)) (fun h11 e11 => ?_)
      refine aw_aload_n (pc' := 11) dX12_add_10 rfl rfl rfl ?_
      refine aw_dup (pc' := 12) dX12_add_11 rfl rfl ?_
      refine aw_get clsAll (pc' := 15) dX12_add_12 rfl fl_RX12_242 (gsn e11 (by decide) hm.1) rfl ?_
      refine aw_iconst (v := 1) (pc' := 16) dX12_add_15 rfl (by decide) ?_
      refine aw_iadd (pc' := 17) dX12_add_16 rfl ?_
      refine aw_topi (v := 1) (by decide) ?_
      refine aw_putG clsAll (pc' := 20) dX12_add_17 rfl fl_RX12_242 (gsn e11 (by decide) hm.1) (Nat.le_of_ble_eq_true rfl) rfl (fun h12 e12 => ?_)
      refine aw_aload_n (pc' := 21) dX12_add_20 rfl rfl rfl ?_
      refine aw_get clsAll (pc' := 24) dX12_add_21 rfl fl_RX12_242 (gss e12 (gsn e11 (by decide) hm.1)) rfl ?_
      refine aw_iconst (v := 1) (pc' := 25) dX12_add_24 rfl (by decide) ?_
      refine aw_isub (pc' := 26) dX12_add_25 rfl ?_
      refine aw_topi (v := 0) (by decide) ?_
      exact aw_ri dX12_add_26 rfl rfl (Nat.le_of_ble_eq_true rfl) (Nat.le_of_ble_eq_true rfl) ⟨rfl, h11, e11, h12, e12, rfl⟩
    refine aw_callVi (M' := mX12_add) (nc' := 0) (ns' := 0) (pc' := 30) dX12_body_27 rfl ml_RX12_252 kX12_add cc10 hm.1 rfl rfl rfl (Nat.le_of_ble_eq_true rfl) (rok rfl) rfl rfl (fun r15 h15 q15 => ?_)
    obtain ⟨rfl, h13, e13, h14, e14, rfl⟩ := q15
    exact aw_ri dX12_body_30 rfl rfl (Nat.le_of_ble_eq_true rfl) (Nat.le_of_ble_eq_true rfl) (by first | (simp [sp_body, cnd, okC, okS, okW_iff, okN_iff, inR, bd_, c7, c8]; done) | (simp_all [sp_body, cnd, okC, okS, okW_iff, okN_iff, inR, bd_]; done) | skip)
set_option maxRecDepth 4000 in
theorem m_hole (h : List aE) (hm : Fm 0 h) (k : Int32) (w : Int32) : AM mX12_hole 1 [.ref 67, .int k, .int w] h 0 0 (PI fun r h' => r = sp_hole k w) := by
  refine am_of (lv := [some (.ref 67), some (.int k), some (.int w), none]) rfl (Nat.le_of_ble_eq_true rfl) rfl ?_
  refine aw_iload_n (pc' := 1) dX12_hole_0 rfl rfl ?_
  refine aw_iconst (v := 2) (pc' := 2) dX12_hole_1 rfl (by decide) ?_
  refine aw_iconst (v := 5) (pc' := 3) dX12_hole_2 rfl (by decide) ?_
  have cc1 : AM mX12_in 0 [.int k, .int 2, .int 5] h 0 0 (PI fun r h' => (k < 2 ∧ 0 = r ∧ h = h') ∨ (¬ (k < 2) ∧ 5 < k ∧ 0 = r ∧ h = h') ∨ (¬ (k < 2) ∧ ¬ (5 < k) ∧ 1 = r ∧ h = h')) := by
    refine am_of (lv := [some (.int k), some (.int 2), some (.int 5)]) rfl (Nat.le_of_ble_eq_true rfl) rfl ?_
    refine aw_iload_n (pc' := 1) dX12_in_0 rfl rfl ?_
    refine aw_iload_n (pc' := 2) dX12_in_1 rfl rfl ?_
    refine aw_clt (tgt := 14) (pc' := 5) dX12_in_2 (by decide) rfl (fun c2 => ?_) (fun c2 => ?_)
    · refine aw_iconst (v := 0) (pc' := 15) dX12_in_14 rfl (by decide) ?_
      exact aw_ri dX12_in_15 rfl (by decide) (Nat.le_of_ble_eq_true rfl) (Nat.le_of_ble_eq_true rfl) (Or.inl ⟨c2, rfl, rfl⟩)
    · refine aw_iload_n (pc' := 6) dX12_in_5 rfl rfl ?_
      refine aw_iload_n (pc' := 7) dX12_in_6 rfl rfl ?_
      refine aw_cgt (tgt := 14) (pc' := 10) dX12_in_7 (by decide) rfl (fun c3 => ?_) (fun c3 => ?_)
      · refine aw_iconst (v := 0) (pc' := 15) dX12_in_14 rfl (by decide) ?_
        exact aw_ri dX12_in_15 rfl (by decide) (Nat.le_of_ble_eq_true rfl) (Nat.le_of_ble_eq_true rfl) (Or.inr (Or.inl ⟨c2, c3, rfl, rfl⟩))
      · refine aw_iconst (v := 1) (pc' := 11) dX12_in_10 rfl (by decide) ?_
        refine aw_goto (tgt := 15) dX12_in_11 (by decide) ?_
        exact aw_ri dX12_in_15 rfl (by decide) (Nat.le_of_ble_eq_true rfl) (Nat.le_of_ble_eq_true rfl) (Or.inr (Or.inr ⟨c2, c3, rfl, rfl⟩))
  refine aw_callSi (M' := mX12_in) (nc' := 0) (ns' := 0) (pc' := 6) dX12_hole_3 rfl ml_RX12_230 kX12_in cc1 rfl rfl (Nat.le_of_ble_eq_true rfl) (rok rfl) rfl rfl (fun r9 h9 q9 => ?_)
  rcases q9 with ⟨c4, rfl, rfl⟩ | ⟨c5, c6, rfl, rfl⟩ | ⟨c7, c8, rfl, rfl⟩
  · refine aw_if_eq (tgt := 29) (pc' := 9) dX12_hole_6 (by decide) rfl (fun _ => ?_) (fun c => absurd (by decide) c)
    refine aw_iconst (v := (-1)) (pc' := 30) dX12_hole_29 rfl (by decide) ?_
    exact aw_ri dX12_hole_30 rfl rfl (Nat.le_of_ble_eq_true rfl) (Nat.le_of_ble_eq_true rfl) (by first | (simp [sp_hole, cnd, okC, okS, okW_iff, okN_iff, inR, c4]; done) | (simp_all [sp_hole, cnd, okC, okS, okW_iff, okN_iff, inR]; done) | skip)
  · refine aw_if_eq (tgt := 29) (pc' := 9) dX12_hole_6 (by decide) rfl (fun _ => ?_) (fun c => absurd (by decide) c)
    refine aw_iconst (v := (-1)) (pc' := 30) dX12_hole_29 rfl (by decide) ?_
    exact aw_ri dX12_hole_30 rfl rfl (Nat.le_of_ble_eq_true rfl) (Nat.le_of_ble_eq_true rfl) (by first | (simp [sp_hole, cnd, okC, okS, okW_iff, okN_iff, inR, c5, c6]; done) | (simp_all [sp_hole, cnd, okC, okS, okW_iff, okN_iff, inR]; done) | skip)
  · refine aw_if_eq (tgt := 29) (pc' := 9) dX12_hole_6 (by decide) rfl (fun c => absurd c (by decide)) (fun _ => ?_)
    refine aw_iload_n (pc' := 10) dX12_hole_9 rfl rfl ?_
    refine aw_zlt (tgt := 29) (pc' := 13) dX12_hole_10 (by decide) rfl (fun c10 => ?_) (fun c10 => ?_)
    · refine aw_iconst (v := (-1)) (pc' := 30) dX12_hole_29 rfl (by decide) ?_
      exact aw_ri dX12_hole_30 rfl rfl (Nat.le_of_ble_eq_true rfl) (Nat.le_of_ble_eq_true rfl) (by first | (simp [sp_hole, cnd, okC, okS, okW_iff, okN_iff, inR, c7, c8, c10]; done) | (simp_all [sp_hole, cnd, okC, okS, okW_iff, okN_iff, inR]; done) | skip)
    · refine aw_iload_n (pc' := 14) dX12_hole_13 rfl rfl ?_
      refine aw_bipush (v := 100) (pc' := 16) dX12_hole_14 rfl (by decide) ?_
      refine aw_idiv (pc' := 17) dX12_hole_16 rfl (by decide) ?_
      refine aw_bipush (v := 32) (pc' := 19) dX12_hole_17 rfl (by decide) ?_
      refine aw_cge (tgt := 29) (pc' := 22) dX12_hole_19 (by decide) rfl (fun c11 => ?_) (fun c11 => ?_)
      · refine aw_iconst (v := (-1)) (pc' := 30) dX12_hole_29 rfl (by decide) ?_
        exact aw_ri dX12_hole_30 rfl rfl (Nat.le_of_ble_eq_true rfl) (Nat.le_of_ble_eq_true rfl) (by first | (simp [sp_hole, cnd, okC, okS, okW_iff, okN_iff, inR, c7, c8, c10, c11]; done) | (simp_all [sp_hole, cnd, okC, okS, okW_iff, okN_iff, inR]; done) | skip)
      · refine aw_iload_n (pc' := 23) dX12_hole_22 rfl rfl ?_
        refine aw_bipush (v := 100) (pc' := 25) dX12_hole_23 rfl (by decide) ?_
        refine aw_irem (pc' := 26) dX12_hole_25 rfl (by decide) ?_
        refine aw_if_ne (tgt := 31) (pc' := 29) dX12_hole_26 (by decide) rfl (fun c12 => ?_) (fun c12 => ?_)
        · refine aw_aload_n (pc' := 32) dX12_hole_31 rfl rfl rfl ?_
          refine aw_get clsAll (pc' := 35) dX12_hole_32 rfl fl_RX12_242 hm.1 rfl ?_
          refine aw_bipush (v := 120) (pc' := 37) dX12_hole_35 rfl (by decide) ?_
          refine aw_icmp_ne (tgt := 43) (pc' := 40) dX12_hole_37 (by decide) rfl (fun _ => ?_) (fun c => absurd c (by decide))
          refine aw_aload_n (pc' := 44) dX12_hole_43 rfl rfl rfl ?_
          refine aw_iload_n (pc' := 45) dX12_hole_44 rfl rfl ?_
          have cc13 : AM mX12_add 0 [.ref 67, .int k] h 0 0 (PI fun r h' => (0 = r ∧ ∃ h16 : List aE, h.set 62 (.inl (0, 120, .inl (upd (fun _ => 0) (0 : Int32).toNatClampNeg k))) = h16 ∧ ∃ h17 : List aE, h16.set 59 (.inr (12, [.int 0, .int 0, .ref 68, .ref 69, .int 1, .ref 70, .ref 71, .ref 72, .ref 73, .ref 74, .ref 75, .ref 76, .ref 77, .ref 78, .ref 79, .ref 80, .ref 81, .ref 82, .ref 83, .ref 84, .ref 85, .int (-1), .int 0, .int 0, .int 0, .int 0, .ref 86, .ref 87, .ref 88, .int 2, .int 0, .ref 89, .ref 90, .ref 91, .ref 92, .ref 93, .ref 94, .int 0, .int 0, .ref 95, .ref 96, .ref 97, .ref 98, .ref 99, .ref 100, .ref 101, .ref 102, .int 0, .int 0, .int 0, .int 0, .int 0, .ref 103, .ref 104, .int 0, .int 0, .int 0, .ref 105, .ref 106, .ref 107, .ref 108, .ref 109, .int 0, .ref 110, .ref 111, .ref 112, .ref 113, .int 0, .ref 114, .ref 115, .ref 116, .ref 117, .int (-1), .ref 118, .int (-1), .ref 119, .int 0, .ref 120, .ref 121, .int 0, .ref 122, .ref 123, .int (-1), .int 0, .ref 124, .ref 125, .ref 126, .int 0, .ref 127, .ref 128, .ref 129, .ref 130, .ref 131, .ref 132, .ref 133])) = h17 ∧ h17 = h')) := by
            refine am_of (lv := [some (.ref 67), some (.int k)]) rfl (Nat.le_of_ble_eq_true rfl) rfl ?_
            refine aw_aload_n (pc' := 1) dX12_add_0 rfl rfl rfl ?_
            refine aw_get clsAll (pc' := 4) dX12_add_1 rfl fl_RX12_17 hm.1 rfl ?_
            refine aw_aload_n (pc' := 5) dX12_add_4 rfl rfl rfl ?_
            refine aw_get clsAll (pc' := 8) dX12_add_5 rfl fl_RX12_242 hm.1 rfl ?_
            refine aw_iload_n (pc' := 9) dX12_add_8 rfl rfl ?_
            refine aw_iastG (pc' := 10) dX12_add_9 rfl ((hm.2 62 (by decide) (by decide)).trans h0_62) (vpc (by decide)) (fun h14 e14 => ?_)
            refine aw_aload_n (pc' := 11) dX12_add_10 rfl rfl rfl ?_
            refine aw_dup (pc' := 12) dX12_add_11 rfl rfl ?_
            refine aw_get clsAll (pc' := 15) dX12_add_12 rfl fl_RX12_242 (gsn e14 (by decide) hm.1) rfl ?_
            refine aw_iconst (v := 1) (pc' := 16) dX12_add_15 rfl (by decide) ?_
            refine aw_iadd (pc' := 17) dX12_add_16 rfl ?_
            refine aw_topi (v := 1) (by decide) ?_
            refine aw_putG clsAll (pc' := 20) dX12_add_17 rfl fl_RX12_242 (gsn e14 (by decide) hm.1) (Nat.le_of_ble_eq_true rfl) rfl (fun h15 e15 => ?_)
            refine aw_aload_n (pc' := 21) dX12_add_20 rfl rfl rfl ?_
            refine aw_get clsAll (pc' := 24) dX12_add_21 rfl fl_RX12_242 (gss e15 (gsn e14 (by decide) hm.1)) rfl ?_
            refine aw_iconst (v := 1) (pc' := 25) dX12_add_24 rfl (by decide) ?_
            refine aw_isub (pc' := 26) dX12_add_25 rfl ?_
            refine aw_topi (v := 0) (by decide) ?_
            exact aw_ri dX12_add_26 rfl rfl (Nat.le_of_ble_eq_true rfl) (Nat.le_of_ble_eq_true rfl) ⟨rfl, h14, e14, h15, e15, rfl⟩
          refine aw_callVi (M' := mX12_add) (nc' := 0) (ns' := 0) (pc' := 48) dX12_hole_45 rfl ml_RX12_252 kX12_add cc13 hm.1 rfl rfl rfl (Nat.le_of_ble_eq_true rfl) (rok rfl) rfl rfl (fun r18 h18 q18 => ?_)
          obtain ⟨rfl, h16, e16, h17, e17, rfl⟩ := q18
          refine aw_istore_n (lv' := [_, _, _, _]) (pc' := 49) dX12_hole_48 rfl (Nat.le_of_ble_eq_true rfl) rfl ?_
          refine aw_aload_n (pc' := 50) dX12_hole_49 rfl rfl rfl ?_
          refine aw_get clsAll (pc' := 53) dX12_hole_50 rfl fl_RX12_20 (gss e17 (gsn e16 (by decide) hm.1)) rfl ?_
          refine aw_iload_n (pc' := 54) dX12_hole_53 rfl rfl ?_
          refine aw_iload_n (pc' := 55) dX12_hole_54 rfl rfl ?_
          refine aw_bipush (v := 100) (pc' := 57) dX12_hole_55 rfl (by decide) ?_
          refine aw_idiv (pc' := 58) dX12_hole_57 rfl (by decide) ?_
          refine aw_iastG (pc' := 59) dX12_hole_58 rfl (gsn e17 (by decide) (gsn e16 (by decide) ((hm.2 63 (by decide) (by decide)).trans h0_63))) (vpc (by decide)) (fun h19 e19 => ?_)
          refine aw_aload_n (pc' := 60) dX12_hole_59 rfl rfl rfl ?_
          refine aw_get clsAll (pc' := 63) dX12_hole_60 rfl fl_RX12_26 (gsn e19 (by decide) (gss e17 (gsn e16 (by decide) hm.1))) rfl ?_
          refine aw_iload_n (pc' := 64) dX12_hole_63 rfl rfl ?_
          refine aw_iload_n (pc' := 65) dX12_hole_64 rfl rfl ?_
          refine aw_bipush (v := 100) (pc' := 67) dX12_hole_65 rfl (by decide) ?_
          refine aw_idiv (pc' := 68) dX12_hole_67 rfl (by decide) ?_
          refine aw_iastG (pc' := 69) dX12_hole_68 rfl (gsn e19 (by decide) (gsn e17 (by decide) (gsn e16 (by decide) ((hm.2 65 (by decide) (by decide)).trans h0_65)))) (vpc (by decide)) (fun h20 e20 => ?_)
          refine aw_aload_n (pc' := 70) dX12_hole_69 rfl rfl rfl ?_
          refine aw_get clsAll (pc' := 73) dX12_hole_70 rfl fl_RX12_23 (gsn e20 (by decide) (gsn e19 (by decide) (gss e17 (gsn e16 (by decide) hm.1)))) rfl ?_
          refine aw_iload_n (pc' := 74) dX12_hole_73 rfl rfl ?_
          refine aw_iload_n (pc' := 75) dX12_hole_74 rfl rfl ?_
          refine aw_bipush (v := 100) (pc' := 77) dX12_hole_75 rfl (by decide) ?_
          refine aw_irem (pc' := 78) dX12_hole_77 rfl (by decide) ?_
          refine aw_iastG (pc' := 79) dX12_hole_78 rfl (gsn e20 (by decide) (gsn e19 (by decide) (gsn e17 (by decide) (gsn e16 (by decide) ((hm.2 64 (by decide) (by decide)).trans h0_64))))) (vpc (by decide)) (fun h21 e21 => ?_)
          refine aw_iload_n (pc' := 80) dX12_hole_79 rfl rfl ?_
          exact aw_ri dX12_hole_80 rfl rfl (Nat.le_of_ble_eq_true rfl) (Nat.le_of_ble_eq_true rfl) (by first | (simp [sp_hole, cnd, okC, okS, okW_iff, okN_iff, inR, c7, c8, c10, c11, c12]; done) | (simp_all [sp_hole, cnd, okC, okS, okW_iff, okN_iff, inR]; done) | skip)
        · refine aw_iconst (v := (-1)) (pc' := 30) dX12_hole_29 rfl (by decide) ?_
          exact aw_ri dX12_hole_30 rfl rfl (Nat.le_of_ble_eq_true rfl) (Nat.le_of_ble_eq_true rfl) (by first | (simp [sp_hole, cnd, okC, okS, okW_iff, okN_iff, inR, c7, c8, c10, c11, c12]; done) | (simp_all [sp_hole, cnd, okC, okS, okW_iff, okN_iff, inR]; done) | skip)
set_option maxRecDepth 4000 in
theorem m_shelter (h : List aE) (hm : Fm 0 h) (s : Int32) (y : Int32) : AM mX12_shelter 1 [.ref 67, .int s, .int y] h 0 0 (PI fun r h' => r = sp_shelter s y) := by
  refine am_of (lv := [some (.ref 67), some (.int s), some (.int y)]) rfl (Nat.le_of_ble_eq_true rfl) rfl ?_
  refine aw_iload_n (pc' := 1) dX12_shelter_0 rfl rfl ?_
  have cc1 : AM mX12_isSpan 0 [.int s] h 0 0 (PI fun r h' => (s < 0 ∧ 0 = r ∧ h = h') ∨ (¬ (s < 0) ∧ (s % 100) < (s / 100) ∧ 0 = r ∧ h = h') ∨ (¬ (s < 0) ∧ ¬ ((s % 100) < (s / 100)) ∧ ¬ ((s % 100) < 32) ∧ 0 = r ∧ h = h') ∨ (¬ (s < 0) ∧ ¬ ((s % 100) < (s / 100)) ∧ (s % 100) < 32 ∧ 1 = r ∧ h = h')) := by
    refine am_of (lv := [some (.int s)]) rfl (Nat.le_of_ble_eq_true rfl) rfl ?_
    refine aw_iload_n (pc' := 1) dX12_isSpan_0 rfl rfl ?_
    refine aw_zlt (tgt := 28) (pc' := 4) dX12_isSpan_1 (by decide) rfl (fun c2 => ?_) (fun c2 => ?_)
    · refine aw_iconst (v := 0) (pc' := 29) dX12_isSpan_28 rfl (by decide) ?_
      exact aw_ri dX12_isSpan_29 rfl (by decide) (Nat.le_of_ble_eq_true rfl) (Nat.le_of_ble_eq_true rfl) (Or.inl ⟨c2, rfl, rfl⟩)
    · refine aw_iload_n (pc' := 5) dX12_isSpan_4 rfl rfl ?_
      refine aw_bipush (v := 100) (pc' := 7) dX12_isSpan_5 rfl (by decide) ?_
      refine aw_idiv (pc' := 8) dX12_isSpan_7 rfl (by decide) ?_
      refine aw_iload_n (pc' := 9) dX12_isSpan_8 rfl rfl ?_
      refine aw_bipush (v := 100) (pc' := 11) dX12_isSpan_9 rfl (by decide) ?_
      refine aw_irem (pc' := 12) dX12_isSpan_11 rfl (by decide) ?_
      refine aw_cgt (tgt := 28) (pc' := 15) dX12_isSpan_12 (by decide) rfl (fun c3 => ?_) (fun c3 => ?_)
      · refine aw_iconst (v := 0) (pc' := 29) dX12_isSpan_28 rfl (by decide) ?_
        exact aw_ri dX12_isSpan_29 rfl (by decide) (Nat.le_of_ble_eq_true rfl) (Nat.le_of_ble_eq_true rfl) (Or.inr (Or.inl ⟨c2, c3, rfl, rfl⟩))
      · refine aw_iload_n (pc' := 16) dX12_isSpan_15 rfl rfl ?_
        refine aw_bipush (v := 100) (pc' := 18) dX12_isSpan_16 rfl (by decide) ?_
        refine aw_irem (pc' := 19) dX12_isSpan_18 rfl (by decide) ?_
        refine aw_bipush (v := 32) (pc' := 21) dX12_isSpan_19 rfl (by decide) ?_
        refine aw_cge (tgt := 28) (pc' := 24) dX12_isSpan_21 (by decide) rfl (fun c4 => ?_) (fun c4 => ?_)
        · refine aw_iconst (v := 0) (pc' := 29) dX12_isSpan_28 rfl (by decide) ?_
          exact aw_ri dX12_isSpan_29 rfl (by decide) (Nat.le_of_ble_eq_true rfl) (Nat.le_of_ble_eq_true rfl) (Or.inr (Or.inr (Or.inl ⟨c2, c3, c4, rfl, rfl⟩)))
        · refine aw_iconst (v := 1) (pc' := 25) dX12_isSpan_24 rfl (by decide) ?_
          refine aw_goto (tgt := 29) dX12_isSpan_25 (by decide) ?_
          exact aw_ri dX12_isSpan_29 rfl (by decide) (Nat.le_of_ble_eq_true rfl) (Nat.le_of_ble_eq_true rfl) (Or.inr (Or.inr (Or.inr ⟨c2, c3, c4, rfl, rfl⟩)))
  refine aw_callSi (M' := mX12_isSpan) (nc' := 0) (ns' := 0) (pc' := 4) dX12_shelter_1 rfl ml_RX12_255 kX12_isSpan cc1 rfl rfl (Nat.le_of_ble_eq_true rfl) (rok rfl) rfl rfl (fun r14 h14 q14 => ?_)
  rcases q14 with ⟨c5, rfl, rfl⟩ | ⟨c6, c7, rfl, rfl⟩ | ⟨c8, c9, c10, rfl, rfl⟩ | ⟨c11, c12, c13, rfl, rfl⟩
  · refine aw_if_eq (tgt := 17) (pc' := 7) dX12_shelter_4 (by decide) rfl (fun _ => ?_) (fun c => absurd (by decide) c)
    refine aw_iconst (v := (-1)) (pc' := 18) dX12_shelter_17 rfl (by decide) ?_
    exact aw_ri dX12_shelter_18 rfl rfl (Nat.le_of_ble_eq_true rfl) (Nat.le_of_ble_eq_true rfl) (by first | (simp [sp_shelter, cnd, okC, okS, okW_iff, okN_iff, inR, c5]; done) | (simp_all [sp_shelter, cnd, okC, okS, okW_iff, okN_iff, inR]; done) | skip)
  · refine aw_if_eq (tgt := 17) (pc' := 7) dX12_shelter_4 (by decide) rfl (fun _ => ?_) (fun c => absurd (by decide) c)
    refine aw_iconst (v := (-1)) (pc' := 18) dX12_shelter_17 rfl (by decide) ?_
    exact aw_ri dX12_shelter_18 rfl rfl (Nat.le_of_ble_eq_true rfl) (Nat.le_of_ble_eq_true rfl) (by first | (simp [sp_shelter, cnd, okC, okS, okW_iff, okN_iff, inR, c6, c7]; done) | (simp_all [sp_shelter, cnd, okC, okS, okW_iff, okN_iff, inR]; done) | skip)
  · refine aw_if_eq (tgt := 17) (pc' := 7) dX12_shelter_4 (by decide) rfl (fun _ => ?_) (fun c => absurd (by decide) c)
    refine aw_iconst (v := (-1)) (pc' := 18) dX12_shelter_17 rfl (by decide) ?_
    exact aw_ri dX12_shelter_18 rfl rfl (Nat.le_of_ble_eq_true rfl) (Nat.le_of_ble_eq_true rfl) (by first | (simp [sp_shelter, cnd, okC, okS, okW_iff, okN_iff, inR, c8, c9, c10]; done) | (simp_all [sp_shelter, cnd, okC, okS, okW_iff, okN_iff, inR]; done) | skip)
  · refine aw_if_eq (tgt := 17) (pc' := 7) dX12_shelter_4 (by decide) rfl (fun c => absurd c (by decide)) (fun _ => ?_)
    refine aw_iload_n (pc' := 8) dX12_shelter_7 rfl rfl ?_
    refine aw_iconst (v := 1) (pc' := 9) dX12_shelter_8 rfl (by decide) ?_
    refine aw_bipush (v := 60) (pc' := 11) dX12_shelter_9 rfl (by decide) ?_
    have cc15 : AM mX12_in 0 [.int y, .int 1, .int 60] h 0 0 (PI fun r h' => (y < 1 ∧ 0 = r ∧ h = h') ∨ (¬ (y < 1) ∧ 60 < y ∧ 0 = r ∧ h = h') ∨ (¬ (y < 1) ∧ ¬ (60 < y) ∧ 1 = r ∧ h = h')) := by
      refine am_of (lv := [some (.int y), some (.int 1), some (.int 60)]) rfl (Nat.le_of_ble_eq_true rfl) rfl ?_
      refine aw_iload_n (pc' := 1) dX12_in_0 rfl rfl ?_
      refine aw_iload_n (pc' := 2) dX12_in_1 rfl rfl ?_
      refine aw_clt (tgt := 14) (pc' := 5) dX12_in_2 (by decide) rfl (fun c16 => ?_) (fun c16 => ?_)
      · refine aw_iconst (v := 0) (pc' := 15) dX12_in_14 rfl (by decide) ?_
        exact aw_ri dX12_in_15 rfl (by decide) (Nat.le_of_ble_eq_true rfl) (Nat.le_of_ble_eq_true rfl) (Or.inl ⟨c16, rfl, rfl⟩)
      · refine aw_iload_n (pc' := 6) dX12_in_5 rfl rfl ?_
        refine aw_iload_n (pc' := 7) dX12_in_6 rfl rfl ?_
        refine aw_cgt (tgt := 14) (pc' := 10) dX12_in_7 (by decide) rfl (fun c17 => ?_) (fun c17 => ?_)
        · refine aw_iconst (v := 0) (pc' := 15) dX12_in_14 rfl (by decide) ?_
          exact aw_ri dX12_in_15 rfl (by decide) (Nat.le_of_ble_eq_true rfl) (Nat.le_of_ble_eq_true rfl) (Or.inr (Or.inl ⟨c16, c17, rfl, rfl⟩))
        · refine aw_iconst (v := 1) (pc' := 11) dX12_in_10 rfl (by decide) ?_
          refine aw_goto (tgt := 15) dX12_in_11 (by decide) ?_
          exact aw_ri dX12_in_15 rfl (by decide) (Nat.le_of_ble_eq_true rfl) (Nat.le_of_ble_eq_true rfl) (Or.inr (Or.inr ⟨c16, c17, rfl, rfl⟩))
    refine aw_callSi (M' := mX12_in) (nc' := 0) (ns' := 0) (pc' := 14) dX12_shelter_11 rfl ml_RX12_230 kX12_in cc15 rfl rfl (Nat.le_of_ble_eq_true rfl) (rok rfl) rfl rfl (fun r23 h23 q23 => ?_)
    rcases q23 with ⟨c18, rfl, rfl⟩ | ⟨c19, c20, rfl, rfl⟩ | ⟨c21, c22, rfl, rfl⟩
    · refine aw_if_ne (tgt := 19) (pc' := 17) dX12_shelter_14 (by decide) rfl (fun c => absurd (by decide) c) (fun _ => ?_)
      refine aw_iconst (v := (-1)) (pc' := 18) dX12_shelter_17 rfl (by decide) ?_
      exact aw_ri dX12_shelter_18 rfl rfl (Nat.le_of_ble_eq_true rfl) (Nat.le_of_ble_eq_true rfl) (by first | (simp [sp_shelter, cnd, okC, okS, okW_iff, okN_iff, inR, c11, c12, c13, c18]; done) | (simp_all [sp_shelter, cnd, okC, okS, okW_iff, okN_iff, inR]; done) | skip)
    · refine aw_if_ne (tgt := 19) (pc' := 17) dX12_shelter_14 (by decide) rfl (fun c => absurd (by decide) c) (fun _ => ?_)
      refine aw_iconst (v := (-1)) (pc' := 18) dX12_shelter_17 rfl (by decide) ?_
      exact aw_ri dX12_shelter_18 rfl rfl (Nat.le_of_ble_eq_true rfl) (Nat.le_of_ble_eq_true rfl) (by first | (simp [sp_shelter, cnd, okC, okS, okW_iff, okN_iff, inR, c11, c12, c13, c19, c20]; done) | (simp_all [sp_shelter, cnd, okC, okS, okW_iff, okN_iff, inR]; done) | skip)
    · refine aw_if_ne (tgt := 19) (pc' := 17) dX12_shelter_14 (by decide) rfl (fun _ => ?_) (fun c => absurd c (by decide))
      refine aw_aload_n (pc' := 20) dX12_shelter_19 rfl rfl rfl ?_
      refine aw_get clsAll (pc' := 23) dX12_shelter_20 rfl fl_RX12_65 hm.1 rfl ?_
      refine aw_zlt (tgt := 29) (pc' := 26) dX12_shelter_23 (by decide) rfl (fun _ => ?_) (fun c => absurd (by decide) c)
      refine aw_aload_n (pc' := 30) dX12_shelter_29 rfl rfl rfl ?_
      refine aw_get clsAll (pc' := 33) dX12_shelter_30 rfl fl_RX12_242 hm.1 rfl ?_
      refine aw_bipush (v := 120) (pc' := 35) dX12_shelter_33 rfl (by decide) ?_
      refine aw_icmp_ne (tgt := 41) (pc' := 38) dX12_shelter_35 (by decide) rfl (fun _ => ?_) (fun c => absurd c (by decide))
      refine aw_aload_n (pc' := 42) dX12_shelter_41 rfl rfl rfl ?_
      refine aw_aload_n (pc' := 43) dX12_shelter_42 rfl rfl rfl ?_
      refine aw_bipush (v := 6) (pc' := 45) dX12_shelter_43 rfl (by decide) ?_
      have cc24 : AM mX12_add 0 [.ref 67, .int 6] h 0 0 (PI fun r h' => (0 = r ∧ ∃ h27 : List aE, h.set 62 (.inl (0, 120, .inl (upd (fun _ => 0) (0 : Int32).toNatClampNeg 6))) = h27 ∧ ∃ h28 : List aE, h27.set 59 (.inr (12, [.int 0, .int 0, .ref 68, .ref 69, .int 1, .ref 70, .ref 71, .ref 72, .ref 73, .ref 74, .ref 75, .ref 76, .ref 77, .ref 78, .ref 79, .ref 80, .ref 81, .ref 82, .ref 83, .ref 84, .ref 85, .int (-1), .int 0, .int 0, .int 0, .int 0, .ref 86, .ref 87, .ref 88, .int 2, .int 0, .ref 89, .ref 90, .ref 91, .ref 92, .ref 93, .ref 94, .int 0, .int 0, .ref 95, .ref 96, .ref 97, .ref 98, .ref 99, .ref 100, .ref 101, .ref 102, .int 0, .int 0, .int 0, .int 0, .int 0, .ref 103, .ref 104, .int 0, .int 0, .int 0, .ref 105, .ref 106, .ref 107, .ref 108, .ref 109, .int 0, .ref 110, .ref 111, .ref 112, .ref 113, .int 0, .ref 114, .ref 115, .ref 116, .ref 117, .int (-1), .ref 118, .int (-1), .ref 119, .int 0, .ref 120, .ref 121, .int 0, .ref 122, .ref 123, .int (-1), .int 0, .ref 124, .ref 125, .ref 126, .int 0, .ref 127, .ref 128, .ref 129, .ref 130, .ref 131, .ref 132, .ref 133])) = h28 ∧ h28 = h')) := by
        refine am_of (lv := [some (.ref 67), some (.int 6)]) rfl (Nat.le_of_ble_eq_true rfl) rfl ?_
        refine aw_aload_n (pc' := 1) dX12_add_0 rfl rfl rfl ?_
        refine aw_get clsAll (pc' := 4) dX12_add_1 rfl fl_RX12_17 hm.1 rfl ?_
        refine aw_aload_n (pc' := 5) dX12_add_4 rfl rfl rfl ?_
        refine aw_get clsAll (pc' := 8) dX12_add_5 rfl fl_RX12_242 hm.1 rfl ?_
        refine aw_iload_n (pc' := 9) dX12_add_8 rfl rfl ?_
        refine aw_iastG (pc' := 10) dX12_add_9 rfl ((hm.2 62 (by decide) (by decide)).trans h0_62) (vpc (by decide)) (fun h25 e25 => ?_)
        refine aw_aload_n (pc' := 11) dX12_add_10 rfl rfl rfl ?_
        refine aw_dup (pc' := 12) dX12_add_11 rfl rfl ?_
        refine aw_get clsAll (pc' := 15) dX12_add_12 rfl fl_RX12_242 (gsn e25 (by decide) hm.1) rfl ?_
        refine aw_iconst (v := 1) (pc' := 16) dX12_add_15 rfl (by decide) ?_
        refine aw_iadd (pc' := 17) dX12_add_16 rfl ?_
        refine aw_topi (v := 1) (by decide) ?_
        refine aw_putG clsAll (pc' := 20) dX12_add_17 rfl fl_RX12_242 (gsn e25 (by decide) hm.1) (Nat.le_of_ble_eq_true rfl) rfl (fun h26 e26 => ?_)
        refine aw_aload_n (pc' := 21) dX12_add_20 rfl rfl rfl ?_
        refine aw_get clsAll (pc' := 24) dX12_add_21 rfl fl_RX12_242 (gss e26 (gsn e25 (by decide) hm.1)) rfl ?_
        refine aw_iconst (v := 1) (pc' := 25) dX12_add_24 rfl (by decide) ?_
        refine aw_isub (pc' := 26) dX12_add_25 rfl ?_
        refine aw_topi (v := 0) (by decide) ?_
        exact aw_ri dX12_add_26 rfl rfl (Nat.le_of_ble_eq_true rfl) (Nat.le_of_ble_eq_true rfl) ⟨rfl, h25, e25, h26, e26, rfl⟩
      refine aw_callVi (M' := mX12_add) (nc' := 0) (ns' := 0) (pc' := 48) dX12_shelter_45 rfl ml_RX12_252 kX12_add cc24 hm.1 rfl rfl rfl (Nat.le_of_ble_eq_true rfl) (rok rfl) rfl rfl (fun r29 h29 q29 => ?_)
      obtain ⟨rfl, h27, e27, h28, e28, rfl⟩ := q29
      refine aw_putG clsAll (pc' := 51) dX12_shelter_48 rfl fl_RX12_65 (gss e28 (gsn e27 (by decide) hm.1)) (Nat.le_of_ble_eq_true rfl) rfl (fun h30 e30 => ?_)
      refine aw_aload_n (pc' := 52) dX12_shelter_51 rfl rfl rfl ?_
      refine aw_iload_n (pc' := 53) dX12_shelter_52 rfl rfl ?_
      refine aw_bipush (v := 100) (pc' := 55) dX12_shelter_53 rfl (by decide) ?_
      refine aw_idiv (pc' := 56) dX12_shelter_55 rfl (by decide) ?_
      refine aw_putG clsAll (pc' := 59) dX12_shelter_56 rfl fl_RX12_258 (gss e30 (gss e28 (gsn e27 (by decide) hm.1))) (Nat.le_of_ble_eq_true rfl) rfl (fun h31 e31 => ?_)
      refine aw_aload_n (pc' := 60) dX12_shelter_59 rfl rfl rfl ?_
      refine aw_iload_n (pc' := 61) dX12_shelter_60 rfl rfl ?_
      refine aw_bipush (v := 100) (pc' := 63) dX12_shelter_61 rfl (by decide) ?_
      refine aw_irem (pc' := 64) dX12_shelter_63 rfl (by decide) ?_
      refine aw_putG clsAll (pc' := 67) dX12_shelter_64 rfl fl_RX12_261 (gss e31 (gss e30 (gss e28 (gsn e27 (by decide) hm.1)))) (Nat.le_of_ble_eq_true rfl) rfl (fun h32 e32 => ?_)
      refine aw_aload_n (pc' := 68) dX12_shelter_67 rfl rfl rfl ?_
      refine aw_iload_n (pc' := 69) dX12_shelter_68 rfl rfl ?_
      refine aw_putG clsAll (pc' := 72) dX12_shelter_69 rfl fl_RX12_264 (gss e32 (gss e31 (gss e30 (gss e28 (gsn e27 (by decide) hm.1))))) (Nat.le_of_ble_eq_true rfl) rfl (fun h33 e33 => ?_)
      refine aw_aload_n (pc' := 73) dX12_shelter_72 rfl rfl rfl ?_
      refine aw_get clsAll (pc' := 76) dX12_shelter_73 rfl fl_RX12_65 (gss e33 (gss e32 (gss e31 (gss e30 (gss e28 (gsn e27 (by decide) hm.1)))))) rfl ?_
      exact aw_ri dX12_shelter_76 rfl rfl (Nat.le_of_ble_eq_true rfl) (Nat.le_of_ble_eq_true rfl) (by first | (simp [sp_shelter, cnd, okC, okS, okW_iff, okN_iff, inR, c11, c12, c13, c21, c22]; done) | (simp_all [sp_shelter, cnd, okC, okS, okW_iff, okN_iff, inR]; done) | skip)
set_option maxRecDepth 4000 in
theorem m_man (h : List aE) (hm : Fm 0 h) (s : Int32) (w : Int32) : AM mX12_man 1 [.ref 67, .int s, .int w] h 0 0 (PI fun r h' => r = sp_man s w) := by
  refine am_of (lv := [some (.ref 67), some (.int s), some (.int w), none]) rfl (Nat.le_of_ble_eq_true rfl) rfl ?_
  refine aw_iload_n (pc' := 1) dX12_man_0 rfl rfl ?_
  refine aw_iconst (v := 0) (pc' := 2) dX12_man_1 rfl (by decide) ?_
  refine aw_sipush (v := 999) (pc' := 5) dX12_man_2 rfl (by decide) ?_
  have cc1 : AM mX12_in 0 [.int s, .int 0, .int 999] h 0 0 (PI fun r h' => (s < 0 ∧ 0 = r ∧ h = h') ∨ (¬ (s < 0) ∧ 999 < s ∧ 0 = r ∧ h = h') ∨ (¬ (s < 0) ∧ ¬ (999 < s) ∧ 1 = r ∧ h = h')) := by
    refine am_of (lv := [some (.int s), some (.int 0), some (.int 999)]) rfl (Nat.le_of_ble_eq_true rfl) rfl ?_
    refine aw_iload_n (pc' := 1) dX12_in_0 rfl rfl ?_
    refine aw_iload_n (pc' := 2) dX12_in_1 rfl rfl ?_
    refine aw_clt (tgt := 14) (pc' := 5) dX12_in_2 (by decide) rfl (fun c2 => ?_) (fun c2 => ?_)
    · refine aw_iconst (v := 0) (pc' := 15) dX12_in_14 rfl (by decide) ?_
      exact aw_ri dX12_in_15 rfl (by decide) (Nat.le_of_ble_eq_true rfl) (Nat.le_of_ble_eq_true rfl) (Or.inl ⟨c2, rfl, rfl⟩)
    · refine aw_iload_n (pc' := 6) dX12_in_5 rfl rfl ?_
      refine aw_iload_n (pc' := 7) dX12_in_6 rfl rfl ?_
      refine aw_cgt (tgt := 14) (pc' := 10) dX12_in_7 (by decide) rfl (fun c3 => ?_) (fun c3 => ?_)
      · refine aw_iconst (v := 0) (pc' := 15) dX12_in_14 rfl (by decide) ?_
        exact aw_ri dX12_in_15 rfl (by decide) (Nat.le_of_ble_eq_true rfl) (Nat.le_of_ble_eq_true rfl) (Or.inr (Or.inl ⟨c2, c3, rfl, rfl⟩))
      · refine aw_iconst (v := 1) (pc' := 11) dX12_in_10 rfl (by decide) ?_
        refine aw_goto (tgt := 15) dX12_in_11 (by decide) ?_
        exact aw_ri dX12_in_15 rfl (by decide) (Nat.le_of_ble_eq_true rfl) (Nat.le_of_ble_eq_true rfl) (Or.inr (Or.inr ⟨c2, c3, rfl, rfl⟩))
  refine aw_callSi (M' := mX12_in) (nc' := 0) (ns' := 0) (pc' := 8) dX12_man_5 rfl ml_RX12_230 kX12_in cc1 rfl rfl (Nat.le_of_ble_eq_true rfl) (rok rfl) rfl rfl (fun r9 h9 q9 => ?_)
  rcases q9 with ⟨c4, rfl, rfl⟩ | ⟨c5, c6, rfl, rfl⟩ | ⟨c7, c8, rfl, rfl⟩
  · refine aw_if_eq (tgt := 21) (pc' := 11) dX12_man_8 (by decide) rfl (fun _ => ?_) (fun c => absurd (by decide) c)
    refine aw_iconst (v := (-1)) (pc' := 22) dX12_man_21 rfl (by decide) ?_
    exact aw_ri dX12_man_22 rfl rfl (Nat.le_of_ble_eq_true rfl) (Nat.le_of_ble_eq_true rfl) (by first | (simp [sp_man, cnd, okC, okS, okW_iff, okN_iff, inR, c4]; done) | (simp_all [sp_man, cnd, okC, okS, okW_iff, okN_iff, inR]; done) | skip)
  · refine aw_if_eq (tgt := 21) (pc' := 11) dX12_man_8 (by decide) rfl (fun _ => ?_) (fun c => absurd (by decide) c)
    refine aw_iconst (v := (-1)) (pc' := 22) dX12_man_21 rfl (by decide) ?_
    exact aw_ri dX12_man_22 rfl rfl (Nat.le_of_ble_eq_true rfl) (Nat.le_of_ble_eq_true rfl) (by first | (simp [sp_man, cnd, okC, okS, okW_iff, okN_iff, inR, c5, c6]; done) | (simp_all [sp_man, cnd, okC, okS, okW_iff, okN_iff, inR]; done) | skip)
  · refine aw_if_eq (tgt := 21) (pc' := 11) dX12_man_8 (by decide) rfl (fun c => absurd c (by decide)) (fun _ => ?_)
    refine aw_iload_n (pc' := 12) dX12_man_11 rfl rfl ?_
    refine aw_iconst (v := 0) (pc' := 13) dX12_man_12 rfl (by decide) ?_
    refine aw_bipush (v := 99) (pc' := 15) dX12_man_13 rfl (by decide) ?_
    have cc10 : AM mX12_in 0 [.int w, .int 0, .int 99] h 0 0 (PI fun r h' => (w < 0 ∧ 0 = r ∧ h = h') ∨ (¬ (w < 0) ∧ 99 < w ∧ 0 = r ∧ h = h') ∨ (¬ (w < 0) ∧ ¬ (99 < w) ∧ 1 = r ∧ h = h')) := by
      refine am_of (lv := [some (.int w), some (.int 0), some (.int 99)]) rfl (Nat.le_of_ble_eq_true rfl) rfl ?_
      refine aw_iload_n (pc' := 1) dX12_in_0 rfl rfl ?_
      refine aw_iload_n (pc' := 2) dX12_in_1 rfl rfl ?_
      refine aw_clt (tgt := 14) (pc' := 5) dX12_in_2 (by decide) rfl (fun c11 => ?_) (fun c11 => ?_)
      · refine aw_iconst (v := 0) (pc' := 15) dX12_in_14 rfl (by decide) ?_
        exact aw_ri dX12_in_15 rfl (by decide) (Nat.le_of_ble_eq_true rfl) (Nat.le_of_ble_eq_true rfl) (Or.inl ⟨c11, rfl, rfl⟩)
      · refine aw_iload_n (pc' := 6) dX12_in_5 rfl rfl ?_
        refine aw_iload_n (pc' := 7) dX12_in_6 rfl rfl ?_
        refine aw_cgt (tgt := 14) (pc' := 10) dX12_in_7 (by decide) rfl (fun c12 => ?_) (fun c12 => ?_)
        · refine aw_iconst (v := 0) (pc' := 15) dX12_in_14 rfl (by decide) ?_
          exact aw_ri dX12_in_15 rfl (by decide) (Nat.le_of_ble_eq_true rfl) (Nat.le_of_ble_eq_true rfl) (Or.inr (Or.inl ⟨c11, c12, rfl, rfl⟩))
        · refine aw_iconst (v := 1) (pc' := 11) dX12_in_10 rfl (by decide) ?_
          refine aw_goto (tgt := 15) dX12_in_11 (by decide) ?_
          exact aw_ri dX12_in_15 rfl (by decide) (Nat.le_of_ble_eq_true rfl) (Nat.le_of_ble_eq_true rfl) (Or.inr (Or.inr ⟨c11, c12, rfl, rfl⟩))
    refine aw_callSi (M' := mX12_in) (nc' := 0) (ns' := 0) (pc' := 18) dX12_man_15 rfl ml_RX12_230 kX12_in cc10 rfl rfl (Nat.le_of_ble_eq_true rfl) (rok rfl) rfl rfl (fun r18 h18 q18 => ?_)
    rcases q18 with ⟨c13, rfl, rfl⟩ | ⟨c14, c15, rfl, rfl⟩ | ⟨c16, c17, rfl, rfl⟩
    · refine aw_if_ne (tgt := 23) (pc' := 21) dX12_man_18 (by decide) rfl (fun c => absurd (by decide) c) (fun _ => ?_)
      refine aw_iconst (v := (-1)) (pc' := 22) dX12_man_21 rfl (by decide) ?_
      exact aw_ri dX12_man_22 rfl rfl (Nat.le_of_ble_eq_true rfl) (Nat.le_of_ble_eq_true rfl) (by first | (simp [sp_man, cnd, okC, okS, okW_iff, okN_iff, inR, c7, c8, c13]; done) | (simp_all [sp_man, cnd, okC, okS, okW_iff, okN_iff, inR]; done) | skip)
    · refine aw_if_ne (tgt := 23) (pc' := 21) dX12_man_18 (by decide) rfl (fun c => absurd (by decide) c) (fun _ => ?_)
      refine aw_iconst (v := (-1)) (pc' := 22) dX12_man_21 rfl (by decide) ?_
      exact aw_ri dX12_man_22 rfl rfl (Nat.le_of_ble_eq_true rfl) (Nat.le_of_ble_eq_true rfl) (by first | (simp [sp_man, cnd, okC, okS, okW_iff, okN_iff, inR, c7, c8, c14, c15]; done) | (simp_all [sp_man, cnd, okC, okS, okW_iff, okN_iff, inR]; done) | skip)
    · refine aw_if_ne (tgt := 23) (pc' := 21) dX12_man_18 (by decide) rfl (fun _ => ?_) (fun c => absurd c (by decide))
      refine aw_aload_n (pc' := 24) dX12_man_23 rfl rfl rfl ?_
      refine aw_get clsAll (pc' := 27) dX12_man_24 rfl fl_RX12_242 hm.1 rfl ?_
      refine aw_bipush (v := 120) (pc' := 29) dX12_man_27 rfl (by decide) ?_
      refine aw_icmp_ne (tgt := 35) (pc' := 32) dX12_man_29 (by decide) rfl (fun _ => ?_) (fun c => absurd c (by decide))
      refine aw_aload_n (pc' := 36) dX12_man_35 rfl rfl rfl ?_
      refine aw_bipush (v := 7) (pc' := 38) dX12_man_36 rfl (by decide) ?_
      have cc19 : AM mX12_add 0 [.ref 67, .int 7] h 0 0 (PI fun r h' => (0 = r ∧ ∃ h22 : List aE, h.set 62 (.inl (0, 120, .inl (upd (fun _ => 0) (0 : Int32).toNatClampNeg 7))) = h22 ∧ ∃ h23 : List aE, h22.set 59 (.inr (12, [.int 0, .int 0, .ref 68, .ref 69, .int 1, .ref 70, .ref 71, .ref 72, .ref 73, .ref 74, .ref 75, .ref 76, .ref 77, .ref 78, .ref 79, .ref 80, .ref 81, .ref 82, .ref 83, .ref 84, .ref 85, .int (-1), .int 0, .int 0, .int 0, .int 0, .ref 86, .ref 87, .ref 88, .int 2, .int 0, .ref 89, .ref 90, .ref 91, .ref 92, .ref 93, .ref 94, .int 0, .int 0, .ref 95, .ref 96, .ref 97, .ref 98, .ref 99, .ref 100, .ref 101, .ref 102, .int 0, .int 0, .int 0, .int 0, .int 0, .ref 103, .ref 104, .int 0, .int 0, .int 0, .ref 105, .ref 106, .ref 107, .ref 108, .ref 109, .int 0, .ref 110, .ref 111, .ref 112, .ref 113, .int 0, .ref 114, .ref 115, .ref 116, .ref 117, .int (-1), .ref 118, .int (-1), .ref 119, .int 0, .ref 120, .ref 121, .int 0, .ref 122, .ref 123, .int (-1), .int 0, .ref 124, .ref 125, .ref 126, .int 0, .ref 127, .ref 128, .ref 129, .ref 130, .ref 131, .ref 132, .ref 133])) = h23 ∧ h23 = h')) := by
        refine am_of (lv := [some (.ref 67), some (.int 7)]) rfl (Nat.le_of_ble_eq_true rfl) rfl ?_
        refine aw_aload_n (pc' := 1) dX12_add_0 rfl rfl rfl ?_
        refine aw_get clsAll (pc' := 4) dX12_add_1 rfl fl_RX12_17 hm.1 rfl ?_
        refine aw_aload_n (pc' := 5) dX12_add_4 rfl rfl rfl ?_
        refine aw_get clsAll (pc' := 8) dX12_add_5 rfl fl_RX12_242 hm.1 rfl ?_
        refine aw_iload_n (pc' := 9) dX12_add_8 rfl rfl ?_
        refine aw_iastG (pc' := 10) dX12_add_9 rfl ((hm.2 62 (by decide) (by decide)).trans h0_62) (vpc (by decide)) (fun h20 e20 => ?_)
        refine aw_aload_n (pc' := 11) dX12_add_10 rfl rfl rfl ?_
        refine aw_dup (pc' := 12) dX12_add_11 rfl rfl ?_
        refine aw_get clsAll (pc' := 15) dX12_add_12 rfl fl_RX12_242 (gsn e20 (by decide) hm.1) rfl ?_
        refine aw_iconst (v := 1) (pc' := 16) dX12_add_15 rfl (by decide) ?_
        refine aw_iadd (pc' := 17) dX12_add_16 rfl ?_
        refine aw_topi (v := 1) (by decide) ?_
        refine aw_putG clsAll (pc' := 20) dX12_add_17 rfl fl_RX12_242 (gsn e20 (by decide) hm.1) (Nat.le_of_ble_eq_true rfl) rfl (fun h21 e21 => ?_)
        refine aw_aload_n (pc' := 21) dX12_add_20 rfl rfl rfl ?_
        refine aw_get clsAll (pc' := 24) dX12_add_21 rfl fl_RX12_242 (gss e21 (gsn e20 (by decide) hm.1)) rfl ?_
        refine aw_iconst (v := 1) (pc' := 25) dX12_add_24 rfl (by decide) ?_
        refine aw_isub (pc' := 26) dX12_add_25 rfl ?_
        refine aw_topi (v := 0) (by decide) ?_
        exact aw_ri dX12_add_26 rfl rfl (Nat.le_of_ble_eq_true rfl) (Nat.le_of_ble_eq_true rfl) ⟨rfl, h20, e20, h21, e21, rfl⟩
      refine aw_callVi (M' := mX12_add) (nc' := 0) (ns' := 0) (pc' := 41) dX12_man_38 rfl ml_RX12_252 kX12_add cc19 hm.1 rfl rfl rfl (Nat.le_of_ble_eq_true rfl) (rok rfl) rfl rfl (fun r24 h24 q24 => ?_)
      obtain ⟨rfl, h22, e22, h23, e23, rfl⟩ := q24
      refine aw_istore_n (lv' := [_, _, _, _]) (pc' := 42) dX12_man_41 rfl (Nat.le_of_ble_eq_true rfl) rfl ?_
      refine aw_aload_n (pc' := 43) dX12_man_42 rfl rfl rfl ?_
      refine aw_get clsAll (pc' := 46) dX12_man_43 rfl fl_RX12_53 (gss e23 (gsn e22 (by decide) hm.1)) rfl ?_
      refine aw_iload_n (pc' := 47) dX12_man_46 rfl rfl ?_
      refine aw_iload_n (pc' := 48) dX12_man_47 rfl rfl ?_
      refine aw_iastG (pc' := 49) dX12_man_48 rfl (gsn e23 (by decide) (gsn e22 (by decide) ((hm.2 74 (by decide) (by decide)).trans h0_74))) (vpc (by decide)) (fun h25 e25 => ?_)
      refine aw_aload_n (pc' := 50) dX12_man_49 rfl rfl rfl ?_
      refine aw_get clsAll (pc' := 53) dX12_man_50 rfl fl_RX12_56 (gsn e25 (by decide) (gss e23 (gsn e22 (by decide) hm.1))) rfl ?_
      refine aw_iload_n (pc' := 54) dX12_man_53 rfl rfl ?_
      refine aw_iload_n (pc' := 55) dX12_man_54 rfl rfl ?_
      refine aw_bipush (v := 10) (pc' := 57) dX12_man_55 rfl (by decide) ?_
      refine aw_idiv (pc' := 58) dX12_man_57 rfl (by decide) ?_
      refine aw_iastG (pc' := 59) dX12_man_58 rfl (gsn e25 (by decide) (gsn e23 (by decide) (gsn e22 (by decide) ((hm.2 75 (by decide) (by decide)).trans h0_75)))) (vpc (by decide)) (fun h26 e26 => ?_)
      refine aw_aload_n (pc' := 60) dX12_man_59 rfl rfl rfl ?_
      refine aw_get clsAll (pc' := 63) dX12_man_60 rfl fl_RX12_59 (gsn e26 (by decide) (gsn e25 (by decide) (gss e23 (gsn e22 (by decide) hm.1)))) rfl ?_
      refine aw_iload_n (pc' := 64) dX12_man_63 rfl rfl ?_
      refine aw_iload_n (pc' := 65) dX12_man_64 rfl rfl ?_
      refine aw_bipush (v := 10) (pc' := 67) dX12_man_65 rfl (by decide) ?_
      refine aw_irem (pc' := 68) dX12_man_67 rfl (by decide) ?_
      refine aw_iastG (pc' := 69) dX12_man_68 rfl (gsn e26 (by decide) (gsn e25 (by decide) (gsn e23 (by decide) (gsn e22 (by decide) ((hm.2 76 (by decide) (by decide)).trans h0_76))))) (vpc (by decide)) (fun h27 e27 => ?_)
      refine aw_aload_n (pc' := 70) dX12_man_69 rfl rfl rfl ?_
      refine aw_get clsAll (pc' := 73) dX12_man_70 rfl fl_RX12_62 (gsn e27 (by decide) (gsn e26 (by decide) (gsn e25 (by decide) (gss e23 (gsn e22 (by decide) hm.1))))) rfl ?_
      refine aw_iload_n (pc' := 74) dX12_man_73 rfl rfl ?_
      refine aw_iconst (v := 1) (pc' := 75) dX12_man_74 rfl (by decide) ?_
      refine aw_zastG (pc' := 76) dX12_man_75 rfl (gsn e27 (by decide) (gsn e26 (by decide) (gsn e25 (by decide) (gsn e23 (by decide) (gsn e22 (by decide) ((hm.2 77 (by decide) (by decide)).trans h0_77)))))) (vpc (by decide)) (by decide) (fun h28 e28 => ?_)
      refine aw_iload_n (pc' := 77) dX12_man_76 rfl rfl ?_
      exact aw_ri dX12_man_77 rfl rfl (Nat.le_of_ble_eq_true rfl) (Nat.le_of_ble_eq_true rfl) (by first | (simp [sp_man, cnd, okC, okS, okW_iff, okN_iff, inR, c7, c8, c16, c17]; done) | (simp_all [sp_man, cnd, okC, okS, okW_iff, okN_iff, inR]; done) | skip)
set_option maxRecDepth 4000 in
theorem m_ofBody (h : List aE) (hm : Fm 0 h) (b : Int32) (w : Int32) : AM mX12_ofBody 2 [.ref 67, .int b, .int w] h 0 0 (PI fun r h' => r = sp_ofBody b w) := by
  refine am_of (lv := [some (.ref 67), some (.int b), some (.int w)]) rfl (Nat.le_of_ble_eq_true rfl) rfl ?_
  refine aw_aload_n (pc' := 1) dX12_ofBody_0 rfl rfl rfl ?_
  refine aw_iload_n (pc' := 2) dX12_ofBody_1 rfl rfl ?_
  have cc1 : AM mX12_isBody 1 [.ref 67, .int b] h 0 0 (PI fun r h' => (b < 0 ∧ 0 = r ∧ h = h') ∨ (¬ (b < 0) ∧ 0 = r ∧ h = h')) := by
    refine am_of (lv := [some (.ref 67), some (.int b)]) rfl (Nat.le_of_ble_eq_true rfl) rfl ?_
    refine aw_iload_n (pc' := 1) dX12_isBody_0 rfl rfl ?_
    refine aw_iconst (v := 0) (pc' := 2) dX12_isBody_1 rfl (by decide) ?_
    refine aw_aload_n (pc' := 3) dX12_isBody_2 rfl rfl rfl ?_
    refine aw_get clsAll (pc' := 6) dX12_isBody_3 rfl fl_RX12_242 hm.1 rfl ?_
    refine aw_iconst (v := 1) (pc' := 7) dX12_isBody_6 rfl (by decide) ?_
    refine aw_isub (pc' := 8) dX12_isBody_7 rfl ?_
    refine aw_topi (v := (-1)) (by decide) ?_
    have cc2 : AM mX12_in 0 [.int b, .int 0, .int (-1)] h 0 0 (PI fun r h' => (b < 0 ∧ 0 = r ∧ h = h') ∨ (¬ (b < 0) ∧ 0 = r ∧ h = h')) := by
      refine am_of (lv := [some (.int b), some (.int 0), some (.int (-1))]) rfl (Nat.le_of_ble_eq_true rfl) rfl ?_
      refine aw_iload_n (pc' := 1) dX12_in_0 rfl rfl ?_
      refine aw_iload_n (pc' := 2) dX12_in_1 rfl rfl ?_
      refine aw_clt (tgt := 14) (pc' := 5) dX12_in_2 (by decide) rfl (fun c3 => ?_) (fun c3 => ?_)
      · refine aw_iconst (v := 0) (pc' := 15) dX12_in_14 rfl (by decide) ?_
        exact aw_ri dX12_in_15 rfl (by decide) (Nat.le_of_ble_eq_true rfl) (Nat.le_of_ble_eq_true rfl) (Or.inl ⟨c3, rfl, rfl⟩)
      · refine aw_iload_n (pc' := 6) dX12_in_5 rfl rfl ?_
        refine aw_iload_n (pc' := 7) dX12_in_6 rfl rfl ?_
        refine aw_cgt (tgt := 14) (pc' := 10) dX12_in_7 (by decide) rfl (fun _ => ?_) (fun c => absurd (bt1 c3 (by decide)) c)
        refine aw_iconst (v := 0) (pc' := 15) dX12_in_14 rfl (by decide) ?_
        exact aw_ri dX12_in_15 rfl (by decide) (Nat.le_of_ble_eq_true rfl) (Nat.le_of_ble_eq_true rfl) (Or.inr ⟨c3, rfl, rfl⟩)
    refine aw_callSi (M' := mX12_in) (nc' := 0) (ns' := 0) (pc' := 11) dX12_isBody_8 rfl ml_RX12_230 kX12_in cc2 rfl rfl (Nat.le_of_ble_eq_true rfl) (rok rfl) rfl rfl (fun r6 h6 q6 => ?_)
    rcases q6 with ⟨c4, rfl, rfl⟩ | ⟨c5, rfl, rfl⟩
    · exact aw_ri dX12_isBody_11 rfl (by decide) (Nat.le_of_ble_eq_true rfl) (Nat.le_of_ble_eq_true rfl) (Or.inl ⟨c4, rfl, rfl⟩)
    · exact aw_ri dX12_isBody_11 rfl (by decide) (Nat.le_of_ble_eq_true rfl) (Nat.le_of_ble_eq_true rfl) (Or.inr ⟨c5, rfl, rfl⟩)
  refine aw_callVi (M' := mX12_isBody) (nc' := 0) (ns' := 0) (pc' := 5) dX12_ofBody_2 rfl ml_RX12_245 kX12_isBody cc1 hm.1 rfl rfl rfl (Nat.le_of_ble_eq_true rfl) (rok rfl) rfl rfl (fun r9 h9 q9 => ?_)
  rcases q9 with ⟨c7, rfl, rfl⟩ | ⟨c8, rfl, rfl⟩
  · refine aw_if_ne (tgt := 12) (pc' := 8) dX12_ofBody_5 (by decide) rfl (fun c => absurd (by decide) c) (fun _ => ?_)
    refine aw_ldcw (pc' := 11) dX12_ofBody_8 rfl ct_RX12_267 ?_
    exact aw_ri dX12_ofBody_11 rfl rfl (Nat.le_of_ble_eq_true rfl) (Nat.le_of_ble_eq_true rfl) (by first | (simp [sp_ofBody, cnd, okC, okS, okW_iff, okN_iff, inR, c7]; done) | (simp_all [sp_ofBody, cnd, okC, okS, okW_iff, okN_iff, inR]; done) | skip)
  · refine aw_if_ne (tgt := 12) (pc' := 8) dX12_ofBody_5 (by decide) rfl (fun c => absurd (by decide) c) (fun _ => ?_)
    refine aw_ldcw (pc' := 11) dX12_ofBody_8 rfl ct_RX12_267 ?_
    exact aw_ri dX12_ofBody_11 rfl rfl (Nat.le_of_ble_eq_true rfl) (Nat.le_of_ble_eq_true rfl) (by first | (simp [sp_ofBody, cnd, okC, okS, okW_iff, okN_iff, inR, c8]; done) | (simp_all [sp_ofBody, cnd, okC, okS, okW_iff, okN_iff, inR]; done) | skip)
set_option maxRecDepth 4000 in
theorem m_ill (h : List aE) (hm : Fm 0 h) (m : Int32) (v : Int32) : AM mX12_ill 3 [.ref 67, .int m, .int v] h 0 0 (PI fun r h' => r = sp_ill m v) := by
  refine am_of (lv := [some (.ref 67), some (.int m), some (.int v), none]) rfl (Nat.le_of_ble_eq_true rfl) rfl ?_
  refine aw_aload_n (pc' := 1) dX12_ill_0 rfl rfl rfl ?_
  refine aw_iload_n (pc' := 2) dX12_ill_1 rfl rfl ?_
  have cc1 : AM mX12_isMan 2 [.ref 67, .int m] h 0 0 (PI fun r h' => (m < 0 ∧ 0 = r ∧ h = h') ∨ (¬ (m < 0) ∧ 0 = r ∧ h = h')) := by
    refine am_of (lv := [some (.ref 67), some (.int m)]) rfl (Nat.le_of_ble_eq_true rfl) rfl ?_
    refine aw_aload_n (pc' := 1) dX12_isMan_0 rfl rfl rfl ?_
    refine aw_iload_n (pc' := 2) dX12_isMan_1 rfl rfl ?_
    have cc2 : AM mX12_isBody 1 [.ref 67, .int m] h 0 0 (PI fun r h' => (m < 0 ∧ 0 = r ∧ h = h') ∨ (¬ (m < 0) ∧ 0 = r ∧ h = h')) := by
      refine am_of (lv := [some (.ref 67), some (.int m)]) rfl (Nat.le_of_ble_eq_true rfl) rfl ?_
      refine aw_iload_n (pc' := 1) dX12_isBody_0 rfl rfl ?_
      refine aw_iconst (v := 0) (pc' := 2) dX12_isBody_1 rfl (by decide) ?_
      refine aw_aload_n (pc' := 3) dX12_isBody_2 rfl rfl rfl ?_
      refine aw_get clsAll (pc' := 6) dX12_isBody_3 rfl fl_RX12_242 hm.1 rfl ?_
      refine aw_iconst (v := 1) (pc' := 7) dX12_isBody_6 rfl (by decide) ?_
      refine aw_isub (pc' := 8) dX12_isBody_7 rfl ?_
      refine aw_topi (v := (-1)) (by decide) ?_
      have cc3 : AM mX12_in 0 [.int m, .int 0, .int (-1)] h 0 0 (PI fun r h' => (m < 0 ∧ 0 = r ∧ h = h') ∨ (¬ (m < 0) ∧ 0 = r ∧ h = h')) := by
        refine am_of (lv := [some (.int m), some (.int 0), some (.int (-1))]) rfl (Nat.le_of_ble_eq_true rfl) rfl ?_
        refine aw_iload_n (pc' := 1) dX12_in_0 rfl rfl ?_
        refine aw_iload_n (pc' := 2) dX12_in_1 rfl rfl ?_
        refine aw_clt (tgt := 14) (pc' := 5) dX12_in_2 (by decide) rfl (fun c4 => ?_) (fun c4 => ?_)
        · refine aw_iconst (v := 0) (pc' := 15) dX12_in_14 rfl (by decide) ?_
          exact aw_ri dX12_in_15 rfl (by decide) (Nat.le_of_ble_eq_true rfl) (Nat.le_of_ble_eq_true rfl) (Or.inl ⟨c4, rfl, rfl⟩)
        · refine aw_iload_n (pc' := 6) dX12_in_5 rfl rfl ?_
          refine aw_iload_n (pc' := 7) dX12_in_6 rfl rfl ?_
          refine aw_cgt (tgt := 14) (pc' := 10) dX12_in_7 (by decide) rfl (fun _ => ?_) (fun c => absurd (bt1 c4 (by decide)) c)
          refine aw_iconst (v := 0) (pc' := 15) dX12_in_14 rfl (by decide) ?_
          exact aw_ri dX12_in_15 rfl (by decide) (Nat.le_of_ble_eq_true rfl) (Nat.le_of_ble_eq_true rfl) (Or.inr ⟨c4, rfl, rfl⟩)
      refine aw_callSi (M' := mX12_in) (nc' := 0) (ns' := 0) (pc' := 11) dX12_isBody_8 rfl ml_RX12_230 kX12_in cc3 rfl rfl (Nat.le_of_ble_eq_true rfl) (rok rfl) rfl rfl (fun r7 h7 q7 => ?_)
      rcases q7 with ⟨c5, rfl, rfl⟩ | ⟨c6, rfl, rfl⟩
      · exact aw_ri dX12_isBody_11 rfl (by decide) (Nat.le_of_ble_eq_true rfl) (Nat.le_of_ble_eq_true rfl) (Or.inl ⟨c5, rfl, rfl⟩)
      · exact aw_ri dX12_isBody_11 rfl (by decide) (Nat.le_of_ble_eq_true rfl) (Nat.le_of_ble_eq_true rfl) (Or.inr ⟨c6, rfl, rfl⟩)
    refine aw_callVi (M' := mX12_isBody) (nc' := 0) (ns' := 0) (pc' := 5) dX12_isMan_2 rfl ml_RX12_245 kX12_isBody cc2 hm.1 rfl rfl rfl (Nat.le_of_ble_eq_true rfl) (rok rfl) rfl rfl (fun r10 h10 q10 => ?_)
    rcases q10 with ⟨c8, rfl, rfl⟩ | ⟨c9, rfl, rfl⟩
    · refine aw_if_eq (tgt := 23) (pc' := 8) dX12_isMan_5 (by decide) rfl (fun _ => ?_) (fun c => absurd (by decide) c)
      refine aw_iconst (v := 0) (pc' := 24) dX12_isMan_23 rfl (by decide) ?_
      exact aw_ri dX12_isMan_24 rfl (by decide) (Nat.le_of_ble_eq_true rfl) (Nat.le_of_ble_eq_true rfl) (Or.inl ⟨c8, rfl, rfl⟩)
    · refine aw_if_eq (tgt := 23) (pc' := 8) dX12_isMan_5 (by decide) rfl (fun _ => ?_) (fun c => absurd (by decide) c)
      refine aw_iconst (v := 0) (pc' := 24) dX12_isMan_23 rfl (by decide) ?_
      exact aw_ri dX12_isMan_24 rfl (by decide) (Nat.le_of_ble_eq_true rfl) (Nat.le_of_ble_eq_true rfl) (Or.inr ⟨c9, rfl, rfl⟩)
  refine aw_callVi (M' := mX12_isMan) (nc' := 0) (ns' := 0) (pc' := 5) dX12_ill_2 rfl ml_RX12_275 kX12_isMan cc1 hm.1 rfl rfl rfl (Nat.le_of_ble_eq_true rfl) (rok rfl) rfl rfl (fun r13 h13 q13 => ?_)
  rcases q13 with ⟨c11, rfl, rfl⟩ | ⟨c12, rfl, rfl⟩
  · refine aw_if_eq (tgt := 18) (pc' := 8) dX12_ill_5 (by decide) rfl (fun _ => ?_) (fun c => absurd (by decide) c)
    refine aw_iconst (v := (-1)) (pc' := 19) dX12_ill_18 rfl (by decide) ?_
    exact aw_ri dX12_ill_19 rfl rfl (Nat.le_of_ble_eq_true rfl) (Nat.le_of_ble_eq_true rfl) (by first | (simp [sp_ill, cnd, okC, okS, okW_iff, okN_iff, inR, c11]; done) | (simp_all [sp_ill, cnd, okC, okS, okW_iff, okN_iff, inR]; done) | skip)
  · refine aw_if_eq (tgt := 18) (pc' := 8) dX12_ill_5 (by decide) rfl (fun _ => ?_) (fun c => absurd (by decide) c)
    refine aw_iconst (v := (-1)) (pc' := 19) dX12_ill_18 rfl (by decide) ?_
    exact aw_ri dX12_ill_19 rfl rfl (Nat.le_of_ble_eq_true rfl) (Nat.le_of_ble_eq_true rfl) (by first | (simp [sp_ill, cnd, okC, okS, okW_iff, okN_iff, inR, c12]; done) | (simp_all [sp_ill, cnd, okC, okS, okW_iff, okN_iff, inR]; done) | skip)
set_option maxRecDepth 4000 in
theorem m_speed (h : List aE) (hm : Fm 0 h) (m : Int32) (v : Int32) : AM mX12_speed 2 [.ref 67, .int m, .int v] h 0 0 (PI fun r h' => r = sp_speed m v) := by
  refine am_of (lv := [some (.ref 67), some (.int m), some (.int v), none]) rfl (Nat.le_of_ble_eq_true rfl) rfl ?_
  refine aw_iload_n (pc' := 1) dX12_speed_0 rfl rfl ?_
  have cc1 : AM mX12_isMachine 1 [.int m] h 0 0 (PI fun r h' => (m < 0 ∧ 0 = r ∧ h = h') ∨ (¬ (m < 0) ∧ 2 < m ∧ 0 = r ∧ h = h') ∨ (¬ (m < 0) ∧ ¬ (2 < m) ∧ 1 = r ∧ h = h')) := by
    refine am_of (lv := [some (.int m)]) rfl (Nat.le_of_ble_eq_true rfl) rfl ?_
    refine aw_iload_n (pc' := 1) dX12_isMachine_0 rfl rfl ?_
    refine aw_iconst (v := 0) (pc' := 2) dX12_isMachine_1 rfl (by decide) ?_
    refine aw_iconst (v := 2) (pc' := 3) dX12_isMachine_2 rfl (by decide) ?_
    have cc2 : AM mX12_in 0 [.int m, .int 0, .int 2] h 0 0 (PI fun r h' => (m < 0 ∧ 0 = r ∧ h = h') ∨ (¬ (m < 0) ∧ 2 < m ∧ 0 = r ∧ h = h') ∨ (¬ (m < 0) ∧ ¬ (2 < m) ∧ 1 = r ∧ h = h')) := by
      refine am_of (lv := [some (.int m), some (.int 0), some (.int 2)]) rfl (Nat.le_of_ble_eq_true rfl) rfl ?_
      refine aw_iload_n (pc' := 1) dX12_in_0 rfl rfl ?_
      refine aw_iload_n (pc' := 2) dX12_in_1 rfl rfl ?_
      refine aw_clt (tgt := 14) (pc' := 5) dX12_in_2 (by decide) rfl (fun c3 => ?_) (fun c3 => ?_)
      · refine aw_iconst (v := 0) (pc' := 15) dX12_in_14 rfl (by decide) ?_
        exact aw_ri dX12_in_15 rfl (by decide) (Nat.le_of_ble_eq_true rfl) (Nat.le_of_ble_eq_true rfl) (Or.inl ⟨c3, rfl, rfl⟩)
      · refine aw_iload_n (pc' := 6) dX12_in_5 rfl rfl ?_
        refine aw_iload_n (pc' := 7) dX12_in_6 rfl rfl ?_
        refine aw_cgt (tgt := 14) (pc' := 10) dX12_in_7 (by decide) rfl (fun c4 => ?_) (fun c4 => ?_)
        · refine aw_iconst (v := 0) (pc' := 15) dX12_in_14 rfl (by decide) ?_
          exact aw_ri dX12_in_15 rfl (by decide) (Nat.le_of_ble_eq_true rfl) (Nat.le_of_ble_eq_true rfl) (Or.inr (Or.inl ⟨c3, c4, rfl, rfl⟩))
        · refine aw_iconst (v := 1) (pc' := 11) dX12_in_10 rfl (by decide) ?_
          refine aw_goto (tgt := 15) dX12_in_11 (by decide) ?_
          exact aw_ri dX12_in_15 rfl (by decide) (Nat.le_of_ble_eq_true rfl) (Nat.le_of_ble_eq_true rfl) (Or.inr (Or.inr ⟨c3, c4, rfl, rfl⟩))
    refine aw_callSi (M' := mX12_in) (nc' := 0) (ns' := 0) (pc' := 6) dX12_isMachine_3 rfl ml_RX12_230 kX12_in cc2 rfl rfl (Nat.le_of_ble_eq_true rfl) (rok rfl) rfl rfl (fun r10 h10 q10 => ?_)
    rcases q10 with ⟨c5, rfl, rfl⟩ | ⟨c6, c7, rfl, rfl⟩ | ⟨c8, c9, rfl, rfl⟩
    · exact aw_ri dX12_isMachine_6 rfl (by decide) (Nat.le_of_ble_eq_true rfl) (Nat.le_of_ble_eq_true rfl) (Or.inl ⟨c5, rfl, rfl⟩)
    · exact aw_ri dX12_isMachine_6 rfl (by decide) (Nat.le_of_ble_eq_true rfl) (Nat.le_of_ble_eq_true rfl) (Or.inr (Or.inl ⟨c6, c7, rfl, rfl⟩))
    · exact aw_ri dX12_isMachine_6 rfl (by decide) (Nat.le_of_ble_eq_true rfl) (Nat.le_of_ble_eq_true rfl) (Or.inr (Or.inr ⟨c8, c9, rfl, rfl⟩))
  refine aw_callSi (M' := mX12_isMachine) (nc' := 0) (ns' := 0) (pc' := 4) dX12_speed_1 rfl ml_RX12_278 kX12_isMachine cc1 rfl rfl (Nat.le_of_ble_eq_true rfl) (rok rfl) rfl rfl (fun r16 h16 q16 => ?_)
  rcases q16 with ⟨c11, rfl, rfl⟩ | ⟨c12, c13, rfl, rfl⟩ | ⟨c14, c15, rfl, rfl⟩
  · refine aw_if_eq (tgt := 18) (pc' := 7) dX12_speed_4 (by decide) rfl (fun _ => ?_) (fun c => absurd (by decide) c)
    refine aw_iconst (v := (-1)) (pc' := 19) dX12_speed_18 rfl (by decide) ?_
    exact aw_ri dX12_speed_19 rfl rfl (Nat.le_of_ble_eq_true rfl) (Nat.le_of_ble_eq_true rfl) (by first | (simp [sp_speed, cnd, okC, okS, okW_iff, okN_iff, inR, c11]; done) | (simp_all [sp_speed, cnd, okC, okS, okW_iff, okN_iff, inR]; done) | skip)
  · refine aw_if_eq (tgt := 18) (pc' := 7) dX12_speed_4 (by decide) rfl (fun _ => ?_) (fun c => absurd (by decide) c)
    refine aw_iconst (v := (-1)) (pc' := 19) dX12_speed_18 rfl (by decide) ?_
    exact aw_ri dX12_speed_19 rfl rfl (Nat.le_of_ble_eq_true rfl) (Nat.le_of_ble_eq_true rfl) (by first | (simp [sp_speed, cnd, okC, okS, okW_iff, okN_iff, inR, c12, c13]; done) | (simp_all [sp_speed, cnd, okC, okS, okW_iff, okN_iff, inR]; done) | skip)
  · refine aw_if_eq (tgt := 18) (pc' := 7) dX12_speed_4 (by decide) rfl (fun c => absurd c (by decide)) (fun _ => ?_)
    refine aw_iload_n (pc' := 8) dX12_speed_7 rfl rfl ?_
    refine aw_bipush (v := 10) (pc' := 10) dX12_speed_8 rfl (by decide) ?_
    refine aw_bipush (v := 60) (pc' := 12) dX12_speed_10 rfl (by decide) ?_
    have cc17 : AM mX12_in 0 [.int v, .int 10, .int 60] h 0 0 (PI fun r h' => (v < 10 ∧ 0 = r ∧ h = h') ∨ (¬ (v < 10) ∧ 60 < v ∧ 0 = r ∧ h = h') ∨ (¬ (v < 10) ∧ ¬ (60 < v) ∧ 1 = r ∧ h = h')) := by
      refine am_of (lv := [some (.int v), some (.int 10), some (.int 60)]) rfl (Nat.le_of_ble_eq_true rfl) rfl ?_
      refine aw_iload_n (pc' := 1) dX12_in_0 rfl rfl ?_
      refine aw_iload_n (pc' := 2) dX12_in_1 rfl rfl ?_
      refine aw_clt (tgt := 14) (pc' := 5) dX12_in_2 (by decide) rfl (fun c18 => ?_) (fun c18 => ?_)
      · refine aw_iconst (v := 0) (pc' := 15) dX12_in_14 rfl (by decide) ?_
        exact aw_ri dX12_in_15 rfl (by decide) (Nat.le_of_ble_eq_true rfl) (Nat.le_of_ble_eq_true rfl) (Or.inl ⟨c18, rfl, rfl⟩)
      · refine aw_iload_n (pc' := 6) dX12_in_5 rfl rfl ?_
        refine aw_iload_n (pc' := 7) dX12_in_6 rfl rfl ?_
        refine aw_cgt (tgt := 14) (pc' := 10) dX12_in_7 (by decide) rfl (fun c19 => ?_) (fun c19 => ?_)
        · refine aw_iconst (v := 0) (pc' := 15) dX12_in_14 rfl (by decide) ?_
          exact aw_ri dX12_in_15 rfl (by decide) (Nat.le_of_ble_eq_true rfl) (Nat.le_of_ble_eq_true rfl) (Or.inr (Or.inl ⟨c18, c19, rfl, rfl⟩))
        · refine aw_iconst (v := 1) (pc' := 11) dX12_in_10 rfl (by decide) ?_
          refine aw_goto (tgt := 15) dX12_in_11 (by decide) ?_
          exact aw_ri dX12_in_15 rfl (by decide) (Nat.le_of_ble_eq_true rfl) (Nat.le_of_ble_eq_true rfl) (Or.inr (Or.inr ⟨c18, c19, rfl, rfl⟩))
    refine aw_callSi (M' := mX12_in) (nc' := 0) (ns' := 0) (pc' := 15) dX12_speed_12 rfl ml_RX12_230 kX12_in cc17 rfl rfl (Nat.le_of_ble_eq_true rfl) (rok rfl) rfl rfl (fun r25 h25 q25 => ?_)
    rcases q25 with ⟨c20, rfl, rfl⟩ | ⟨c21, c22, rfl, rfl⟩ | ⟨c23, c24, rfl, rfl⟩
    · refine aw_if_ne (tgt := 20) (pc' := 18) dX12_speed_15 (by decide) rfl (fun c => absurd (by decide) c) (fun _ => ?_)
      refine aw_iconst (v := (-1)) (pc' := 19) dX12_speed_18 rfl (by decide) ?_
      exact aw_ri dX12_speed_19 rfl rfl (Nat.le_of_ble_eq_true rfl) (Nat.le_of_ble_eq_true rfl) (by first | (simp [sp_speed, cnd, okC, okS, okW_iff, okN_iff, inR, c14, c15, c20]; done) | (simp_all [sp_speed, cnd, okC, okS, okW_iff, okN_iff, inR]; done) | skip)
    · refine aw_if_ne (tgt := 20) (pc' := 18) dX12_speed_15 (by decide) rfl (fun c => absurd (by decide) c) (fun _ => ?_)
      refine aw_iconst (v := (-1)) (pc' := 19) dX12_speed_18 rfl (by decide) ?_
      exact aw_ri dX12_speed_19 rfl rfl (Nat.le_of_ble_eq_true rfl) (Nat.le_of_ble_eq_true rfl) (by first | (simp [sp_speed, cnd, okC, okS, okW_iff, okN_iff, inR, c14, c15, c21, c22]; done) | (simp_all [sp_speed, cnd, okC, okS, okW_iff, okN_iff, inR]; done) | skip)
    · refine aw_if_ne (tgt := 20) (pc' := 18) dX12_speed_15 (by decide) rfl (fun _ => ?_) (fun c => absurd c (by decide))
      refine aw_aload_n (pc' := 21) dX12_speed_20 rfl rfl rfl ?_
      refine aw_get clsAll (pc' := 24) dX12_speed_21 rfl fl_RX12_69 hm.1 rfl ?_
      refine aw_iload_n (pc' := 25) dX12_speed_24 rfl rfl ?_
      refine aw_iald (v := 20) (pc' := 26) dX12_speed_25 rfl ((hm.2 78 (by decide) (by decide)).trans h0_78) (ix_ (hi := 2) (b := 2) rfl (by decide) c14 c15) rfl ?_
      refine aw_istore_n (lv' := [_, _, _, _]) (pc' := 27) dX12_speed_26 rfl (Nat.le_of_ble_eq_true rfl) rfl ?_
      refine aw_aload_n (pc' := 28) dX12_speed_27 rfl rfl rfl ?_
      refine aw_get clsAll (pc' := 31) dX12_speed_28 rfl fl_RX12_69 hm.1 rfl ?_
      refine aw_iload_n (pc' := 32) dX12_speed_31 rfl rfl ?_
      refine aw_iload_n (pc' := 33) dX12_speed_32 rfl rfl ?_
      refine aw_iastG (pc' := 34) dX12_speed_33 rfl ((hm.2 78 (by decide) (by decide)).trans h0_78) (ix_ (hi := 2) (b := 2) rfl (by decide) c14 c15) (fun h26 e26 => ?_)
      refine aw_iload_n (pc' := 35) dX12_speed_34 rfl rfl ?_
      exact aw_ri dX12_speed_35 rfl rfl (Nat.le_of_ble_eq_true rfl) (Nat.le_of_ble_eq_true rfl) (by first | (simp [sp_speed, cnd, okC, okS, okW_iff, okN_iff, inR, c14, c15, c23, c24]; done) | (simp_all [sp_speed, cnd, okC, okS, okW_iff, okN_iff, inR]; done) | skip)
set_option maxRecDepth 4000 in
theorem m_set (h : List aE) (hm : Fm 0 h) (m : Int32) (x : Int32) : AM mX12_set 3 [.ref 67, .int m, .int x] h 0 0 (PI fun r h' => r = sp_set m x) := by
  refine am_of (lv := [some (.ref 67), some (.int m), some (.int x), none]) rfl (Nat.le_of_ble_eq_true rfl) rfl ?_
  refine aw_iload_n (pc' := 1) dX12_set_0 rfl rfl ?_
  have cc1 : AM mX12_isMachine 1 [.int m] h 0 0 (PI fun r h' => (m < 0 ∧ 0 = r ∧ h = h') ∨ (¬ (m < 0) ∧ 2 < m ∧ 0 = r ∧ h = h') ∨ (¬ (m < 0) ∧ ¬ (2 < m) ∧ 1 = r ∧ h = h')) := by
    refine am_of (lv := [some (.int m)]) rfl (Nat.le_of_ble_eq_true rfl) rfl ?_
    refine aw_iload_n (pc' := 1) dX12_isMachine_0 rfl rfl ?_
    refine aw_iconst (v := 0) (pc' := 2) dX12_isMachine_1 rfl (by decide) ?_
    refine aw_iconst (v := 2) (pc' := 3) dX12_isMachine_2 rfl (by decide) ?_
    have cc2 : AM mX12_in 0 [.int m, .int 0, .int 2] h 0 0 (PI fun r h' => (m < 0 ∧ 0 = r ∧ h = h') ∨ (¬ (m < 0) ∧ 2 < m ∧ 0 = r ∧ h = h') ∨ (¬ (m < 0) ∧ ¬ (2 < m) ∧ 1 = r ∧ h = h')) := by
      refine am_of (lv := [some (.int m), some (.int 0), some (.int 2)]) rfl (Nat.le_of_ble_eq_true rfl) rfl ?_
      refine aw_iload_n (pc' := 1) dX12_in_0 rfl rfl ?_
      refine aw_iload_n (pc' := 2) dX12_in_1 rfl rfl ?_
      refine aw_clt (tgt := 14) (pc' := 5) dX12_in_2 (by decide) rfl (fun c3 => ?_) (fun c3 => ?_)
      · refine aw_iconst (v := 0) (pc' := 15) dX12_in_14 rfl (by decide) ?_
        exact aw_ri dX12_in_15 rfl (by decide) (Nat.le_of_ble_eq_true rfl) (Nat.le_of_ble_eq_true rfl) (Or.inl ⟨c3, rfl, rfl⟩)
      · refine aw_iload_n (pc' := 6) dX12_in_5 rfl rfl ?_
        refine aw_iload_n (pc' := 7) dX12_in_6 rfl rfl ?_
        refine aw_cgt (tgt := 14) (pc' := 10) dX12_in_7 (by decide) rfl (fun c4 => ?_) (fun c4 => ?_)
        · refine aw_iconst (v := 0) (pc' := 15) dX12_in_14 rfl (by decide) ?_
          exact aw_ri dX12_in_15 rfl (by decide) (Nat.le_of_ble_eq_true rfl) (Nat.le_of_ble_eq_true rfl) (Or.inr (Or.inl ⟨c3, c4, rfl, rfl⟩))
        · refine aw_iconst (v := 1) (pc' := 11) dX12_in_10 rfl (by decide) ?_
          refine aw_goto (tgt := 15) dX12_in_11 (by decide) ?_
          exact aw_ri dX12_in_15 rfl (by decide) (Nat.le_of_ble_eq_true rfl) (Nat.le_of_ble_eq_true rfl) (Or.inr (Or.inr ⟨c3, c4, rfl, rfl⟩))
    refine aw_callSi (M' := mX12_in) (nc' := 0) (ns' := 0) (pc' := 6) dX12_isMachine_3 rfl ml_RX12_230 kX12_in cc2 rfl rfl (Nat.le_of_ble_eq_true rfl) (rok rfl) rfl rfl (fun r10 h10 q10 => ?_)
    rcases q10 with ⟨c5, rfl, rfl⟩ | ⟨c6, c7, rfl, rfl⟩ | ⟨c8, c9, rfl, rfl⟩
    · exact aw_ri dX12_isMachine_6 rfl (by decide) (Nat.le_of_ble_eq_true rfl) (Nat.le_of_ble_eq_true rfl) (Or.inl ⟨c5, rfl, rfl⟩)
    · exact aw_ri dX12_isMachine_6 rfl (by decide) (Nat.le_of_ble_eq_true rfl) (Nat.le_of_ble_eq_true rfl) (Or.inr (Or.inl ⟨c6, c7, rfl, rfl⟩))
    · exact aw_ri dX12_isMachine_6 rfl (by decide) (Nat.le_of_ble_eq_true rfl) (Nat.le_of_ble_eq_true rfl) (Or.inr (Or.inr ⟨c8, c9, rfl, rfl⟩))
  refine aw_callSi (M' := mX12_isMachine) (nc' := 0) (ns' := 0) (pc' := 4) dX12_set_1 rfl ml_RX12_278 kX12_isMachine cc1 rfl rfl (Nat.le_of_ble_eq_true rfl) (rok rfl) rfl rfl (fun r16 h16 q16 => ?_)
  rcases q16 with ⟨c11, rfl, rfl⟩ | ⟨c12, c13, rfl, rfl⟩ | ⟨c14, c15, rfl, rfl⟩
  · refine aw_if_eq (tgt := 20) (pc' := 7) dX12_set_4 (by decide) rfl (fun _ => ?_) (fun c => absurd (by decide) c)
    refine aw_ldcw (pc' := 23) dX12_set_20 rfl ct_RX12_267 ?_
    exact aw_ri dX12_set_23 rfl rfl (Nat.le_of_ble_eq_true rfl) (Nat.le_of_ble_eq_true rfl) (by first | (simp [sp_set, cnd, okC, okS, okW_iff, okN_iff, inR, c11]; done) | (simp_all [sp_set, cnd, okC, okS, okW_iff, okN_iff, inR]; done) | skip)
  · refine aw_if_eq (tgt := 20) (pc' := 7) dX12_set_4 (by decide) rfl (fun _ => ?_) (fun c => absurd (by decide) c)
    refine aw_ldcw (pc' := 23) dX12_set_20 rfl ct_RX12_267 ?_
    exact aw_ri dX12_set_23 rfl rfl (Nat.le_of_ble_eq_true rfl) (Nat.le_of_ble_eq_true rfl) (by first | (simp [sp_set, cnd, okC, okS, okW_iff, okN_iff, inR, c12, c13]; done) | (simp_all [sp_set, cnd, okC, okS, okW_iff, okN_iff, inR]; done) | skip)
  · refine aw_if_eq (tgt := 20) (pc' := 7) dX12_set_4 (by decide) rfl (fun c => absurd c (by decide)) (fun _ => ?_)
    refine aw_iload_n (pc' := 8) dX12_set_7 rfl rfl ?_
    refine aw_iconst (v := (-1)) (pc' := 9) dX12_set_8 rfl (by decide) ?_
    refine aw_icmp_eq (tgt := 24) (pc' := 12) dX12_set_9 (by decide) rfl (fun c17 => ?_) (fun c17 => ?_)
    · refine aw_iconst (v := 0) (pc' := 25) dX12_set_24 rfl (by decide) ?_
      refine aw_istore_n (lv' := [_, _, _, _]) (pc' := 26) dX12_set_25 rfl (Nat.le_of_ble_eq_true rfl) rfl ?_
      refine aw_iload_n (pc' := 27) dX12_set_26 rfl rfl ?_
      refine aw_iconst (v := 3) (pc' := 28) dX12_set_27 rfl (by decide) ?_
      refine aw_cge (tgt := 60) (pc' := 31) dX12_set_28 (by decide) rfl (fun c => absurd (by decide) c) (fun _ => ?_)
      refine aw_iload_n (pc' := 32) dX12_set_31 rfl rfl ?_
      refine aw_iload_n (pc' := 33) dX12_set_32 rfl rfl ?_
      refine aw_icmp_eq (tgt := 54) (pc' := 36) dX12_set_33 (by decide) rfl (fun c18 => ?_) (fun c18 => ?_)
      · refine aw_iinc (lv' := [_, _, _, _]) (pc' := 57) dX12_set_54 rfl rfl (Nat.le_of_ble_eq_true rfl) rfl ?_
        refine aw_goto (tgt := 26) dX12_set_57 (by decide) ?_
        refine aw_iload_n (pc' := 27) dX12_set_26 rfl rfl ?_
        refine aw_iconst (v := 3) (pc' := 28) dX12_set_27 rfl (by decide) ?_
        refine aw_cge (tgt := 60) (pc' := 31) dX12_set_28 (by decide) rfl (fun c => absurd (by decide) c) (fun _ => ?_)
        refine aw_iload_n (pc' := 32) dX12_set_31 rfl rfl ?_
        refine aw_iload_n (pc' := 33) dX12_set_32 rfl rfl ?_
        refine aw_icmp_eq (tgt := 54) (pc' := 36) dX12_set_33 (by decide) rfl (fun c19 => ?_) (fun c19 => ?_)
        · refine aw_iinc (lv' := [_, _, _, _]) (pc' := 57) dX12_set_54 rfl rfl (Nat.le_of_ble_eq_true rfl) rfl ?_
          refine aw_goto (tgt := 26) dX12_set_57 (by decide) ?_
          refine aw_iload_n (pc' := 27) dX12_set_26 rfl rfl ?_
          refine aw_iconst (v := 3) (pc' := 28) dX12_set_27 rfl (by decide) ?_
          refine aw_cge (tgt := 60) (pc' := 31) dX12_set_28 (by decide) rfl (fun c => absurd (by decide) c) (fun _ => ?_)
          refine aw_iload_n (pc' := 32) dX12_set_31 rfl rfl ?_
          refine aw_iload_n (pc' := 33) dX12_set_32 rfl rfl ?_
          refine aw_icmp_eq (tgt := 54) (pc' := 36) dX12_set_33 (by decide) rfl (fun c20 => ?_) (fun c20 => ?_)
          · refine aw_iinc (lv' := [_, _, _, _]) (pc' := 57) dX12_set_54 rfl rfl (Nat.le_of_ble_eq_true rfl) rfl ?_
            refine aw_goto (tgt := 26) dX12_set_57 (by decide) ?_
            refine aw_iload_n (pc' := 27) dX12_set_26 rfl rfl ?_
            refine aw_iconst (v := 3) (pc' := 28) dX12_set_27 rfl (by decide) ?_
            refine aw_cge (tgt := 60) (pc' := 31) dX12_set_28 (by decide) rfl (fun _ => ?_) (fun c => absurd c (by decide))
            refine aw_aload_n (pc' := 61) dX12_set_60 rfl rfl rfl ?_
            refine aw_get clsAll (pc' := 64) dX12_set_61 rfl fl_RX12_72 hm.1 rfl ?_
            refine aw_iload_n (pc' := 65) dX12_set_64 rfl rfl ?_
            refine aw_iald (v := (-1)) (pc' := 66) dX12_set_65 rfl ((hm.2 79 (by decide) (by decide)).trans h0_79) (ix_ (hi := 2) (b := 2) rfl (by decide) c14 c15) rfl ?_
            refine aw_istore_n (lv' := [_, _, _, _]) (pc' := 67) dX12_set_66 rfl (Nat.le_of_ble_eq_true rfl) rfl ?_
            refine aw_aload_n (pc' := 68) dX12_set_67 rfl rfl rfl ?_
            refine aw_get clsAll (pc' := 71) dX12_set_68 rfl fl_RX12_72 hm.1 rfl ?_
            refine aw_iload_n (pc' := 72) dX12_set_71 rfl rfl ?_
            refine aw_iload_n (pc' := 73) dX12_set_72 rfl rfl ?_
            refine aw_iastG (pc' := 74) dX12_set_73 rfl ((hm.2 79 (by decide) (by decide)).trans h0_79) (ix_ (hi := 2) (b := 2) rfl (by decide) c14 c15) (fun h21 e21 => ?_)
            refine aw_iload_n (pc' := 75) dX12_set_74 rfl rfl ?_
            exact aw_ri dX12_set_75 rfl rfl (Nat.le_of_ble_eq_true rfl) (Nat.le_of_ble_eq_true rfl) (by first | (simp [sp_set, cnd, okC, okS, okW_iff, okN_iff, inR, c14, c15, c17, ← c18, ← c19, c20]; done) | (simp_all [sp_set, cnd, okC, okS, okW_iff, okN_iff, inR]; done) | skip)
          · refine aw_iload_n (pc' := 37) dX12_set_36 rfl rfl ?_
            refine aw_zlt (tgt := 54) (pc' := 40) dX12_set_37 (by decide) rfl (fun _ => ?_) (fun c => absurd (by rw [c17]; decide) c)
            refine aw_iinc (lv' := [_, _, _, _]) (pc' := 57) dX12_set_54 rfl rfl (Nat.le_of_ble_eq_true rfl) rfl ?_
            refine aw_goto (tgt := 26) dX12_set_57 (by decide) ?_
            refine aw_iload_n (pc' := 27) dX12_set_26 rfl rfl ?_
            refine aw_iconst (v := 3) (pc' := 28) dX12_set_27 rfl (by decide) ?_
            refine aw_cge (tgt := 60) (pc' := 31) dX12_set_28 (by decide) rfl (fun _ => ?_) (fun c => absurd c (by decide))
            refine aw_aload_n (pc' := 61) dX12_set_60 rfl rfl rfl ?_
            refine aw_get clsAll (pc' := 64) dX12_set_61 rfl fl_RX12_72 hm.1 rfl ?_
            refine aw_iload_n (pc' := 65) dX12_set_64 rfl rfl ?_
            refine aw_iald (v := (-1)) (pc' := 66) dX12_set_65 rfl ((hm.2 79 (by decide) (by decide)).trans h0_79) (ix_ (hi := 2) (b := 2) rfl (by decide) c14 c15) rfl ?_
            refine aw_istore_n (lv' := [_, _, _, _]) (pc' := 67) dX12_set_66 rfl (Nat.le_of_ble_eq_true rfl) rfl ?_
            refine aw_aload_n (pc' := 68) dX12_set_67 rfl rfl rfl ?_
            refine aw_get clsAll (pc' := 71) dX12_set_68 rfl fl_RX12_72 hm.1 rfl ?_
            refine aw_iload_n (pc' := 72) dX12_set_71 rfl rfl ?_
            refine aw_iload_n (pc' := 73) dX12_set_72 rfl rfl ?_
            refine aw_iastG (pc' := 74) dX12_set_73 rfl ((hm.2 79 (by decide) (by decide)).trans h0_79) (ix_ (hi := 2) (b := 2) rfl (by decide) c14 c15) (fun h22 e22 => ?_)
            refine aw_iload_n (pc' := 75) dX12_set_74 rfl rfl ?_
            exact aw_ri dX12_set_75 rfl rfl (Nat.le_of_ble_eq_true rfl) (Nat.le_of_ble_eq_true rfl) (by first | (simp [sp_set, cnd, okC, okS, okW_iff, okN_iff, inR, c14, c15, c17, ← c18, ← c19, c20]; done) | (simp_all [sp_set, cnd, okC, okS, okW_iff, okN_iff, inR]; done) | skip)
        · refine aw_iload_n (pc' := 37) dX12_set_36 rfl rfl ?_
          refine aw_zlt (tgt := 54) (pc' := 40) dX12_set_37 (by decide) rfl (fun _ => ?_) (fun c => absurd (by rw [c17]; decide) c)
          refine aw_iinc (lv' := [_, _, _, _]) (pc' := 57) dX12_set_54 rfl rfl (Nat.le_of_ble_eq_true rfl) rfl ?_
          refine aw_goto (tgt := 26) dX12_set_57 (by decide) ?_
          refine aw_iload_n (pc' := 27) dX12_set_26 rfl rfl ?_
          refine aw_iconst (v := 3) (pc' := 28) dX12_set_27 rfl (by decide) ?_
          refine aw_cge (tgt := 60) (pc' := 31) dX12_set_28 (by decide) rfl (fun c => absurd (by decide) c) (fun _ => ?_)
          refine aw_iload_n (pc' := 32) dX12_set_31 rfl rfl ?_
          refine aw_iload_n (pc' := 33) dX12_set_32 rfl rfl ?_
          refine aw_icmp_eq (tgt := 54) (pc' := 36) dX12_set_33 (by decide) rfl (fun c23 => ?_) (fun c23 => ?_)
          · refine aw_iinc (lv' := [_, _, _, _]) (pc' := 57) dX12_set_54 rfl rfl (Nat.le_of_ble_eq_true rfl) rfl ?_
            refine aw_goto (tgt := 26) dX12_set_57 (by decide) ?_
            refine aw_iload_n (pc' := 27) dX12_set_26 rfl rfl ?_
            refine aw_iconst (v := 3) (pc' := 28) dX12_set_27 rfl (by decide) ?_
            refine aw_cge (tgt := 60) (pc' := 31) dX12_set_28 (by decide) rfl (fun _ => ?_) (fun c => absurd c (by decide))
            refine aw_aload_n (pc' := 61) dX12_set_60 rfl rfl rfl ?_
            refine aw_get clsAll (pc' := 64) dX12_set_61 rfl fl_RX12_72 hm.1 rfl ?_
            refine aw_iload_n (pc' := 65) dX12_set_64 rfl rfl ?_
            refine aw_iald (v := (-1)) (pc' := 66) dX12_set_65 rfl ((hm.2 79 (by decide) (by decide)).trans h0_79) (ix_ (hi := 2) (b := 2) rfl (by decide) c14 c15) rfl ?_
            refine aw_istore_n (lv' := [_, _, _, _]) (pc' := 67) dX12_set_66 rfl (Nat.le_of_ble_eq_true rfl) rfl ?_
            refine aw_aload_n (pc' := 68) dX12_set_67 rfl rfl rfl ?_
            refine aw_get clsAll (pc' := 71) dX12_set_68 rfl fl_RX12_72 hm.1 rfl ?_
            refine aw_iload_n (pc' := 72) dX12_set_71 rfl rfl ?_
            refine aw_iload_n (pc' := 73) dX12_set_72 rfl rfl ?_
            refine aw_iastG (pc' := 74) dX12_set_73 rfl ((hm.2 79 (by decide) (by decide)).trans h0_79) (ix_ (hi := 2) (b := 2) rfl (by decide) c14 c15) (fun h24 e24 => ?_)
            refine aw_iload_n (pc' := 75) dX12_set_74 rfl rfl ?_
            exact aw_ri dX12_set_75 rfl rfl (Nat.le_of_ble_eq_true rfl) (Nat.le_of_ble_eq_true rfl) (by first | (simp [sp_set, cnd, okC, okS, okW_iff, okN_iff, inR, c14, c15, c17, ← c18, c19, c23]; done) | (simp_all [sp_set, cnd, okC, okS, okW_iff, okN_iff, inR]; done) | skip)
          · refine aw_iload_n (pc' := 37) dX12_set_36 rfl rfl ?_
            refine aw_zlt (tgt := 54) (pc' := 40) dX12_set_37 (by decide) rfl (fun _ => ?_) (fun c => absurd (by rw [c17]; decide) c)
            refine aw_iinc (lv' := [_, _, _, _]) (pc' := 57) dX12_set_54 rfl rfl (Nat.le_of_ble_eq_true rfl) rfl ?_
            refine aw_goto (tgt := 26) dX12_set_57 (by decide) ?_
            refine aw_iload_n (pc' := 27) dX12_set_26 rfl rfl ?_
            refine aw_iconst (v := 3) (pc' := 28) dX12_set_27 rfl (by decide) ?_
            refine aw_cge (tgt := 60) (pc' := 31) dX12_set_28 (by decide) rfl (fun _ => ?_) (fun c => absurd c (by decide))
            refine aw_aload_n (pc' := 61) dX12_set_60 rfl rfl rfl ?_
            refine aw_get clsAll (pc' := 64) dX12_set_61 rfl fl_RX12_72 hm.1 rfl ?_
            refine aw_iload_n (pc' := 65) dX12_set_64 rfl rfl ?_
            refine aw_iald (v := (-1)) (pc' := 66) dX12_set_65 rfl ((hm.2 79 (by decide) (by decide)).trans h0_79) (ix_ (hi := 2) (b := 2) rfl (by decide) c14 c15) rfl ?_
            refine aw_istore_n (lv' := [_, _, _, _]) (pc' := 67) dX12_set_66 rfl (Nat.le_of_ble_eq_true rfl) rfl ?_
            refine aw_aload_n (pc' := 68) dX12_set_67 rfl rfl rfl ?_
            refine aw_get clsAll (pc' := 71) dX12_set_68 rfl fl_RX12_72 hm.1 rfl ?_
            refine aw_iload_n (pc' := 72) dX12_set_71 rfl rfl ?_
            refine aw_iload_n (pc' := 73) dX12_set_72 rfl rfl ?_
            refine aw_iastG (pc' := 74) dX12_set_73 rfl ((hm.2 79 (by decide) (by decide)).trans h0_79) (ix_ (hi := 2) (b := 2) rfl (by decide) c14 c15) (fun h25 e25 => ?_)
            refine aw_iload_n (pc' := 75) dX12_set_74 rfl rfl ?_
            exact aw_ri dX12_set_75 rfl rfl (Nat.le_of_ble_eq_true rfl) (Nat.le_of_ble_eq_true rfl) (by first | (simp [sp_set, cnd, okC, okS, okW_iff, okN_iff, inR, c14, c15, c17, ← c18, c19, c23]; done) | (simp_all [sp_set, cnd, okC, okS, okW_iff, okN_iff, inR]; done) | skip)
      · refine aw_iload_n (pc' := 37) dX12_set_36 rfl rfl ?_
        refine aw_zlt (tgt := 54) (pc' := 40) dX12_set_37 (by decide) rfl (fun _ => ?_) (fun c => absurd (by rw [c17]; decide) c)
        refine aw_iinc (lv' := [_, _, _, _]) (pc' := 57) dX12_set_54 rfl rfl (Nat.le_of_ble_eq_true rfl) rfl ?_
        refine aw_goto (tgt := 26) dX12_set_57 (by decide) ?_
        refine aw_iload_n (pc' := 27) dX12_set_26 rfl rfl ?_
        refine aw_iconst (v := 3) (pc' := 28) dX12_set_27 rfl (by decide) ?_
        refine aw_cge (tgt := 60) (pc' := 31) dX12_set_28 (by decide) rfl (fun c => absurd (by decide) c) (fun _ => ?_)
        refine aw_iload_n (pc' := 32) dX12_set_31 rfl rfl ?_
        refine aw_iload_n (pc' := 33) dX12_set_32 rfl rfl ?_
        refine aw_icmp_eq (tgt := 54) (pc' := 36) dX12_set_33 (by decide) rfl (fun c26 => ?_) (fun c26 => ?_)
        · refine aw_iinc (lv' := [_, _, _, _]) (pc' := 57) dX12_set_54 rfl rfl (Nat.le_of_ble_eq_true rfl) rfl ?_
          refine aw_goto (tgt := 26) dX12_set_57 (by decide) ?_
          refine aw_iload_n (pc' := 27) dX12_set_26 rfl rfl ?_
          refine aw_iconst (v := 3) (pc' := 28) dX12_set_27 rfl (by decide) ?_
          refine aw_cge (tgt := 60) (pc' := 31) dX12_set_28 (by decide) rfl (fun c => absurd (by decide) c) (fun _ => ?_)
          refine aw_iload_n (pc' := 32) dX12_set_31 rfl rfl ?_
          refine aw_iload_n (pc' := 33) dX12_set_32 rfl rfl ?_
          refine aw_icmp_eq (tgt := 54) (pc' := 36) dX12_set_33 (by decide) rfl (fun c27 => ?_) (fun c27 => ?_)
          · refine aw_iinc (lv' := [_, _, _, _]) (pc' := 57) dX12_set_54 rfl rfl (Nat.le_of_ble_eq_true rfl) rfl ?_
            refine aw_goto (tgt := 26) dX12_set_57 (by decide) ?_
            refine aw_iload_n (pc' := 27) dX12_set_26 rfl rfl ?_
            refine aw_iconst (v := 3) (pc' := 28) dX12_set_27 rfl (by decide) ?_
            refine aw_cge (tgt := 60) (pc' := 31) dX12_set_28 (by decide) rfl (fun _ => ?_) (fun c => absurd c (by decide))
            refine aw_aload_n (pc' := 61) dX12_set_60 rfl rfl rfl ?_
            refine aw_get clsAll (pc' := 64) dX12_set_61 rfl fl_RX12_72 hm.1 rfl ?_
            refine aw_iload_n (pc' := 65) dX12_set_64 rfl rfl ?_
            refine aw_iald (v := (-1)) (pc' := 66) dX12_set_65 rfl ((hm.2 79 (by decide) (by decide)).trans h0_79) (ix_ (hi := 2) (b := 2) rfl (by decide) c14 c15) rfl ?_
            refine aw_istore_n (lv' := [_, _, _, _]) (pc' := 67) dX12_set_66 rfl (Nat.le_of_ble_eq_true rfl) rfl ?_
            refine aw_aload_n (pc' := 68) dX12_set_67 rfl rfl rfl ?_
            refine aw_get clsAll (pc' := 71) dX12_set_68 rfl fl_RX12_72 hm.1 rfl ?_
            refine aw_iload_n (pc' := 72) dX12_set_71 rfl rfl ?_
            refine aw_iload_n (pc' := 73) dX12_set_72 rfl rfl ?_
            refine aw_iastG (pc' := 74) dX12_set_73 rfl ((hm.2 79 (by decide) (by decide)).trans h0_79) (ix_ (hi := 2) (b := 2) rfl (by decide) c14 c15) (fun h28 e28 => ?_)
            refine aw_iload_n (pc' := 75) dX12_set_74 rfl rfl ?_
            exact aw_ri dX12_set_75 rfl rfl (Nat.le_of_ble_eq_true rfl) (Nat.le_of_ble_eq_true rfl) (by first | (simp [sp_set, cnd, okC, okS, okW_iff, okN_iff, inR, c14, c15, c17, c18, ← c26, c27]; done) | (simp_all [sp_set, cnd, okC, okS, okW_iff, okN_iff, inR]; done) | skip)
          · refine aw_iload_n (pc' := 37) dX12_set_36 rfl rfl ?_
            refine aw_zlt (tgt := 54) (pc' := 40) dX12_set_37 (by decide) rfl (fun _ => ?_) (fun c => absurd (by rw [c17]; decide) c)
            refine aw_iinc (lv' := [_, _, _, _]) (pc' := 57) dX12_set_54 rfl rfl (Nat.le_of_ble_eq_true rfl) rfl ?_
            refine aw_goto (tgt := 26) dX12_set_57 (by decide) ?_
            refine aw_iload_n (pc' := 27) dX12_set_26 rfl rfl ?_
            refine aw_iconst (v := 3) (pc' := 28) dX12_set_27 rfl (by decide) ?_
            refine aw_cge (tgt := 60) (pc' := 31) dX12_set_28 (by decide) rfl (fun _ => ?_) (fun c => absurd c (by decide))
            refine aw_aload_n (pc' := 61) dX12_set_60 rfl rfl rfl ?_
            refine aw_get clsAll (pc' := 64) dX12_set_61 rfl fl_RX12_72 hm.1 rfl ?_
            refine aw_iload_n (pc' := 65) dX12_set_64 rfl rfl ?_
            refine aw_iald (v := (-1)) (pc' := 66) dX12_set_65 rfl ((hm.2 79 (by decide) (by decide)).trans h0_79) (ix_ (hi := 2) (b := 2) rfl (by decide) c14 c15) rfl ?_
            refine aw_istore_n (lv' := [_, _, _, _]) (pc' := 67) dX12_set_66 rfl (Nat.le_of_ble_eq_true rfl) rfl ?_
            refine aw_aload_n (pc' := 68) dX12_set_67 rfl rfl rfl ?_
            refine aw_get clsAll (pc' := 71) dX12_set_68 rfl fl_RX12_72 hm.1 rfl ?_
            refine aw_iload_n (pc' := 72) dX12_set_71 rfl rfl ?_
            refine aw_iload_n (pc' := 73) dX12_set_72 rfl rfl ?_
            refine aw_iastG (pc' := 74) dX12_set_73 rfl ((hm.2 79 (by decide) (by decide)).trans h0_79) (ix_ (hi := 2) (b := 2) rfl (by decide) c14 c15) (fun h29 e29 => ?_)
            refine aw_iload_n (pc' := 75) dX12_set_74 rfl rfl ?_
            exact aw_ri dX12_set_75 rfl rfl (Nat.le_of_ble_eq_true rfl) (Nat.le_of_ble_eq_true rfl) (by first | (simp [sp_set, cnd, okC, okS, okW_iff, okN_iff, inR, c14, c15, c17, c18, ← c26, c27]; done) | (simp_all [sp_set, cnd, okC, okS, okW_iff, okN_iff, inR]; done) | skip)
        · refine aw_iload_n (pc' := 37) dX12_set_36 rfl rfl ?_
          refine aw_zlt (tgt := 54) (pc' := 40) dX12_set_37 (by decide) rfl (fun _ => ?_) (fun c => absurd (by rw [c17]; decide) c)
          refine aw_iinc (lv' := [_, _, _, _]) (pc' := 57) dX12_set_54 rfl rfl (Nat.le_of_ble_eq_true rfl) rfl ?_
          refine aw_goto (tgt := 26) dX12_set_57 (by decide) ?_
          refine aw_iload_n (pc' := 27) dX12_set_26 rfl rfl ?_
          refine aw_iconst (v := 3) (pc' := 28) dX12_set_27 rfl (by decide) ?_
          refine aw_cge (tgt := 60) (pc' := 31) dX12_set_28 (by decide) rfl (fun c => absurd (by decide) c) (fun _ => ?_)
          refine aw_iload_n (pc' := 32) dX12_set_31 rfl rfl ?_
          refine aw_iload_n (pc' := 33) dX12_set_32 rfl rfl ?_
          refine aw_icmp_eq (tgt := 54) (pc' := 36) dX12_set_33 (by decide) rfl (fun c30 => ?_) (fun c30 => ?_)
          · refine aw_iinc (lv' := [_, _, _, _]) (pc' := 57) dX12_set_54 rfl rfl (Nat.le_of_ble_eq_true rfl) rfl ?_
            refine aw_goto (tgt := 26) dX12_set_57 (by decide) ?_
            refine aw_iload_n (pc' := 27) dX12_set_26 rfl rfl ?_
            refine aw_iconst (v := 3) (pc' := 28) dX12_set_27 rfl (by decide) ?_
            refine aw_cge (tgt := 60) (pc' := 31) dX12_set_28 (by decide) rfl (fun _ => ?_) (fun c => absurd c (by decide))
            refine aw_aload_n (pc' := 61) dX12_set_60 rfl rfl rfl ?_
            refine aw_get clsAll (pc' := 64) dX12_set_61 rfl fl_RX12_72 hm.1 rfl ?_
            refine aw_iload_n (pc' := 65) dX12_set_64 rfl rfl ?_
            refine aw_iald (v := (-1)) (pc' := 66) dX12_set_65 rfl ((hm.2 79 (by decide) (by decide)).trans h0_79) (ix_ (hi := 2) (b := 2) rfl (by decide) c14 c15) rfl ?_
            refine aw_istore_n (lv' := [_, _, _, _]) (pc' := 67) dX12_set_66 rfl (Nat.le_of_ble_eq_true rfl) rfl ?_
            refine aw_aload_n (pc' := 68) dX12_set_67 rfl rfl rfl ?_
            refine aw_get clsAll (pc' := 71) dX12_set_68 rfl fl_RX12_72 hm.1 rfl ?_
            refine aw_iload_n (pc' := 72) dX12_set_71 rfl rfl ?_
            refine aw_iload_n (pc' := 73) dX12_set_72 rfl rfl ?_
            refine aw_iastG (pc' := 74) dX12_set_73 rfl ((hm.2 79 (by decide) (by decide)).trans h0_79) (ix_ (hi := 2) (b := 2) rfl (by decide) c14 c15) (fun h31 e31 => ?_)
            refine aw_iload_n (pc' := 75) dX12_set_74 rfl rfl ?_
            exact aw_ri dX12_set_75 rfl rfl (Nat.le_of_ble_eq_true rfl) (Nat.le_of_ble_eq_true rfl) (by first | (simp [sp_set, cnd, okC, okS, okW_iff, okN_iff, inR, c14, c15, c17, c18, c26, c30]; done) | (simp_all [sp_set, cnd, okC, okS, okW_iff, okN_iff, inR]; done) | skip)
          · refine aw_iload_n (pc' := 37) dX12_set_36 rfl rfl ?_
            refine aw_zlt (tgt := 54) (pc' := 40) dX12_set_37 (by decide) rfl (fun _ => ?_) (fun c => absurd (by rw [c17]; decide) c)
            refine aw_iinc (lv' := [_, _, _, _]) (pc' := 57) dX12_set_54 rfl rfl (Nat.le_of_ble_eq_true rfl) rfl ?_
            refine aw_goto (tgt := 26) dX12_set_57 (by decide) ?_
            refine aw_iload_n (pc' := 27) dX12_set_26 rfl rfl ?_
            refine aw_iconst (v := 3) (pc' := 28) dX12_set_27 rfl (by decide) ?_
            refine aw_cge (tgt := 60) (pc' := 31) dX12_set_28 (by decide) rfl (fun _ => ?_) (fun c => absurd c (by decide))
            refine aw_aload_n (pc' := 61) dX12_set_60 rfl rfl rfl ?_
            refine aw_get clsAll (pc' := 64) dX12_set_61 rfl fl_RX12_72 hm.1 rfl ?_
            refine aw_iload_n (pc' := 65) dX12_set_64 rfl rfl ?_
            refine aw_iald (v := (-1)) (pc' := 66) dX12_set_65 rfl ((hm.2 79 (by decide) (by decide)).trans h0_79) (ix_ (hi := 2) (b := 2) rfl (by decide) c14 c15) rfl ?_
            refine aw_istore_n (lv' := [_, _, _, _]) (pc' := 67) dX12_set_66 rfl (Nat.le_of_ble_eq_true rfl) rfl ?_
            refine aw_aload_n (pc' := 68) dX12_set_67 rfl rfl rfl ?_
            refine aw_get clsAll (pc' := 71) dX12_set_68 rfl fl_RX12_72 hm.1 rfl ?_
            refine aw_iload_n (pc' := 72) dX12_set_71 rfl rfl ?_
            refine aw_iload_n (pc' := 73) dX12_set_72 rfl rfl ?_
            refine aw_iastG (pc' := 74) dX12_set_73 rfl ((hm.2 79 (by decide) (by decide)).trans h0_79) (ix_ (hi := 2) (b := 2) rfl (by decide) c14 c15) (fun h32 e32 => ?_)
            refine aw_iload_n (pc' := 75) dX12_set_74 rfl rfl ?_
            exact aw_ri dX12_set_75 rfl rfl (Nat.le_of_ble_eq_true rfl) (Nat.le_of_ble_eq_true rfl) (by first | (simp [sp_set, cnd, okC, okS, okW_iff, okN_iff, inR, c14, c15, c17, c18, c26, c30]; done) | (simp_all [sp_set, cnd, okC, okS, okW_iff, okN_iff, inR]; done) | skip)
    · refine aw_aload_n (pc' := 13) dX12_set_12 rfl rfl rfl ?_
      refine aw_iload_n (pc' := 14) dX12_set_13 rfl rfl ?_
      have cc33 : AM mX12_isHole 2 [.ref 67, .int x] h 0 0 (PI fun r h' => (x < 0 ∧ 0 = r ∧ h = h') ∨ (¬ (x < 0) ∧ 0 = r ∧ h = h')) := by
        refine am_of (lv := [some (.ref 67), some (.int x)]) rfl (Nat.le_of_ble_eq_true rfl) rfl ?_
        refine aw_aload_n (pc' := 1) dX12_isHole_0 rfl rfl rfl ?_
        refine aw_iload_n (pc' := 2) dX12_isHole_1 rfl rfl ?_
        have cc34 : AM mX12_isBody 1 [.ref 67, .int x] h 0 0 (PI fun r h' => (x < 0 ∧ 0 = r ∧ h = h') ∨ (¬ (x < 0) ∧ 0 = r ∧ h = h')) := by
          refine am_of (lv := [some (.ref 67), some (.int x)]) rfl (Nat.le_of_ble_eq_true rfl) rfl ?_
          refine aw_iload_n (pc' := 1) dX12_isBody_0 rfl rfl ?_
          refine aw_iconst (v := 0) (pc' := 2) dX12_isBody_1 rfl (by decide) ?_
          refine aw_aload_n (pc' := 3) dX12_isBody_2 rfl rfl rfl ?_
          refine aw_get clsAll (pc' := 6) dX12_isBody_3 rfl fl_RX12_242 hm.1 rfl ?_
          refine aw_iconst (v := 1) (pc' := 7) dX12_isBody_6 rfl (by decide) ?_
          refine aw_isub (pc' := 8) dX12_isBody_7 rfl ?_
          refine aw_topi (v := (-1)) (by decide) ?_
          have cc35 : AM mX12_in 0 [.int x, .int 0, .int (-1)] h 0 0 (PI fun r h' => (x < 0 ∧ 0 = r ∧ h = h') ∨ (¬ (x < 0) ∧ 0 = r ∧ h = h')) := by
            refine am_of (lv := [some (.int x), some (.int 0), some (.int (-1))]) rfl (Nat.le_of_ble_eq_true rfl) rfl ?_
            refine aw_iload_n (pc' := 1) dX12_in_0 rfl rfl ?_
            refine aw_iload_n (pc' := 2) dX12_in_1 rfl rfl ?_
            refine aw_clt (tgt := 14) (pc' := 5) dX12_in_2 (by decide) rfl (fun c36 => ?_) (fun c36 => ?_)
            · refine aw_iconst (v := 0) (pc' := 15) dX12_in_14 rfl (by decide) ?_
              exact aw_ri dX12_in_15 rfl (by decide) (Nat.le_of_ble_eq_true rfl) (Nat.le_of_ble_eq_true rfl) (Or.inl ⟨c36, rfl, rfl⟩)
            · refine aw_iload_n (pc' := 6) dX12_in_5 rfl rfl ?_
              refine aw_iload_n (pc' := 7) dX12_in_6 rfl rfl ?_
              refine aw_cgt (tgt := 14) (pc' := 10) dX12_in_7 (by decide) rfl (fun _ => ?_) (fun c => absurd (bt1 c36 (by decide)) c)
              refine aw_iconst (v := 0) (pc' := 15) dX12_in_14 rfl (by decide) ?_
              exact aw_ri dX12_in_15 rfl (by decide) (Nat.le_of_ble_eq_true rfl) (Nat.le_of_ble_eq_true rfl) (Or.inr ⟨c36, rfl, rfl⟩)
          refine aw_callSi (M' := mX12_in) (nc' := 0) (ns' := 0) (pc' := 11) dX12_isBody_8 rfl ml_RX12_230 kX12_in cc35 rfl rfl (Nat.le_of_ble_eq_true rfl) (rok rfl) rfl rfl (fun r39 h39 q39 => ?_)
          rcases q39 with ⟨c37, rfl, rfl⟩ | ⟨c38, rfl, rfl⟩
          · exact aw_ri dX12_isBody_11 rfl (by decide) (Nat.le_of_ble_eq_true rfl) (Nat.le_of_ble_eq_true rfl) (Or.inl ⟨c37, rfl, rfl⟩)
          · exact aw_ri dX12_isBody_11 rfl (by decide) (Nat.le_of_ble_eq_true rfl) (Nat.le_of_ble_eq_true rfl) (Or.inr ⟨c38, rfl, rfl⟩)
        refine aw_callVi (M' := mX12_isBody) (nc' := 0) (ns' := 0) (pc' := 5) dX12_isHole_2 rfl ml_RX12_245 kX12_isBody cc34 hm.1 rfl rfl rfl (Nat.le_of_ble_eq_true rfl) (rok rfl) rfl rfl (fun r42 h42 q42 => ?_)
        rcases q42 with ⟨c40, rfl, rfl⟩ | ⟨c41, rfl, rfl⟩
        · refine aw_if_eq (tgt := 25) (pc' := 8) dX12_isHole_5 (by decide) rfl (fun _ => ?_) (fun c => absurd (by decide) c)
          refine aw_iconst (v := 0) (pc' := 26) dX12_isHole_25 rfl (by decide) ?_
          exact aw_ri dX12_isHole_26 rfl (by decide) (Nat.le_of_ble_eq_true rfl) (Nat.le_of_ble_eq_true rfl) (Or.inl ⟨c40, rfl, rfl⟩)
        · refine aw_if_eq (tgt := 25) (pc' := 8) dX12_isHole_5 (by decide) rfl (fun _ => ?_) (fun c => absurd (by decide) c)
          refine aw_iconst (v := 0) (pc' := 26) dX12_isHole_25 rfl (by decide) ?_
          exact aw_ri dX12_isHole_26 rfl (by decide) (Nat.le_of_ble_eq_true rfl) (Nat.le_of_ble_eq_true rfl) (Or.inr ⟨c41, rfl, rfl⟩)
      refine aw_callVi (M' := mX12_isHole) (nc' := 0) (ns' := 0) (pc' := 17) dX12_set_14 rfl ml_RX12_268 kX12_isHole cc33 hm.1 rfl rfl rfl (Nat.le_of_ble_eq_true rfl) (rok rfl) rfl rfl (fun r45 h45 q45 => ?_)
      rcases q45 with ⟨c43, rfl, rfl⟩ | ⟨c44, rfl, rfl⟩
      · refine aw_if_ne (tgt := 24) (pc' := 20) dX12_set_17 (by decide) rfl (fun c => absurd (by decide) c) (fun _ => ?_)
        refine aw_ldcw (pc' := 23) dX12_set_20 rfl ct_RX12_267 ?_
        exact aw_ri dX12_set_23 rfl rfl (Nat.le_of_ble_eq_true rfl) (Nat.le_of_ble_eq_true rfl) (by first | (simp [sp_set, cnd, okC, okS, okW_iff, okN_iff, inR, c14, c15, c17, c43]; done) | (simp_all [sp_set, cnd, okC, okS, okW_iff, okN_iff, inR]; done) | skip)
      · refine aw_if_ne (tgt := 24) (pc' := 20) dX12_set_17 (by decide) rfl (fun c => absurd (by decide) c) (fun _ => ?_)
        refine aw_ldcw (pc' := 23) dX12_set_20 rfl ct_RX12_267 ?_
        exact aw_ri dX12_set_23 rfl rfl (Nat.le_of_ble_eq_true rfl) (Nat.le_of_ble_eq_true rfl) (by first | (simp [sp_set, cnd, okC, okS, okW_iff, okN_iff, inR, c14, c15, c17, c44]; done) | (simp_all [sp_set, cnd, okC, okS, okW_iff, okN_iff, inR]; done) | skip)
set_option maxRecDepth 4000 in
theorem m_breaks (h : List aE) (hm : Fm 0 h) (m : Int32) (t : Int32) : AM mX12_breaks 2 [.ref 67, .int m, .int t] h 0 0 (PI fun r h' => r = sp_breaks m t) := by
  refine am_of (lv := [some (.ref 67), some (.int m), some (.int t)]) rfl (Nat.le_of_ble_eq_true rfl) rfl ?_
  refine aw_iload_n (pc' := 1) dX12_breaks_0 rfl rfl ?_
  have cc1 : AM mX12_isMachine 1 [.int m] h 0 0 (PI fun r h' => (m < 0 ∧ 0 = r ∧ h = h') ∨ (¬ (m < 0) ∧ 2 < m ∧ 0 = r ∧ h = h') ∨ (¬ (m < 0) ∧ ¬ (2 < m) ∧ 1 = r ∧ h = h')) := by
    refine am_of (lv := [some (.int m)]) rfl (Nat.le_of_ble_eq_true rfl) rfl ?_
    refine aw_iload_n (pc' := 1) dX12_isMachine_0 rfl rfl ?_
    refine aw_iconst (v := 0) (pc' := 2) dX12_isMachine_1 rfl (by decide) ?_
    refine aw_iconst (v := 2) (pc' := 3) dX12_isMachine_2 rfl (by decide) ?_
    have cc2 : AM mX12_in 0 [.int m, .int 0, .int 2] h 0 0 (PI fun r h' => (m < 0 ∧ 0 = r ∧ h = h') ∨ (¬ (m < 0) ∧ 2 < m ∧ 0 = r ∧ h = h') ∨ (¬ (m < 0) ∧ ¬ (2 < m) ∧ 1 = r ∧ h = h')) := by
      refine am_of (lv := [some (.int m), some (.int 0), some (.int 2)]) rfl (Nat.le_of_ble_eq_true rfl) rfl ?_
      refine aw_iload_n (pc' := 1) dX12_in_0 rfl rfl ?_
      refine aw_iload_n (pc' := 2) dX12_in_1 rfl rfl ?_
      refine aw_clt (tgt := 14) (pc' := 5) dX12_in_2 (by decide) rfl (fun c3 => ?_) (fun c3 => ?_)
      · refine aw_iconst (v := 0) (pc' := 15) dX12_in_14 rfl (by decide) ?_
        exact aw_ri dX12_in_15 rfl (by decide) (Nat.le_of_ble_eq_true rfl) (Nat.le_of_ble_eq_true rfl) (Or.inl ⟨c3, rfl, rfl⟩)
      · refine aw_iload_n (pc' := 6) dX12_in_5 rfl rfl ?_
        refine aw_iload_n (pc' := 7) dX12_in_6 rfl rfl ?_
        refine aw_cgt (tgt := 14) (pc' := 10) dX12_in_7 (by decide) rfl (fun c4 => ?_) (fun c4 => ?_)
        · refine aw_iconst (v := 0) (pc' := 15) dX12_in_14 rfl (by decide) ?_
          exact aw_ri dX12_in_15 rfl (by decide) (Nat.le_of_ble_eq_true rfl) (Nat.le_of_ble_eq_true rfl) (Or.inr (Or.inl ⟨c3, c4, rfl, rfl⟩))
        · refine aw_iconst (v := 1) (pc' := 11) dX12_in_10 rfl (by decide) ?_
          refine aw_goto (tgt := 15) dX12_in_11 (by decide) ?_
          exact aw_ri dX12_in_15 rfl (by decide) (Nat.le_of_ble_eq_true rfl) (Nat.le_of_ble_eq_true rfl) (Or.inr (Or.inr ⟨c3, c4, rfl, rfl⟩))
    refine aw_callSi (M' := mX12_in) (nc' := 0) (ns' := 0) (pc' := 6) dX12_isMachine_3 rfl ml_RX12_230 kX12_in cc2 rfl rfl (Nat.le_of_ble_eq_true rfl) (rok rfl) rfl rfl (fun r10 h10 q10 => ?_)
    rcases q10 with ⟨c5, rfl, rfl⟩ | ⟨c6, c7, rfl, rfl⟩ | ⟨c8, c9, rfl, rfl⟩
    · exact aw_ri dX12_isMachine_6 rfl (by decide) (Nat.le_of_ble_eq_true rfl) (Nat.le_of_ble_eq_true rfl) (Or.inl ⟨c5, rfl, rfl⟩)
    · exact aw_ri dX12_isMachine_6 rfl (by decide) (Nat.le_of_ble_eq_true rfl) (Nat.le_of_ble_eq_true rfl) (Or.inr (Or.inl ⟨c6, c7, rfl, rfl⟩))
    · exact aw_ri dX12_isMachine_6 rfl (by decide) (Nat.le_of_ble_eq_true rfl) (Nat.le_of_ble_eq_true rfl) (Or.inr (Or.inr ⟨c8, c9, rfl, rfl⟩))
  refine aw_callSi (M' := mX12_isMachine) (nc' := 0) (ns' := 0) (pc' := 4) dX12_breaks_1 rfl ml_RX12_278 kX12_isMachine cc1 rfl rfl (Nat.le_of_ble_eq_true rfl) (rok rfl) rfl rfl (fun r16 h16 q16 => ?_)
  rcases q16 with ⟨c11, rfl, rfl⟩ | ⟨c12, c13, rfl, rfl⟩ | ⟨c14, c15, rfl, rfl⟩
  · refine aw_if_eq (tgt := 21) (pc' := 7) dX12_breaks_4 (by decide) rfl (fun _ => ?_) (fun c => absurd (by decide) c)
    refine aw_iconst (v := (-1)) (pc' := 22) dX12_breaks_21 rfl (by decide) ?_
    exact aw_ri dX12_breaks_22 rfl rfl (Nat.le_of_ble_eq_true rfl) (Nat.le_of_ble_eq_true rfl) (by first | (simp [sp_breaks, cnd, okC, okS, okW_iff, okN_iff, inR, c11]; done) | (simp_all [sp_breaks, cnd, okC, okS, okW_iff, okN_iff, inR]; done) | skip)
  · refine aw_if_eq (tgt := 21) (pc' := 7) dX12_breaks_4 (by decide) rfl (fun _ => ?_) (fun c => absurd (by decide) c)
    refine aw_iconst (v := (-1)) (pc' := 22) dX12_breaks_21 rfl (by decide) ?_
    exact aw_ri dX12_breaks_22 rfl rfl (Nat.le_of_ble_eq_true rfl) (Nat.le_of_ble_eq_true rfl) (by first | (simp [sp_breaks, cnd, okC, okS, okW_iff, okN_iff, inR, c12, c13]; done) | (simp_all [sp_breaks, cnd, okC, okS, okW_iff, okN_iff, inR]; done) | skip)
  · refine aw_if_eq (tgt := 21) (pc' := 7) dX12_breaks_4 (by decide) rfl (fun c => absurd c (by decide)) (fun _ => ?_)
    refine aw_iload_n (pc' := 8) dX12_breaks_7 rfl rfl ?_
    refine aw_aload_n (pc' := 9) dX12_breaks_8 rfl rfl rfl ?_
    refine aw_get clsAll (pc' := 12) dX12_breaks_9 rfl fl_RX12_281 hm.1 rfl ?_
    refine aw_sipush (v := 1699) (pc' := 15) dX12_breaks_12 rfl (by decide) ?_
    have cc17 : AM mX12_in 0 [.int t, .int 0, .int 1699] h 0 0 (PI fun r h' => (t < 0 ∧ 0 = r ∧ h = h') ∨ (¬ (t < 0) ∧ 1699 < t ∧ 0 = r ∧ h = h') ∨ (¬ (t < 0) ∧ ¬ (1699 < t) ∧ 1 = r ∧ h = h')) := by
      refine am_of (lv := [some (.int t), some (.int 0), some (.int 1699)]) rfl (Nat.le_of_ble_eq_true rfl) rfl ?_
      refine aw_iload_n (pc' := 1) dX12_in_0 rfl rfl ?_
      refine aw_iload_n (pc' := 2) dX12_in_1 rfl rfl ?_
      refine aw_clt (tgt := 14) (pc' := 5) dX12_in_2 (by decide) rfl (fun c18 => ?_) (fun c18 => ?_)
      · refine aw_iconst (v := 0) (pc' := 15) dX12_in_14 rfl (by decide) ?_
        exact aw_ri dX12_in_15 rfl (by decide) (Nat.le_of_ble_eq_true rfl) (Nat.le_of_ble_eq_true rfl) (Or.inl ⟨c18, rfl, rfl⟩)
      · refine aw_iload_n (pc' := 6) dX12_in_5 rfl rfl ?_
        refine aw_iload_n (pc' := 7) dX12_in_6 rfl rfl ?_
        refine aw_cgt (tgt := 14) (pc' := 10) dX12_in_7 (by decide) rfl (fun c19 => ?_) (fun c19 => ?_)
        · refine aw_iconst (v := 0) (pc' := 15) dX12_in_14 rfl (by decide) ?_
          exact aw_ri dX12_in_15 rfl (by decide) (Nat.le_of_ble_eq_true rfl) (Nat.le_of_ble_eq_true rfl) (Or.inr (Or.inl ⟨c18, c19, rfl, rfl⟩))
        · refine aw_iconst (v := 1) (pc' := 11) dX12_in_10 rfl (by decide) ?_
          refine aw_goto (tgt := 15) dX12_in_11 (by decide) ?_
          exact aw_ri dX12_in_15 rfl (by decide) (Nat.le_of_ble_eq_true rfl) (Nat.le_of_ble_eq_true rfl) (Or.inr (Or.inr ⟨c18, c19, rfl, rfl⟩))
    refine aw_callSi (M' := mX12_in) (nc' := 0) (ns' := 0) (pc' := 18) dX12_breaks_15 rfl ml_RX12_230 kX12_in cc17 rfl rfl (Nat.le_of_ble_eq_true rfl) (rok rfl) rfl rfl (fun r25 h25 q25 => ?_)
    rcases q25 with ⟨c20, rfl, rfl⟩ | ⟨c21, c22, rfl, rfl⟩ | ⟨c23, c24, rfl, rfl⟩
    · refine aw_if_ne (tgt := 23) (pc' := 21) dX12_breaks_18 (by decide) rfl (fun c => absurd (by decide) c) (fun _ => ?_)
      refine aw_iconst (v := (-1)) (pc' := 22) dX12_breaks_21 rfl (by decide) ?_
      exact aw_ri dX12_breaks_22 rfl rfl (Nat.le_of_ble_eq_true rfl) (Nat.le_of_ble_eq_true rfl) (by first | (simp [sp_breaks, cnd, okC, okS, okW_iff, okN_iff, inR, c14, c15, c20]; done) | (simp_all [sp_breaks, cnd, okC, okS, okW_iff, okN_iff, inR]; done) | skip)
    · refine aw_if_ne (tgt := 23) (pc' := 21) dX12_breaks_18 (by decide) rfl (fun c => absurd (by decide) c) (fun _ => ?_)
      refine aw_iconst (v := (-1)) (pc' := 22) dX12_breaks_21 rfl (by decide) ?_
      exact aw_ri dX12_breaks_22 rfl rfl (Nat.le_of_ble_eq_true rfl) (Nat.le_of_ble_eq_true rfl) (by first | (simp [sp_breaks, cnd, okC, okS, okW_iff, okN_iff, inR, c14, c15, c21, c22]; done) | (simp_all [sp_breaks, cnd, okC, okS, okW_iff, okN_iff, inR]; done) | skip)
    · refine aw_if_ne (tgt := 23) (pc' := 21) dX12_breaks_18 (by decide) rfl (fun _ => ?_) (fun c => absurd c (by decide))
      refine aw_aload_n (pc' := 24) dX12_breaks_23 rfl rfl rfl ?_
      refine aw_get clsAll (pc' := 27) dX12_breaks_24 rfl fl_RX12_75 hm.1 rfl ?_
      refine aw_iload_n (pc' := 28) dX12_breaks_27 rfl rfl ?_
      refine aw_iload_n (pc' := 29) dX12_breaks_28 rfl rfl ?_
      refine aw_iastG (pc' := 30) dX12_breaks_29 rfl ((hm.2 80 (by decide) (by decide)).trans h0_80) (ix_ (hi := 2) (b := 2) rfl (by decide) c14 c15) (fun h26 e26 => ?_)
      refine aw_iconst (v := 1) (pc' := 31) dX12_breaks_30 rfl (by decide) ?_
      exact aw_ri dX12_breaks_31 rfl rfl (Nat.le_of_ble_eq_true rfl) (Nat.le_of_ble_eq_true rfl) (by first | (simp [sp_breaks, cnd, okC, okS, okW_iff, okN_iff, inR, c14, c15, c23, c24]; done) | (simp_all [sp_breaks, cnd, okC, okS, okW_iff, okN_iff, inR]; done) | skip)
set_option maxRecDepth 4000 in
theorem m_yard (h : List aE) (hm : Fm 0 h) (b : Int32) (v : Int32) : AM mX12_yard 3 [.ref 67, .int b, .int v] h 0 0 (PI fun r h' => r = sp_yard b v) := by
  refine am_of (lv := [some (.ref 67), some (.int b), some (.int v)]) rfl (Nat.le_of_ble_eq_true rfl) rfl ?_
  refine aw_aload_n (pc' := 1) dX12_yard_0 rfl rfl rfl ?_
  refine aw_iload_n (pc' := 2) dX12_yard_1 rfl rfl ?_
  have cc1 : AM mX12_isHole 2 [.ref 67, .int b] h 0 0 (PI fun r h' => (b < 0 ∧ 0 = r ∧ h = h') ∨ (¬ (b < 0) ∧ 0 = r ∧ h = h')) := by
    refine am_of (lv := [some (.ref 67), some (.int b)]) rfl (Nat.le_of_ble_eq_true rfl) rfl ?_
    refine aw_aload_n (pc' := 1) dX12_isHole_0 rfl rfl rfl ?_
    refine aw_iload_n (pc' := 2) dX12_isHole_1 rfl rfl ?_
    have cc2 : AM mX12_isBody 1 [.ref 67, .int b] h 0 0 (PI fun r h' => (b < 0 ∧ 0 = r ∧ h = h') ∨ (¬ (b < 0) ∧ 0 = r ∧ h = h')) := by
      refine am_of (lv := [some (.ref 67), some (.int b)]) rfl (Nat.le_of_ble_eq_true rfl) rfl ?_
      refine aw_iload_n (pc' := 1) dX12_isBody_0 rfl rfl ?_
      refine aw_iconst (v := 0) (pc' := 2) dX12_isBody_1 rfl (by decide) ?_
      refine aw_aload_n (pc' := 3) dX12_isBody_2 rfl rfl rfl ?_
      refine aw_get clsAll (pc' := 6) dX12_isBody_3 rfl fl_RX12_242 hm.1 rfl ?_
      refine aw_iconst (v := 1) (pc' := 7) dX12_isBody_6 rfl (by decide) ?_
      refine aw_isub (pc' := 8) dX12_isBody_7 rfl ?_
      refine aw_topi (v := (-1)) (by decide) ?_
      have cc3 : AM mX12_in 0 [.int b, .int 0, .int (-1)] h 0 0 (PI fun r h' => (b < 0 ∧ 0 = r ∧ h = h') ∨ (¬ (b < 0) ∧ 0 = r ∧ h = h')) := by
        refine am_of (lv := [some (.int b), some (.int 0), some (.int (-1))]) rfl (Nat.le_of_ble_eq_true rfl) rfl ?_
        refine aw_iload_n (pc' := 1) dX12_in_0 rfl rfl ?_
        refine aw_iload_n (pc' := 2) dX12_in_1 rfl rfl ?_
        refine aw_clt (tgt := 14) (pc' := 5) dX12_in_2 (by decide) rfl (fun c4 => ?_) (fun c4 => ?_)
        · refine aw_iconst (v := 0) (pc' := 15) dX12_in_14 rfl (by decide) ?_
          exact aw_ri dX12_in_15 rfl (by decide) (Nat.le_of_ble_eq_true rfl) (Nat.le_of_ble_eq_true rfl) (Or.inl ⟨c4, rfl, rfl⟩)
        · refine aw_iload_n (pc' := 6) dX12_in_5 rfl rfl ?_
          refine aw_iload_n (pc' := 7) dX12_in_6 rfl rfl ?_
          refine aw_cgt (tgt := 14) (pc' := 10) dX12_in_7 (by decide) rfl (fun _ => ?_) (fun c => absurd (bt1 c4 (by decide)) c)
          refine aw_iconst (v := 0) (pc' := 15) dX12_in_14 rfl (by decide) ?_
          exact aw_ri dX12_in_15 rfl (by decide) (Nat.le_of_ble_eq_true rfl) (Nat.le_of_ble_eq_true rfl) (Or.inr ⟨c4, rfl, rfl⟩)
      refine aw_callSi (M' := mX12_in) (nc' := 0) (ns' := 0) (pc' := 11) dX12_isBody_8 rfl ml_RX12_230 kX12_in cc3 rfl rfl (Nat.le_of_ble_eq_true rfl) (rok rfl) rfl rfl (fun r7 h7 q7 => ?_)
      rcases q7 with ⟨c5, rfl, rfl⟩ | ⟨c6, rfl, rfl⟩
      · exact aw_ri dX12_isBody_11 rfl (by decide) (Nat.le_of_ble_eq_true rfl) (Nat.le_of_ble_eq_true rfl) (Or.inl ⟨c5, rfl, rfl⟩)
      · exact aw_ri dX12_isBody_11 rfl (by decide) (Nat.le_of_ble_eq_true rfl) (Nat.le_of_ble_eq_true rfl) (Or.inr ⟨c6, rfl, rfl⟩)
    refine aw_callVi (M' := mX12_isBody) (nc' := 0) (ns' := 0) (pc' := 5) dX12_isHole_2 rfl ml_RX12_245 kX12_isBody cc2 hm.1 rfl rfl rfl (Nat.le_of_ble_eq_true rfl) (rok rfl) rfl rfl (fun r10 h10 q10 => ?_)
    rcases q10 with ⟨c8, rfl, rfl⟩ | ⟨c9, rfl, rfl⟩
    · refine aw_if_eq (tgt := 25) (pc' := 8) dX12_isHole_5 (by decide) rfl (fun _ => ?_) (fun c => absurd (by decide) c)
      refine aw_iconst (v := 0) (pc' := 26) dX12_isHole_25 rfl (by decide) ?_
      exact aw_ri dX12_isHole_26 rfl (by decide) (Nat.le_of_ble_eq_true rfl) (Nat.le_of_ble_eq_true rfl) (Or.inl ⟨c8, rfl, rfl⟩)
    · refine aw_if_eq (tgt := 25) (pc' := 8) dX12_isHole_5 (by decide) rfl (fun _ => ?_) (fun c => absurd (by decide) c)
      refine aw_iconst (v := 0) (pc' := 26) dX12_isHole_25 rfl (by decide) ?_
      exact aw_ri dX12_isHole_26 rfl (by decide) (Nat.le_of_ble_eq_true rfl) (Nat.le_of_ble_eq_true rfl) (Or.inr ⟨c9, rfl, rfl⟩)
  refine aw_callVi (M' := mX12_isHole) (nc' := 0) (ns' := 0) (pc' := 5) dX12_yard_2 rfl ml_RX12_268 kX12_isHole cc1 hm.1 rfl rfl rfl (Nat.le_of_ble_eq_true rfl) (rok rfl) rfl rfl (fun r13 h13 q13 => ?_)
  rcases q13 with ⟨c11, rfl, rfl⟩ | ⟨c12, rfl, rfl⟩
  · refine aw_if_eq (tgt := 18) (pc' := 8) dX12_yard_5 (by decide) rfl (fun _ => ?_) (fun c => absurd (by decide) c)
    refine aw_iconst (v := (-1)) (pc' := 19) dX12_yard_18 rfl (by decide) ?_
    exact aw_ri dX12_yard_19 rfl rfl (Nat.le_of_ble_eq_true rfl) (Nat.le_of_ble_eq_true rfl) (by first | (simp [sp_yard, cnd, okC, okS, okW_iff, okN_iff, inR, c11]; done) | (simp_all [sp_yard, cnd, okC, okS, okW_iff, okN_iff, inR]; done) | skip)
  · refine aw_if_eq (tgt := 18) (pc' := 8) dX12_yard_5 (by decide) rfl (fun _ => ?_) (fun c => absurd (by decide) c)
    refine aw_iconst (v := (-1)) (pc' := 19) dX12_yard_18 rfl (by decide) ?_
    exact aw_ri dX12_yard_19 rfl rfl (Nat.le_of_ble_eq_true rfl) (Nat.le_of_ble_eq_true rfl) (by first | (simp [sp_yard, cnd, okC, okS, okW_iff, okN_iff, inR, c12]; done) | (simp_all [sp_yard, cnd, okC, okS, okW_iff, okN_iff, inR]; done) | skip)
set_option maxRecDepth 4000 in
theorem m_met (h : List aE) (hm : Fm 0 h) (b : Int32) (v : Int32) : AM mX12_met 3 [.ref 67, .int b, .int v] h 0 0 (PI fun r h' => r = sp_met b v) := by
  refine am_of (lv := [some (.ref 67), some (.int b), some (.int v)]) rfl (Nat.le_of_ble_eq_true rfl) rfl ?_
  refine aw_aload_n (pc' := 1) dX12_met_0 rfl rfl rfl ?_
  refine aw_iload_n (pc' := 2) dX12_met_1 rfl rfl ?_
  have cc1 : AM mX12_isHole 2 [.ref 67, .int b] h 0 0 (PI fun r h' => (b < 0 ∧ 0 = r ∧ h = h') ∨ (¬ (b < 0) ∧ 0 = r ∧ h = h')) := by
    refine am_of (lv := [some (.ref 67), some (.int b)]) rfl (Nat.le_of_ble_eq_true rfl) rfl ?_
    refine aw_aload_n (pc' := 1) dX12_isHole_0 rfl rfl rfl ?_
    refine aw_iload_n (pc' := 2) dX12_isHole_1 rfl rfl ?_
    have cc2 : AM mX12_isBody 1 [.ref 67, .int b] h 0 0 (PI fun r h' => (b < 0 ∧ 0 = r ∧ h = h') ∨ (¬ (b < 0) ∧ 0 = r ∧ h = h')) := by
      refine am_of (lv := [some (.ref 67), some (.int b)]) rfl (Nat.le_of_ble_eq_true rfl) rfl ?_
      refine aw_iload_n (pc' := 1) dX12_isBody_0 rfl rfl ?_
      refine aw_iconst (v := 0) (pc' := 2) dX12_isBody_1 rfl (by decide) ?_
      refine aw_aload_n (pc' := 3) dX12_isBody_2 rfl rfl rfl ?_
      refine aw_get clsAll (pc' := 6) dX12_isBody_3 rfl fl_RX12_242 hm.1 rfl ?_
      refine aw_iconst (v := 1) (pc' := 7) dX12_isBody_6 rfl (by decide) ?_
      refine aw_isub (pc' := 8) dX12_isBody_7 rfl ?_
      refine aw_topi (v := (-1)) (by decide) ?_
      have cc3 : AM mX12_in 0 [.int b, .int 0, .int (-1)] h 0 0 (PI fun r h' => (b < 0 ∧ 0 = r ∧ h = h') ∨ (¬ (b < 0) ∧ 0 = r ∧ h = h')) := by
        refine am_of (lv := [some (.int b), some (.int 0), some (.int (-1))]) rfl (Nat.le_of_ble_eq_true rfl) rfl ?_
        refine aw_iload_n (pc' := 1) dX12_in_0 rfl rfl ?_
        refine aw_iload_n (pc' := 2) dX12_in_1 rfl rfl ?_
        refine aw_clt (tgt := 14) (pc' := 5) dX12_in_2 (by decide) rfl (fun c4 => ?_) (fun c4 => ?_)
        · refine aw_iconst (v := 0) (pc' := 15) dX12_in_14 rfl (by decide) ?_
          exact aw_ri dX12_in_15 rfl (by decide) (Nat.le_of_ble_eq_true rfl) (Nat.le_of_ble_eq_true rfl) (Or.inl ⟨c4, rfl, rfl⟩)
        · refine aw_iload_n (pc' := 6) dX12_in_5 rfl rfl ?_
          refine aw_iload_n (pc' := 7) dX12_in_6 rfl rfl ?_
          refine aw_cgt (tgt := 14) (pc' := 10) dX12_in_7 (by decide) rfl (fun _ => ?_) (fun c => absurd (bt1 c4 (by decide)) c)
          refine aw_iconst (v := 0) (pc' := 15) dX12_in_14 rfl (by decide) ?_
          exact aw_ri dX12_in_15 rfl (by decide) (Nat.le_of_ble_eq_true rfl) (Nat.le_of_ble_eq_true rfl) (Or.inr ⟨c4, rfl, rfl⟩)
      refine aw_callSi (M' := mX12_in) (nc' := 0) (ns' := 0) (pc' := 11) dX12_isBody_8 rfl ml_RX12_230 kX12_in cc3 rfl rfl (Nat.le_of_ble_eq_true rfl) (rok rfl) rfl rfl (fun r7 h7 q7 => ?_)
      rcases q7 with ⟨c5, rfl, rfl⟩ | ⟨c6, rfl, rfl⟩
      · exact aw_ri dX12_isBody_11 rfl (by decide) (Nat.le_of_ble_eq_true rfl) (Nat.le_of_ble_eq_true rfl) (Or.inl ⟨c5, rfl, rfl⟩)
      · exact aw_ri dX12_isBody_11 rfl (by decide) (Nat.le_of_ble_eq_true rfl) (Nat.le_of_ble_eq_true rfl) (Or.inr ⟨c6, rfl, rfl⟩)
    refine aw_callVi (M' := mX12_isBody) (nc' := 0) (ns' := 0) (pc' := 5) dX12_isHole_2 rfl ml_RX12_245 kX12_isBody cc2 hm.1 rfl rfl rfl (Nat.le_of_ble_eq_true rfl) (rok rfl) rfl rfl (fun r10 h10 q10 => ?_)
    rcases q10 with ⟨c8, rfl, rfl⟩ | ⟨c9, rfl, rfl⟩
    · refine aw_if_eq (tgt := 25) (pc' := 8) dX12_isHole_5 (by decide) rfl (fun _ => ?_) (fun c => absurd (by decide) c)
      refine aw_iconst (v := 0) (pc' := 26) dX12_isHole_25 rfl (by decide) ?_
      exact aw_ri dX12_isHole_26 rfl (by decide) (Nat.le_of_ble_eq_true rfl) (Nat.le_of_ble_eq_true rfl) (Or.inl ⟨c8, rfl, rfl⟩)
    · refine aw_if_eq (tgt := 25) (pc' := 8) dX12_isHole_5 (by decide) rfl (fun _ => ?_) (fun c => absurd (by decide) c)
      refine aw_iconst (v := 0) (pc' := 26) dX12_isHole_25 rfl (by decide) ?_
      exact aw_ri dX12_isHole_26 rfl (by decide) (Nat.le_of_ble_eq_true rfl) (Nat.le_of_ble_eq_true rfl) (Or.inr ⟨c9, rfl, rfl⟩)
  refine aw_callVi (M' := mX12_isHole) (nc' := 0) (ns' := 0) (pc' := 5) dX12_met_2 rfl ml_RX12_268 kX12_isHole cc1 hm.1 rfl rfl rfl (Nat.le_of_ble_eq_true rfl) (rok rfl) rfl rfl (fun r13 h13 q13 => ?_)
  rcases q13 with ⟨c11, rfl, rfl⟩ | ⟨c12, rfl, rfl⟩
  · refine aw_if_eq (tgt := 36) (pc' := 8) dX12_met_5 (by decide) rfl (fun _ => ?_) (fun c => absurd (by decide) c)
    refine aw_iconst (v := (-1)) (pc' := 37) dX12_met_36 rfl (by decide) ?_
    exact aw_ri dX12_met_37 rfl rfl (Nat.le_of_ble_eq_true rfl) (Nat.le_of_ble_eq_true rfl) (by first | (simp [sp_met, cnd, okC, okS, okW_iff, okN_iff, inR, c11]; done) | (simp_all [sp_met, cnd, okC, okS, okW_iff, okN_iff, inR]; done) | skip)
  · refine aw_if_eq (tgt := 36) (pc' := 8) dX12_met_5 (by decide) rfl (fun _ => ?_) (fun c => absurd (by decide) c)
    refine aw_iconst (v := (-1)) (pc' := 37) dX12_met_36 rfl (by decide) ?_
    exact aw_ri dX12_met_37 rfl rfl (Nat.le_of_ble_eq_true rfl) (Nat.le_of_ble_eq_true rfl) (by first | (simp [sp_met, cnd, okC, okS, okW_iff, okN_iff, inR, c12]; done) | (simp_all [sp_met, cnd, okC, okS, okW_iff, okN_iff, inR]; done) | skip)
set_option maxRecDepth 4000 in
theorem m_log (h : List aE) (hm : Fm 0 h) (b : Int32) (s : Int32) (i : Int32) (y : Int32) (n : Int32) : AM mX12_log 3 [.ref 67, .int b, .int s, .int i, .int y, .int n] h 0 0 (PI fun r h' => r = sp_log b s i y n) := by
  refine am_of (lv := [some (.ref 67), some (.int b), some (.int s), some (.int i), some (.int y), some (.int n), none, none, none, none, none, none]) rfl (Nat.le_of_ble_eq_true rfl) rfl ?_
  refine aw_aload_n (pc' := 1) dX12_log_0 rfl rfl rfl ?_
  refine aw_iload_n (pc' := 2) dX12_log_1 rfl rfl ?_
  have cc1 : AM mX12_isHole 2 [.ref 67, .int b] h 0 0 (PI fun r h' => (b < 0 ∧ 0 = r ∧ h = h') ∨ (¬ (b < 0) ∧ 0 = r ∧ h = h')) := by
    refine am_of (lv := [some (.ref 67), some (.int b)]) rfl (Nat.le_of_ble_eq_true rfl) rfl ?_
    refine aw_aload_n (pc' := 1) dX12_isHole_0 rfl rfl rfl ?_
    refine aw_iload_n (pc' := 2) dX12_isHole_1 rfl rfl ?_
    have cc2 : AM mX12_isBody 1 [.ref 67, .int b] h 0 0 (PI fun r h' => (b < 0 ∧ 0 = r ∧ h = h') ∨ (¬ (b < 0) ∧ 0 = r ∧ h = h')) := by
      refine am_of (lv := [some (.ref 67), some (.int b)]) rfl (Nat.le_of_ble_eq_true rfl) rfl ?_
      refine aw_iload_n (pc' := 1) dX12_isBody_0 rfl rfl ?_
      refine aw_iconst (v := 0) (pc' := 2) dX12_isBody_1 rfl (by decide) ?_
      refine aw_aload_n (pc' := 3) dX12_isBody_2 rfl rfl rfl ?_
      refine aw_get clsAll (pc' := 6) dX12_isBody_3 rfl fl_RX12_242 hm.1 rfl ?_
      refine aw_iconst (v := 1) (pc' := 7) dX12_isBody_6 rfl (by decide) ?_
      refine aw_isub (pc' := 8) dX12_isBody_7 rfl ?_
      refine aw_topi (v := (-1)) (by decide) ?_
      have cc3 : AM mX12_in 0 [.int b, .int 0, .int (-1)] h 0 0 (PI fun r h' => (b < 0 ∧ 0 = r ∧ h = h') ∨ (¬ (b < 0) ∧ 0 = r ∧ h = h')) := by
        refine am_of (lv := [some (.int b), some (.int 0), some (.int (-1))]) rfl (Nat.le_of_ble_eq_true rfl) rfl ?_
        refine aw_iload_n (pc' := 1) dX12_in_0 rfl rfl ?_
        refine aw_iload_n (pc' := 2) dX12_in_1 rfl rfl ?_
        refine aw_clt (tgt := 14) (pc' := 5) dX12_in_2 (by decide) rfl (fun c4 => ?_) (fun c4 => ?_)
        · refine aw_iconst (v := 0) (pc' := 15) dX12_in_14 rfl (by decide) ?_
          exact aw_ri dX12_in_15 rfl (by decide) (Nat.le_of_ble_eq_true rfl) (Nat.le_of_ble_eq_true rfl) (Or.inl ⟨c4, rfl, rfl⟩)
        · refine aw_iload_n (pc' := 6) dX12_in_5 rfl rfl ?_
          refine aw_iload_n (pc' := 7) dX12_in_6 rfl rfl ?_
          refine aw_cgt (tgt := 14) (pc' := 10) dX12_in_7 (by decide) rfl (fun _ => ?_) (fun c => absurd (bt1 c4 (by decide)) c)
          refine aw_iconst (v := 0) (pc' := 15) dX12_in_14 rfl (by decide) ?_
          exact aw_ri dX12_in_15 rfl (by decide) (Nat.le_of_ble_eq_true rfl) (Nat.le_of_ble_eq_true rfl) (Or.inr ⟨c4, rfl, rfl⟩)
      refine aw_callSi (M' := mX12_in) (nc' := 0) (ns' := 0) (pc' := 11) dX12_isBody_8 rfl ml_RX12_230 kX12_in cc3 rfl rfl (Nat.le_of_ble_eq_true rfl) (rok rfl) rfl rfl (fun r7 h7 q7 => ?_)
      rcases q7 with ⟨c5, rfl, rfl⟩ | ⟨c6, rfl, rfl⟩
      · exact aw_ri dX12_isBody_11 rfl (by decide) (Nat.le_of_ble_eq_true rfl) (Nat.le_of_ble_eq_true rfl) (Or.inl ⟨c5, rfl, rfl⟩)
      · exact aw_ri dX12_isBody_11 rfl (by decide) (Nat.le_of_ble_eq_true rfl) (Nat.le_of_ble_eq_true rfl) (Or.inr ⟨c6, rfl, rfl⟩)
    refine aw_callVi (M' := mX12_isBody) (nc' := 0) (ns' := 0) (pc' := 5) dX12_isHole_2 rfl ml_RX12_245 kX12_isBody cc2 hm.1 rfl rfl rfl (Nat.le_of_ble_eq_true rfl) (rok rfl) rfl rfl (fun r10 h10 q10 => ?_)
    rcases q10 with ⟨c8, rfl, rfl⟩ | ⟨c9, rfl, rfl⟩
    · refine aw_if_eq (tgt := 25) (pc' := 8) dX12_isHole_5 (by decide) rfl (fun _ => ?_) (fun c => absurd (by decide) c)
      refine aw_iconst (v := 0) (pc' := 26) dX12_isHole_25 rfl (by decide) ?_
      exact aw_ri dX12_isHole_26 rfl (by decide) (Nat.le_of_ble_eq_true rfl) (Nat.le_of_ble_eq_true rfl) (Or.inl ⟨c8, rfl, rfl⟩)
    · refine aw_if_eq (tgt := 25) (pc' := 8) dX12_isHole_5 (by decide) rfl (fun _ => ?_) (fun c => absurd (by decide) c)
      refine aw_iconst (v := 0) (pc' := 26) dX12_isHole_25 rfl (by decide) ?_
      exact aw_ri dX12_isHole_26 rfl (by decide) (Nat.le_of_ble_eq_true rfl) (Nat.le_of_ble_eq_true rfl) (Or.inr ⟨c9, rfl, rfl⟩)
  refine aw_callVi (M' := mX12_isHole) (nc' := 0) (ns' := 0) (pc' := 5) dX12_log_2 rfl ml_RX12_268 kX12_isHole cc1 hm.1 rfl rfl rfl (Nat.le_of_ble_eq_true rfl) (rok rfl) rfl rfl (fun r13 h13 q13 => ?_)
  rcases q13 with ⟨c11, rfl, rfl⟩ | ⟨c12, rfl, rfl⟩
  · refine aw_if_eq (tgt := 37) (pc' := 8) dX12_log_5 (by decide) rfl (fun _ => ?_) (fun c => absurd (by decide) c)
    refine aw_iconst (v := (-1)) (pc' := 38) dX12_log_37 rfl (by decide) ?_
    exact aw_ri dX12_log_38 rfl rfl (Nat.le_of_ble_eq_true rfl) (Nat.le_of_ble_eq_true rfl) (by first | (simp [sp_log, cnd, okC, okS, okW_iff, okN_iff, inR, c11]; done) | (simp_all [sp_log, cnd, okC, okS, okW_iff, okN_iff, inR]; done) | skip)
  · refine aw_if_eq (tgt := 37) (pc' := 8) dX12_log_5 (by decide) rfl (fun _ => ?_) (fun c => absurd (by decide) c)
    refine aw_iconst (v := (-1)) (pc' := 38) dX12_log_37 rfl (by decide) ?_
    exact aw_ri dX12_log_38 rfl rfl (Nat.le_of_ble_eq_true rfl) (Nat.le_of_ble_eq_true rfl) (by first | (simp [sp_log, cnd, okC, okS, okW_iff, okN_iff, inR, c12]; done) | (simp_all [sp_log, cnd, okC, okS, okW_iff, okN_iff, inR]; done) | skip)
