set_option maxRecDepth 4000 in
theorem m_last (h : List aE) (hm : Fm 0 h) (s : Int32) (n : Int32) : AM mX12_last 1 [.ref 67, .int s, .int n] h 0 0 (PI fun r h' => r = sp_last s n) := by
  refine am_of (lv := [some (.ref 67), some (.int s), some (.int n)]) rfl (Nat.le_of_ble_eq_true rfl) rfl ?_
  refine aw_iload_n (pc' := 1) dX12_last_0 rfl rfl ?_
  refine aw_iconst (v := 0) (pc' := 2) dX12_last_1 rfl (by decide) ?_
  refine aw_sipush (v := 999) (pc' := 5) dX12_last_2 rfl (by decide) ?_
  have cc1 : AM mX12_in 0 [.int s, .int 0, .int 999] h 0 0 (PI fun r h' => (s < 0 ∧ 0 = r ∧ h = h') ∨ (¬ (s < 0) ∧ 999 < s ∧ 0 = r ∧ h = h') ∨ (¬ (s < 0) ∧ ¬ (999 < s) ∧ 1 = r ∧ h = h')) := by
    refine am_of (lv := [some (.int s), some (.int 0), some (.int 999)]) rfl (Nat.le_of_ble_eq_true rfl) rfl ?_
    refine aw_iload_n (pc' := 1) dX12_in_0 rfl rfl ?_
    refine aw_iload_n (pc' := 2) dX12_in_1 rfl rfl ?_
    refine aw_clt (tgt := 14) (pc' := 5) dX12_in_2 (by decide) rfl (fun c2 => ?_) (fun c2 => ?_)
    · refine aw_iconst (v := 0) (pc' := 15) dX12_in_14 rfl (by decide) ?_
      exact aw_ri dX12_in_15 rfl (by decide) (Nat.le_of_ble_eq_true rfl) (Nat.le_of_ble_eq_true rfl) (Or.inl ⟨c2, rfl, rfl⟩)
    · refine aw_iload_n (pc' := 6) dX12_in_5 rfl rfl ?_
      refine aw_iload_n (pc' := 7) dX12_in_6 rfl rfl ?_
      refine aw_cgt (tgt := 14) (pc' := 10) dX12_in_7 (by decide) rfl (fun c3 => ?_) (fun c3 => ?_)
      · refine aw_iconst (v := 0) (pc' := 15) dX12_in_14 rfl (by decide) ?_
        exact aw_ri dX12_in_15 rfl (by decide) (Nat.le_of_ble_eq_true rfl) (Nat.le_of_ble_eq_true rfl) (Or.inr (Or.inl ⟨c2, c3, rfl, rfl⟩))
      · refine aw_iconst (v := 1) (pc' := 11) dX12_in_10 rfl (by decide) ?_
        refine aw_goto (tgt := 15) dX12_in_11 (by decide) ?_
        exact aw_ri dX12_in_15 rfl (by decide) (Nat.le_of_ble_eq_true rfl) (Nat.le_of_ble_eq_true rfl) (Or.inr (Or.inr ⟨c2, c3, rfl, rfl⟩))
  refine aw_callSi (M' := mX12_in) (nc' := 0) (ns' := 0) (pc' := 8) dX12_last_5 rfl ml_RX12_230 kX12_in cc1 rfl rfl (Nat.le_of_ble_eq_true rfl) (rok rfl) rfl rfl (fun r9 h9 q9 => ?_)
  rcases q9 with ⟨c4, rfl, rfl⟩ | ⟨c5, c6, rfl, rfl⟩ | ⟨c7, c8, rfl, rfl⟩
  · refine aw_if_eq (tgt := 21) (pc' := 11) dX12_last_8 (by decide) rfl (fun _ => ?_) (fun c => absurd (by decide) c)
    refine aw_iconst (v := (-1)) (pc' := 22) dX12_last_21 rfl (by decide) ?_
    exact aw_ri dX12_last_22 rfl rfl (Nat.le_of_ble_eq_true rfl) (Nat.le_of_ble_eq_true rfl) (by first | (simp [sp_last, cnd, okC, okS, okW_iff, okN_iff, inR, c4]; done) | (simp_all [sp_last, cnd, okC, okS, okW_iff, okN_iff, inR]; done) | skip)
  · refine aw_if_eq (tgt := 21) (pc' := 11) dX12_last_8 (by decide) rfl (fun _ => ?_) (fun c => absurd (by decide) c)
    refine aw_iconst (v := (-1)) (pc' := 22) dX12_last_21 rfl (by decide) ?_
    exact aw_ri dX12_last_22 rfl rfl (Nat.le_of_ble_eq_true rfl) (Nat.le_of_ble_eq_true rfl) (by first | (simp [sp_last, cnd, okC, okS, okW_iff, okN_iff, inR, c5, c6]; done) | (simp_all [sp_last, cnd, okC, okS, okW_iff, okN_iff, inR]; done) | skip)
  · refine aw_if_eq (tgt := 21) (pc' := 11) dX12_last_8 (by decide) rfl (fun c => absurd c (by decide)) (fun _ => ?_)
    refine aw_iload_n (pc' := 12) dX12_last_11 rfl rfl ?_
    refine aw_iconst (v := 0) (pc' := 13) dX12_last_12 rfl (by decide) ?_
    refine aw_bipush (v := 9) (pc' := 15) dX12_last_13 rfl (by decide) ?_
    have cc10 : AM mX12_in 0 [.int n, .int 0, .int 9] h 0 0 (PI fun r h' => (n < 0 ∧ 0 = r ∧ h = h') ∨ (¬ (n < 0) ∧ 9 < n ∧ 0 = r ∧ h = h') ∨ (¬ (n < 0) ∧ ¬ (9 < n) ∧ 1 = r ∧ h = h')) := by
      refine am_of (lv := [some (.int n), some (.int 0), some (.int 9)]) rfl (Nat.le_of_ble_eq_true rfl) rfl ?_
      refine aw_iload_n (pc' := 1) dX12_in_0 rfl rfl ?_
      refine aw_iload_n (pc' := 2) dX12_in_1 rfl rfl ?_
      refine aw_clt (tgt := 14) (pc' := 5) dX12_in_2 (by decide) rfl (fun c11 => ?_) (fun c11 => ?_)
      · refine aw_iconst (v := 0) (pc' := 15) dX12_in_14 rfl (by decide) ?_
        exact aw_ri dX12_in_15 rfl (by decide) (Nat.le_of_ble_eq_true rfl) (Nat.le_of_ble_eq_true rfl) (Or.inl ⟨c11, rfl, rfl⟩)
      · refine aw_iload_n (pc' := 6) dX12_in_5 rfl rfl ?_
        refine aw_iload_n (pc' := 7) dX12_in_6 rfl rfl ?_
        refine aw_cgt (tgt := 14) (pc' := 10) dX12_in_7 (by decide) rfl (fun c12 => ?_) (fun c12 => ?_)
        · refine aw_iconst (v := 0) (pc' := 15) dX12_in_14 rfl (by decide) ?_
          exact aw_ri dX12_in_15 rfl (by decide) (Nat.le_of_ble_eq_true rfl) (Nat.le_of_ble_eq_true rfl) (Or.inr (Or.inl ⟨c11, c12, rfl, rfl⟩))
        · refine aw_iconst (v := 1) (pc' := 11) dX12_in_10 rfl (by decide) ?_
          refine aw_goto (tgt := 15) dX12_in_11 (by decide) ?_
          exact aw_ri dX12_in_15 rfl (by decide) (Nat.le_of_ble_eq_true rfl) (Nat.le_of_ble_eq_true rfl) (Or.inr (Or.inr ⟨c11, c12, rfl, rfl⟩))
    refine aw_callSi (M' := mX12_in) (nc' := 0) (ns' := 0) (pc' := 18) dX12_last_15 rfl ml_RX12_230 kX12_in cc10 rfl rfl (Nat.le_of_ble_eq_true rfl) (rok rfl) rfl rfl (fun r18 h18 q18 => ?_)
    rcases q18 with ⟨c13, rfl, rfl⟩ | ⟨c14, c15, rfl, rfl⟩ | ⟨c16, c17, rfl, rfl⟩
    · refine aw_if_ne (tgt := 23) (pc' := 21) dX12_last_18 (by decide) rfl (fun c => absurd (by decide) c) (fun _ => ?_)
      refine aw_iconst (v := (-1)) (pc' := 22) dX12_last_21 rfl (by decide) ?_
      exact aw_ri dX12_last_22 rfl rfl (Nat.le_of_ble_eq_true rfl) (Nat.le_of_ble_eq_true rfl) (by first | (simp [sp_last, cnd, okC, okS, okW_iff, okN_iff, inR, c7, c8, c13]; done) | (simp_all [sp_last, cnd, okC, okS, okW_iff, okN_iff, inR]; done) | skip)
    · refine aw_if_ne (tgt := 23) (pc' := 21) dX12_last_18 (by decide) rfl (fun c => absurd (by decide) c) (fun _ => ?_)
      refine aw_iconst (v := (-1)) (pc' := 22) dX12_last_21 rfl (by decide) ?_
      exact aw_ri dX12_last_22 rfl rfl (Nat.le_of_ble_eq_true rfl) (Nat.le_of_ble_eq_true rfl) (by first | (simp [sp_last, cnd, okC, okS, okW_iff, okN_iff, inR, c7, c8, c14, c15]; done) | (simp_all [sp_last, cnd, okC, okS, okW_iff, okN_iff, inR]; done) | skip)
    · refine aw_if_ne (tgt := 23) (pc' := 21) dX12_last_18 (by decide) rfl (fun _ => ?_) (fun c => absurd c (by decide))
      refine aw_aload_n (pc' := 24) dX12_last_23 rfl rfl rfl ?_
      have cc19 : AM mX12_menBelow 0 [.ref 67] h 0 0 (PI fun r h' => (0 = r ∧ h = h')) := by
        refine am_of (lv := [some (.ref 67), none, none]) rfl (Nat.le_of_ble_eq_true rfl) rfl ?_
        refine aw_iconst (v := 0) (pc' := 1) dX12_menBelow_0 rfl (by decide) ?_
        refine aw_istore_n (lv' := [_, _, _]) (pc' := 2) dX12_menBelow_1 rfl (Nat.le_of_ble_eq_true rfl) rfl ?_
        refine aw_iconst (v := 0) (pc' := 3) dX12_menBelow_2 rfl (by decide) ?_
        refine aw_istore_n (lv' := [_, _, _]) (pc' := 4) dX12_menBelow_3 rfl (Nat.le_of_ble_eq_true rfl) rfl ?_
        refine aw_iload_n (pc' := 5) dX12_menBelow_4 rfl rfl ?_
        refine aw_aload_n (pc' := 6) dX12_menBelow_5 rfl rfl rfl ?_
        refine aw_get clsAll (pc' := 9) dX12_menBelow_6 rfl fl_RX12_242 hm.1 rfl ?_
        refine aw_cge (tgt := 35) (pc' := 12) dX12_menBelow_9 (by decide) rfl (fun _ => ?_) (fun c => absurd c (by decide))
        refine aw_iload_n (pc' := 36) dX12_menBelow_35 rfl rfl ?_
        exact aw_ri dX12_menBelow_36 rfl rfl (Nat.le_of_ble_eq_true rfl) (Nat.le_of_ble_eq_true rfl) ⟨rfl, rfl⟩
      refine aw_callVi (M' := mX12_menBelow) (nc' := 0) (ns' := 0) (pc' := 27) dX12_last_24 rfl ml_RX12_394 kX12_menBelow cc19 hm.1 rfl rfl rfl (Nat.le_of_ble_eq_true rfl) (rok rfl) rfl rfl (fun r20 h20 q20 => ?_)
      obtain ⟨rfl, rfl⟩ := q20
      refine aw_if_ne (tgt := 35) (pc' := 30) dX12_last_27 (by decide) rfl (fun c => absurd (by decide) c) (fun _ => ?_)
      refine aw_bipush (v := (-2)) (pc' := 32) dX12_last_30 rfl (by decide) ?_
      refine aw_goto (tgt := 41) dX12_last_32 (by decide) ?_
      exact aw_ri dX12_last_41 rfl rfl (Nat.le_of_ble_eq_true rfl) (Nat.le_of_ble_eq_true rfl) (by first | (simp [sp_last, cnd, okC, okS, okW_iff, okN_iff, inR, c7, c8, c16, c17]; done) | (simp_all [sp_last, cnd, okC, okS, okW_iff, okN_iff, inR]; done) | skip)
set_option maxRecDepth 4000 in
theorem m_best (h : List aE) (hm : Fm 0 h) (s : Int32) : AM mX12_best 1 [.ref 67, .int s] h 0 0 (PI fun r h' => r = sp_best s) := by
  refine am_of (lv := [some (.ref 67), some (.int s), none, none]) rfl (Nat.le_of_ble_eq_true rfl) rfl ?_
  refine aw_iload_n (pc' := 1) dX12_best_0 rfl rfl ?_
  refine aw_iconst (v := 0) (pc' := 2) dX12_best_1 rfl (by decide) ?_
  refine aw_sipush (v := 999) (pc' := 5) dX12_best_2 rfl (by decide) ?_
  have cc1 : AM mX12_in 0 [.int s, .int 0, .int 999] h 0 0 (PI fun r h' => (s < 0 ∧ 0 = r ∧ h = h') ∨ (¬ (s < 0) ∧ 999 < s ∧ 0 = r ∧ h = h') ∨ (¬ (s < 0) ∧ ¬ (999 < s) ∧ 1 = r ∧ h = h')) := by
    refine am_of (lv := [some (.int s), some (.int 0), some (.int 999)]) rfl (Nat.le_of_ble_eq_true rfl) rfl ?_
    refine aw_iload_n (pc' := 1) dX12_in_0 rfl rfl ?_
    refine aw_iload_n (pc' := 2) dX12_in_1 rfl rfl ?_
    refine aw_clt (tgt := 14) (pc' := 5) dX12_in_2 (by decide) rfl (fun c2 => ?_) (fun c2 => ?_)
    · refine aw_iconst (v := 0) (pc' := 15) dX12_in_14 rfl (by decide) ?_
      exact aw_ri dX12_in_15 rfl (by decide) (Nat.le_of_ble_eq_true rfl) (Nat.le_of_ble_eq_true rfl) (Or.inl ⟨c2, rfl, rfl⟩)
    · refine aw_iload_n (pc' := 6) dX12_in_5 rfl rfl ?_
      refine aw_iload_n (pc' := 7) dX12_in_6 rfl rfl ?_
      refine aw_cgt (tgt := 14) (pc' := 10) dX12_in_7 (by decide) rfl (fun c3 => ?_) (fun c3 => ?_)
      · refine aw_iconst (v := 0) (pc' := 15) dX12_in_14 rfl (by decide) ?_
        exact aw_ri dX12_in_15 rfl (by decide) (Nat.le_of_ble_eq_true rfl) (Nat.le_of_ble_eq_true rfl) (Or.inr (Or.inl ⟨c2, c3, rfl, rfl⟩))
      · refine aw_iconst (v := 1) (pc' := 11) dX12_in_10 rfl (by decide) ?_
        refine aw_goto (tgt := 15) dX12_in_11 (by decide) ?_
        exact aw_ri dX12_in_15 rfl (by decide) (Nat.le_of_ble_eq_true rfl) (Nat.le_of_ble_eq_true rfl) (Or.inr (Or.inr ⟨c2, c3, rfl, rfl⟩))
  refine aw_callSi (M' := mX12_in) (nc' := 0) (ns' := 0) (pc' := 8) dX12_best_5 rfl ml_RX12_230 kX12_in cc1 rfl rfl (Nat.le_of_ble_eq_true rfl) (rok rfl) rfl rfl (fun r9 h9 q9 => ?_)
  rcases q9 with ⟨c4, rfl, rfl⟩ | ⟨c5, c6, rfl, rfl⟩ | ⟨c7, c8, rfl, rfl⟩
  · refine aw_if_ne (tgt := 13) (pc' := 11) dX12_best_8 (by decide) rfl (fun c => absurd (by decide) c) (fun _ => ?_)
    refine aw_iconst (v := (-1)) (pc' := 12) dX12_best_11 rfl (by decide) ?_
    exact aw_ri dX12_best_12 rfl rfl (Nat.le_of_ble_eq_true rfl) (Nat.le_of_ble_eq_true rfl) (by first | (simp [sp_best, cnd, okC, okS, okW_iff, okN_iff, inR, c4]; done) | (simp_all [sp_best, cnd, okC, okS, okW_iff, okN_iff, inR]; done) | skip)
  · refine aw_if_ne (tgt := 13) (pc' := 11) dX12_best_8 (by decide) rfl (fun c => absurd (by decide) c) (fun _ => ?_)
    refine aw_iconst (v := (-1)) (pc' := 12) dX12_best_11 rfl (by decide) ?_
    exact aw_ri dX12_best_12 rfl rfl (Nat.le_of_ble_eq_true rfl) (Nat.le_of_ble_eq_true rfl) (by first | (simp [sp_best, cnd, okC, okS, okW_iff, okN_iff, inR, c5, c6]; done) | (simp_all [sp_best, cnd, okC, okS, okW_iff, okN_iff, inR]; done) | skip)
  · refine aw_if_ne (tgt := 13) (pc' := 11) dX12_best_8 (by decide) rfl (fun _ => ?_) (fun c => absurd c (by decide))
    refine aw_aload_n (pc' := 14) dX12_best_13 rfl rfl rfl ?_
    have cc10 : AM mX12_menBelow 0 [.ref 67] h 0 0 (PI fun r h' => (0 = r ∧ h = h')) := by
      refine am_of (lv := [some (.ref 67), none, none]) rfl (Nat.le_of_ble_eq_true rfl) rfl ?_
      refine aw_iconst (v := 0) (pc' := 1) dX12_menBelow_0 rfl (by decide) ?_
      refine aw_istore_n (lv' := [_, _, _]) (pc' := 2) dX12_menBelow_1 rfl (Nat.le_of_ble_eq_true rfl) rfl ?_
      refine aw_iconst (v := 0) (pc' := 3) dX12_menBelow_2 rfl (by decide) ?_
      refine aw_istore_n (lv' := [_, _, _]) (pc' := 4) dX12_menBelow_3 rfl (Nat.le_of_ble_eq_true rfl) rfl ?_
      refine aw_iload_n (pc' := 5) dX12_menBelow_4 rfl rfl ?_
      refine aw_aload_n (pc' := 6) dX12_menBelow_5 rfl rfl rfl ?_
      refine aw_get clsAll (pc' := 9) dX12_menBelow_6 rfl fl_RX12_242 hm.1 rfl ?_
      refine aw_cge (tgt := 35) (pc' := 12) dX12_menBelow_9 (by decide) rfl (fun _ => ?_) (fun c => absurd c (by decide))
      refine aw_iload_n (pc' := 36) dX12_menBelow_35 rfl rfl ?_
      exact aw_ri dX12_menBelow_36 rfl rfl (Nat.le_of_ble_eq_true rfl) (Nat.le_of_ble_eq_true rfl) ⟨rfl, rfl⟩
    refine aw_callVi (M' := mX12_menBelow) (nc' := 0) (ns' := 0) (pc' := 17) dX12_best_14 rfl ml_RX12_394 kX12_menBelow cc10 hm.1 rfl rfl rfl (Nat.le_of_ble_eq_true rfl) (rok rfl) rfl rfl (fun r11 h11 q11 => ?_)
    obtain ⟨rfl, rfl⟩ := q11
    refine aw_if_ne (tgt := 23) (pc' := 20) dX12_best_17 (by decide) rfl (fun c => absurd (by decide) c) (fun _ => ?_)
    refine aw_bipush (v := (-2)) (pc' := 22) dX12_best_20 rfl (by decide) ?_
    exact aw_ri dX12_best_22 rfl rfl (Nat.le_of_ble_eq_true rfl) (Nat.le_of_ble_eq_true rfl) (by first | (simp [sp_best, cnd, okC, okS, okW_iff, okN_iff, inR, c7, c8]; done) | (simp_all [sp_best, cnd, okC, okS, okW_iff, okN_iff, inR]; done) | skip)
set_option maxRecDepth 4000 in
theorem m_down (h : List aE) (hm : Fm 0 h) (b : Int32) (w : Int32) (t : Int32) : AM mX12_down 2 [.ref 67, .int b, .int w, .int t] h 0 0 (PI fun r h' => r = sp_down b w t) := by
  refine am_of (lv := [some (.ref 67), some (.int b), some (.int w), some (.int t), none, none]) rfl (Nat.le_of_ble_eq_true rfl) rfl ?_
  refine aw_aload_n (pc' := 1) dX12_down_0 rfl rfl rfl ?_
  refine aw_iload_n (pc' := 2) dX12_down_1 rfl rfl ?_
  have cc1 : AM mX12_isBody 1 [.ref 67, .int b] h 0 0 (PI fun r h' => (b < 0 ∧ 0 = r ∧ h = h') ∨ (¬ (b < 0) ∧ 0 = r ∧ h = h')) := by
    refine am_of (lv := [some (.ref 67), some (.int b)]) rfl (Nat.le_of_ble_eq_true rfl) rfl ?_
    refine aw_iload_n (pc' := 1) dX12_isBody_0 rfl rfl ?_
    refine aw_iconst (v := 0) (pc' := 2) dX12_isBody_1 rfl (by decide) ?_
    refine aw_aload_n (pc' := 3) dX12_isBody_2 rfl rfl rfl ?_
    refine aw_get clsAll (pc' := 6) dX12_isBody_3 rfl fl_RX12_242 hm.1 rfl ?_
    refine aw_iconst (v := 1) (pc' := 7) dX12_isBody_6 rfl (by decide) ?_
    refine aw_isub (pc' := 8) dX12_isBody_7 rfl ?_
    refine aw_topi (v := (-1)) (by decide) ?_
    have cc2 : AM mX12_in 0 [.int b, .int 0, .int (-1)] h 0 0 (PI fun r h' => (b < 0 ∧ 0 = r ∧ h = h') ∨ (¬ (b < 0) ∧ 0 = r ∧ h = h')) := by
      refine am_of (lv := [some (.int b), some (.int 0), some (.int (-1))]) rfl (Nat.le_of_ble_eq_true rfl) rfl ?_
      refine aw_iload_n (pc' := 1) dX12_in_0 rfl rfl ?_
      refine aw_iload_n (pc' := 2) dX12_in_1 rfl rfl ?_
      refine aw_clt (tgt := 14) (pc' := 5) dX12_in_2 (by decide) rfl (fun c3 => ?_) (fun c3 => ?_)
      · refine aw_iconst (v := 0) (pc' := 15) dX12_in_14 rfl (by decide) ?_
        exact aw_ri dX12_in_15 rfl (by decide) (Nat.le_of_ble_eq_true rfl) (Nat.le_of_ble_eq_true rfl) (Or.inl ⟨c3, rfl, rfl⟩)
      · refine aw_iload_n (pc' := 6) dX12_in_5 rfl rfl ?_
        refine aw_iload_n (pc' := 7) dX12_in_6 rfl rfl ?_
        refine aw_cgt (tgt := 14) (pc' := 10) dX12_in_7 (by decide) rfl (fun _ => ?_) (fun c => absurd (bt1 c3 (by decide)) c)
        refine aw_iconst (v := 0) (pc' := 15) dX12_in_14 rfl (by decide) ?_
        exact aw_ri dX12_in_15 rfl (by decide) (Nat.le_of_ble_eq_true rfl) (Nat.le_of_ble_eq_true rfl) (Or.inr ⟨c3, rfl, rfl⟩)
    refine aw_callSi (M' := mX12_in) (nc' := 0) (ns' := 0) (pc' := 11) dX12_isBody_8 rfl ml_RX12_230 kX12_in cc2 rfl rfl (Nat.le_of_ble_eq_true rfl) (rok rfl) rfl rfl (fun r6 h6 q6 => ?_)
    rcases q6 with ⟨c4, rfl, rfl⟩ | ⟨c5, rfl, rfl⟩
    · exact aw_ri dX12_isBody_11 rfl (by decide) (Nat.le_of_ble_eq_true rfl) (Nat.le_of_ble_eq_true rfl) (Or.inl ⟨c4, rfl, rfl⟩)
    · exact aw_ri dX12_isBody_11 rfl (by decide) (Nat.le_of_ble_eq_true rfl) (Nat.le_of_ble_eq_true rfl) (Or.inr ⟨c5, rfl, rfl⟩)
  refine aw_callVi (M' := mX12_isBody) (nc' := 0) (ns' := 0) (pc' := 5) dX12_down_2 rfl ml_RX12_245 kX12_isBody cc1 hm.1 rfl rfl rfl (Nat.le_of_ble_eq_true rfl) (rok rfl) rfl rfl (fun r9 h9 q9 => ?_)
  rcases q9 with ⟨c7, rfl, rfl⟩ | ⟨c8, rfl, rfl⟩
  · refine aw_if_eq (tgt := 28) (pc' := 8) dX12_down_5 (by decide) rfl (fun _ => ?_) (fun c => absurd (by decide) c)
    refine aw_iconst (v := (-1)) (pc' := 29) dX12_down_28 rfl (by decide) ?_
    exact aw_ri dX12_down_29 rfl rfl (Nat.le_of_ble_eq_true rfl) (Nat.le_of_ble_eq_true rfl) (by first | (simp [sp_down, cnd, okC, okS, okW_iff, okN_iff, inR, c7]; done) | (simp_all [sp_down, cnd, okC, okS, okW_iff, okN_iff, inR]; done) | skip)
  · refine aw_if_eq (tgt := 28) (pc' := 8) dX12_down_5 (by decide) rfl (fun _ => ?_) (fun c => absurd (by decide) c)
    refine aw_iconst (v := (-1)) (pc' := 29) dX12_down_28 rfl (by decide) ?_
    exact aw_ri dX12_down_29 rfl rfl (Nat.le_of_ble_eq_true rfl) (Nat.le_of_ble_eq_true rfl) (by first | (simp [sp_down, cnd, okC, okS, okW_iff, okN_iff, inR, c8]; done) | (simp_all [sp_down, cnd, okC, okS, okW_iff, okN_iff, inR]; done) | skip)
set_option maxRecDepth 4000 in
theorem m_below (h : List aE) (hm : Fm 0 h) (s : Int32) : AM mX12_below 1 [.ref 67, .int s] h 0 0 (PI fun r h' => r = sp_below s) := by
  refine am_of (lv := [some (.ref 67), some (.int s)]) rfl (Nat.le_of_ble_eq_true rfl) rfl ?_
  refine aw_iload_n (pc' := 1) dX12_below_0 rfl rfl ?_
  refine aw_iconst (v := 0) (pc' := 2) dX12_below_1 rfl (by decide) ?_
  refine aw_bipush (v := 9) (pc' := 4) dX12_below_2 rfl (by decide) ?_
  have cc1 : AM mX12_in 0 [.int s, .int 0, .int 9] h 0 0 (PI fun r h' => (s < 0 ∧ 0 = r ∧ h = h') ∨ (¬ (s < 0) ∧ 9 < s ∧ 0 = r ∧ h = h') ∨ (¬ (s < 0) ∧ ¬ (9 < s) ∧ 1 = r ∧ h = h')) := by
    refine am_of (lv := [some (.int s), some (.int 0), some (.int 9)]) rfl (Nat.le_of_ble_eq_true rfl) rfl ?_
    refine aw_iload_n (pc' := 1) dX12_in_0 rfl rfl ?_
    refine aw_iload_n (pc' := 2) dX12_in_1 rfl rfl ?_
    refine aw_clt (tgt := 14) (pc' := 5) dX12_in_2 (by decide) rfl (fun c2 => ?_) (fun c2 => ?_)
    · refine aw_iconst (v := 0) (pc' := 15) dX12_in_14 rfl (by decide) ?_
      exact aw_ri dX12_in_15 rfl (by decide) (Nat.le_of_ble_eq_true rfl) (Nat.le_of_ble_eq_true rfl) (Or.inl ⟨c2, rfl, rfl⟩)
    · refine aw_iload_n (pc' := 6) dX12_in_5 rfl rfl ?_
      refine aw_iload_n (pc' := 7) dX12_in_6 rfl rfl ?_
      refine aw_cgt (tgt := 14) (pc' := 10) dX12_in_7 (by decide) rfl (fun c3 => ?_) (fun c3 => ?_)
      · refine aw_iconst (v := 0) (pc' := 15) dX12_in_14 rfl (by decide) ?_
        exact aw_ri dX12_in_15 rfl (by decide) (Nat.le_of_ble_eq_true rfl) (Nat.le_of_ble_eq_true rfl) (Or.inr (Or.inl ⟨c2, c3, rfl, rfl⟩))
      · refine aw_iconst (v := 1) (pc' := 11) dX12_in_10 rfl (by decide) ?_
        refine aw_goto (tgt := 15) dX12_in_11 (by decide) ?_
        exact aw_ri dX12_in_15 rfl (by decide) (Nat.le_of_ble_eq_true rfl) (Nat.le_of_ble_eq_true rfl) (Or.inr (Or.inr ⟨c2, c3, rfl, rfl⟩))
  refine aw_callSi (M' := mX12_in) (nc' := 0) (ns' := 0) (pc' := 7) dX12_below_4 rfl ml_RX12_230 kX12_in cc1 rfl rfl (Nat.le_of_ble_eq_true rfl) (rok rfl) rfl rfl (fun r9 h9 q9 => ?_)
  rcases q9 with ⟨c4, rfl, rfl⟩ | ⟨c5, c6, rfl, rfl⟩ | ⟨c7, c8, rfl, rfl⟩
  · refine aw_if_ne (tgt := 14) (pc' := 10) dX12_below_7 (by decide) rfl (fun c => absurd (by decide) c) (fun _ => ?_)
    refine aw_iconst (v := (-1)) (pc' := 11) dX12_below_10 rfl (by decide) ?_
    refine aw_goto (tgt := 31) dX12_below_11 (by decide) ?_
    exact aw_ri dX12_below_31 rfl rfl (Nat.le_of_ble_eq_true rfl) (Nat.le_of_ble_eq_true rfl) (by first | (simp [sp_below, cnd, okC, okS, okW_iff, okN_iff, inR, c4]; done) | (simp_all [sp_below, cnd, okC, okS, okW_iff, okN_iff, inR]; done) | skip)
  · refine aw_if_ne (tgt := 14) (pc' := 10) dX12_below_7 (by decide) rfl (fun c => absurd (by decide) c) (fun _ => ?_)
    refine aw_iconst (v := (-1)) (pc' := 11) dX12_below_10 rfl (by decide) ?_
    refine aw_goto (tgt := 31) dX12_below_11 (by decide) ?_
    exact aw_ri dX12_below_31 rfl rfl (Nat.le_of_ble_eq_true rfl) (Nat.le_of_ble_eq_true rfl) (by first | (simp [sp_below, cnd, okC, okS, okW_iff, okN_iff, inR, c5, c6]; done) | (simp_all [sp_below, cnd, okC, okS, okW_iff, okN_iff, inR]; done) | skip)
  · refine aw_if_ne (tgt := 14) (pc' := 10) dX12_below_7 (by decide) rfl (fun _ => ?_) (fun c => absurd c (by decide))
    refine aw_iload_n (pc' := 15) dX12_below_14 rfl rfl ?_
    refine aw_if_ne (tgt := 25) (pc' := 18) dX12_below_15 (by decide) rfl (fun c10 => ?_) (fun c10 => ?_)
    · refine aw_aload_n (pc' := 26) dX12_below_25 rfl rfl rfl ?_
      refine aw_get clsAll (pc' := 29) dX12_below_26 rfl fl_RX12_154 hm.1 rfl ?_
      refine aw_iload_n (pc' := 30) dX12_below_29 rfl rfl ?_
      refine aw_iald (v := 0) (pc' := 31) dX12_below_30 rfl ((hm.2 105 (by decide) (by decide)).trans h0_105) (ix_ (hi := 9) (b := 9) rfl (by decide) c7 c8) rfl ?_
      exact aw_ri dX12_below_31 rfl rfl (Nat.le_of_ble_eq_true rfl) (Nat.le_of_ble_eq_true rfl) (by first | (simp [sp_below, cnd, okC, okS, okW_iff, okN_iff, inR, c7, c8, c10]; done) | (simp_all [sp_below, cnd, okC, okS, okW_iff, okN_iff, inR]; done) | skip)
    · refine aw_aload_n (pc' := 19) dX12_below_18 rfl rfl rfl ?_
      refine aw_get clsAll (pc' := 22) dX12_below_19 rfl fl_RX12_397 hm.1 rfl ?_
      refine aw_goto (tgt := 31) dX12_below_22 (by decide) ?_
      exact aw_ri dX12_below_31 rfl rfl (Nat.le_of_ble_eq_true rfl) (Nat.le_of_ble_eq_true rfl) (by first | (simp [sp_below, cnd, okC, okS, okW_iff, okN_iff, inR, c7, c8, c10]; done) | (simp_all [sp_below, cnd, okC, okS, okW_iff, okN_iff, inR]; done) | skip)
set_option maxRecDepth 4000 in
theorem m_need (h : List aE) (hm : Fm 0 h) (w : Int32) (n : Int32) : AM mX12_need 1 [.ref 67, .int w, .int n] h 0 0 (PI fun r h' => r = sp_need w n) := by
  refine am_of (lv := [some (.ref 67), some (.int w), some (.int n)]) rfl (Nat.le_of_ble_eq_true rfl) rfl ?_
  refine aw_iload_n (pc' := 1) dX12_need_0 rfl rfl ?_
  refine aw_zlt (tgt := 34) (pc' := 4) dX12_need_1 (by decide) rfl (fun c1 => ?_) (fun c1 => ?_)
  · refine aw_iconst (v := (-1)) (pc' := 35) dX12_need_34 rfl (by decide) ?_
    exact aw_ri dX12_need_35 rfl rfl (Nat.le_of_ble_eq_true rfl) (Nat.le_of_ble_eq_true rfl) (by first | (simp [sp_need, cnd, okC, okS, okW_iff, okN_iff, inR, c1]; done) | (simp_all [sp_need, cnd, okC, okS, okW_iff, okN_iff, inR]; done) | skip)
  · refine aw_iload_n (pc' := 5) dX12_need_4 rfl rfl ?_
    refine aw_bipush (v := 100) (pc' := 7) dX12_need_5 rfl (by decide) ?_
    refine aw_idiv (pc' := 8) dX12_need_7 rfl (by decide) ?_
    refine aw_iconst (v := 1) (pc' := 9) dX12_need_8 rfl (by decide) ?_
    refine aw_bipush (v := 9) (pc' := 11) dX12_need_9 rfl (by decide) ?_
    have cc2 : AM mX12_in 0 [.int (w / 100), .int 1, .int 9] h 0 0 (PI fun r h' => ((w / 100) < 1 ∧ 0 = r ∧ h = h') ∨ (¬ ((w / 100) < 1) ∧ 9 < (w / 100) ∧ 0 = r ∧ h = h') ∨ (¬ ((w / 100) < 1) ∧ ¬ (9 < (w / 100)) ∧ 1 = r ∧ h = h')) := by
      refine am_of (lv := [some (.int (w / 100)), some (.int 1), some (.int 9)]) rfl (Nat.le_of_ble_eq_true rfl) rfl ?_
      refine aw_iload_n (pc' := 1) dX12_in_0 rfl rfl ?_
      refine aw_iload_n (pc' := 2) dX12_in_1 rfl rfl ?_
      refine aw_clt (tgt := 14) (pc' := 5) dX12_in_2 (by decide) rfl (fun c3 => ?_) (fun c3 => ?_)
      · refine aw_iconst (v := 0) (pc' := 15) dX12_in_14 rfl (by decide) ?_
        exact aw_ri dX12_in_15 rfl (by decide) (Nat.le_of_ble_eq_true rfl) (Nat.le_of_ble_eq_true rfl) (Or.inl ⟨c3, rfl, rfl⟩)
      · refine aw_iload_n (pc' := 6) dX12_in_5 rfl rfl ?_
        refine aw_iload_n (pc' := 7) dX12_in_6 rfl rfl ?_
        refine aw_cgt (tgt := 14) (pc' := 10) dX12_in_7 (by decide) rfl (fun c4 => ?_) (fun c4 => ?_)
        · refine aw_iconst (v := 0) (pc' := 15) dX12_in_14 rfl (by decide) ?_
          exact aw_ri dX12_in_15 rfl (by decide) (Nat.le_of_ble_eq_true rfl) (Nat.le_of_ble_eq_true rfl) (Or.inr (Or.inl ⟨c3, c4, rfl, rfl⟩))
        · refine aw_iconst (v := 1) (pc' := 11) dX12_in_10 rfl (by decide) ?_
          refine aw_goto (tgt := 15) dX12_in_11 (by decide) ?_
          exact aw_ri dX12_in_15 rfl (by decide) (Nat.le_of_ble_eq_true rfl) (Nat.le_of_ble_eq_true rfl) (Or.inr (Or.inr ⟨c3, c4, rfl, rfl⟩))
    refine aw_callSi (M' := mX12_in) (nc' := 0) (ns' := 0) (pc' := 14) dX12_need_11 rfl ml_RX12_230 kX12_in cc2 rfl rfl (Nat.le_of_ble_eq_true rfl) (rok rfl) rfl rfl (fun r10 h10 q10 => ?_)
    rcases q10 with ⟨c5, rfl, rfl⟩ | ⟨c6, c7, rfl, rfl⟩ | ⟨c8, c9, rfl, rfl⟩
    · refine aw_if_eq (tgt := 34) (pc' := 17) dX12_need_14 (by decide) rfl (fun _ => ?_) (fun c => absurd (by decide) c)
      refine aw_iconst (v := (-1)) (pc' := 35) dX12_need_34 rfl (by decide) ?_
      exact aw_ri dX12_need_35 rfl rfl (Nat.le_of_ble_eq_true rfl) (Nat.le_of_ble_eq_true rfl) (by first | (simp [sp_need, cnd, okC, okS, okW_iff, okN_iff, inR, c1, c5]; done) | (simp_all [sp_need, cnd, okC, okS, okW_iff, okN_iff, inR]; done) | skip)
    · refine aw_if_eq (tgt := 34) (pc' := 17) dX12_need_14 (by decide) rfl (fun _ => ?_) (fun c => absurd (by decide) c)
      refine aw_iconst (v := (-1)) (pc' := 35) dX12_need_34 rfl (by decide) ?_
      exact aw_ri dX12_need_35 rfl rfl (Nat.le_of_ble_eq_true rfl) (Nat.le_of_ble_eq_true rfl) (by first | (simp [sp_need, cnd, okC, okS, okW_iff, okN_iff, inR, c1, c6, c7]; done) | (simp_all [sp_need, cnd, okC, okS, okW_iff, okN_iff, inR]; done) | skip)
    · refine aw_if_eq (tgt := 34) (pc' := 17) dX12_need_14 (by decide) rfl (fun c => absurd c (by decide)) (fun _ => ?_)
      refine aw_iload_n (pc' := 18) dX12_need_17 rfl rfl ?_
      refine aw_bipush (v := 100) (pc' := 20) dX12_need_18 rfl (by decide) ?_
      refine aw_irem (pc' := 21) dX12_need_20 rfl (by decide) ?_
      refine aw_if_eq (tgt := 34) (pc' := 24) dX12_need_21 (by decide) rfl (fun c11 => ?_) (fun c11 => ?_)
      · refine aw_iconst (v := (-1)) (pc' := 35) dX12_need_34 rfl (by decide) ?_
        exact aw_ri dX12_need_35 rfl rfl (Nat.le_of_ble_eq_true rfl) (Nat.le_of_ble_eq_true rfl) (by first | (simp [sp_need, cnd, okC, okS, okW_iff, okN_iff, inR, c1, c8, c9, c11]; done) | (simp_all [sp_need, cnd, okC, okS, okW_iff, okN_iff, inR]; done) | skip)
      · refine aw_iload_n (pc' := 25) dX12_need_24 rfl rfl ?_
        refine aw_iconst (v := 0) (pc' := 26) dX12_need_25 rfl (by decide) ?_
        refine aw_bipush (v := 99) (pc' := 28) dX12_need_26 rfl (by decide) ?_
        have cc12 : AM mX12_in 0 [.int n, .int 0, .int 99] h 0 0 (PI fun r h' => (n < 0 ∧ 0 = r ∧ h = h') ∨ (¬ (n < 0) ∧ 99 < n ∧ 0 = r ∧ h = h') ∨ (¬ (n < 0) ∧ ¬ (99 < n) ∧ 1 = r ∧ h = h')) := by
          refine am_of (lv := [some (.int n), some (.int 0), some (.int 99)]) rfl (Nat.le_of_ble_eq_true rfl) rfl ?_
          refine aw_iload_n (pc' := 1) dX12_in_0 rfl rfl ?_
          refine aw_iload_n (pc' := 2) dX12_in_1 rfl rfl ?_
          refine aw_clt (tgt := 14) (pc' := 5) dX12_in_2 (by decide) rfl (fun c13 => ?_) (fun c13 => ?_)
          · refine aw_iconst (v := 0) (pc' := 15) dX12_in_14 rfl (by decide) ?_
            exact aw_ri dX12_in_15 rfl (by decide) (Nat.le_of_ble_eq_true rfl) (Nat.le_of_ble_eq_true rfl) (Or.inl ⟨c13, rfl, rfl⟩)
          · refine aw_iload_n (pc' := 6) dX12_in_5 rfl rfl ?_
            refine aw_iload_n (pc' := 7) dX12_in_6 rfl rfl ?_
            refine aw_cgt (tgt := 14) (pc' := 10) dX12_in_7 (by decide) rfl (fun c14 => ?_) (fun c14 => ?_)
            · refine aw_iconst (v := 0) (pc' := 15) dX12_in_14 rfl (by decide) ?_
              exact aw_ri dX12_in_15 rfl (by decide) (Nat.le_of_ble_eq_true rfl) (Nat.le_of_ble_eq_true rfl) (Or.inr (Or.inl ⟨c13, c14, rfl, rfl⟩))
            · refine aw_iconst (v := 1) (pc' := 11) dX12_in_10 rfl (by decide) ?_
              refine aw_goto (tgt := 15) dX12_in_11 (by decide) ?_
              exact aw_ri dX12_in_15 rfl (by decide) (Nat.le_of_ble_eq_true rfl) (Nat.le_of_ble_eq_true rfl) (Or.inr (Or.inr ⟨c13, c14, rfl, rfl⟩))
        refine aw_callSi (M' := mX12_in) (nc' := 0) (ns' := 0) (pc' := 31) dX12_need_28 rfl ml_RX12_230 kX12_in cc12 rfl rfl (Nat.le_of_ble_eq_true rfl) (rok rfl) rfl rfl (fun r20 h20 q20 => ?_)
        rcases q20 with ⟨c15, rfl, rfl⟩ | ⟨c16, c17, rfl, rfl⟩ | ⟨c18, c19, rfl, rfl⟩
        · refine aw_if_ne (tgt := 36) (pc' := 34) dX12_need_31 (by decide) rfl (fun c => absurd (by decide) c) (fun _ => ?_)
          refine aw_iconst (v := (-1)) (pc' := 35) dX12_need_34 rfl (by decide) ?_
          exact aw_ri dX12_need_35 rfl rfl (Nat.le_of_ble_eq_true rfl) (Nat.le_of_ble_eq_true rfl) (by first | (simp [sp_need, cnd, okC, okS, okW_iff, okN_iff, inR, c1, c8, c9, c11, c15]; done) | (simp_all [sp_need, cnd, okC, okS, okW_iff, okN_iff, inR]; done) | skip)
        · refine aw_if_ne (tgt := 36) (pc' := 34) dX12_need_31 (by decide) rfl (fun c => absurd (by decide) c) (fun _ => ?_)
          refine aw_iconst (v := (-1)) (pc' := 35) dX12_need_34 rfl (by decide) ?_
          exact aw_ri dX12_need_35 rfl rfl (Nat.le_of_ble_eq_true rfl) (Nat.le_of_ble_eq_true rfl) (by first | (simp [sp_need, cnd, okC, okS, okW_iff, okN_iff, inR, c1, c8, c9, c11, c16, c17]; done) | (simp_all [sp_need, cnd, okC, okS, okW_iff, okN_iff, inR]; done) | skip)
        · refine aw_if_ne (tgt := 36) (pc' := 34) dX12_need_31 (by decide) rfl (fun _ => ?_) (fun c => absurd c (by decide))
          refine aw_aload_n (pc' := 37) dX12_need_36 rfl rfl rfl ?_
          refine aw_get clsAll (pc' := 40) dX12_need_37 rfl fl_RX12_431 hm.1 rfl ?_
          refine aw_bipush (v := 10) (pc' := 42) dX12_need_40 rfl (by decide) ?_
          refine aw_icmp_ne (tgt := 48) (pc' := 45) dX12_need_42 (by decide) rfl (fun _ => ?_) (fun c => absurd c (by decide))
          refine aw_aload_n (pc' := 49) dX12_need_48 rfl rfl rfl ?_
          refine aw_get clsAll (pc' := 52) dX12_need_49 rfl fl_RX12_157 hm.1 rfl ?_
          refine aw_aload_n (pc' := 53) dX12_need_52 rfl rfl rfl ?_
          refine aw_get clsAll (pc' := 56) dX12_need_53 rfl fl_RX12_431 hm.1 rfl ?_
          refine aw_iload_n (pc' := 57) dX12_need_56 rfl rfl ?_
          refine aw_bipush (v := 100) (pc' := 59) dX12_need_57 rfl (by decide) ?_
          refine aw_idiv (pc' := 60) dX12_need_59 rfl (by decide) ?_
          refine aw_iastG (pc' := 61) dX12_need_60 rfl ((hm.2 106 (by decide) (by decide)).trans h0_106) (vpc (by decide)) (fun h21 e21 => ?_)
          refine aw_aload_n (pc' := 62) dX12_need_61 rfl rfl rfl ?_
          refine aw_get clsAll (pc' := 65) dX12_need_62 rfl fl_RX12_160 (gsn e21 (by decide) hm.1) rfl ?_
          refine aw_aload_n (pc' := 66) dX12_need_65 rfl rfl rfl ?_
          refine aw_get clsAll (pc' := 69) dX12_need_66 rfl fl_RX12_431 (gsn e21 (by decide) hm.1) rfl ?_
          refine aw_iload_n (pc' := 70) dX12_need_69 rfl rfl ?_
          refine aw_bipush (v := 100) (pc' := 72) dX12_need_70 rfl (by decide) ?_
          refine aw_irem (pc' := 73) dX12_need_72 rfl (by decide) ?_
          refine aw_iastG (pc' := 74) dX12_need_73 rfl (gsn e21 (by decide) ((hm.2 107 (by decide) (by decide)).trans h0_107)) (vpc (by decide)) (fun h22 e22 => ?_)
          refine aw_aload_n (pc' := 75) dX12_need_74 rfl rfl rfl ?_
          refine aw_get clsAll (pc' := 78) dX12_need_75 rfl fl_RX12_163 (gsn e22 (by decide) (gsn e21 (by decide) hm.1)) rfl ?_
          refine aw_aload_n (pc' := 79) dX12_need_78 rfl rfl rfl ?_
          refine aw_get clsAll (pc' := 82) dX12_need_79 rfl fl_RX12_431 (gsn e22 (by decide) (gsn e21 (by decide) hm.1)) rfl ?_
          refine aw_iload_n (pc' := 83) dX12_need_82 rfl rfl ?_
          refine aw_iastG (pc' := 84) dX12_need_83 rfl (gsn e22 (by decide) (gsn e21 (by decide) ((hm.2 108 (by decide) (by decide)).trans h0_108))) (vpc (by decide)) (fun h23 e23 => ?_)
          refine aw_aload_n (pc' := 85) dX12_need_84 rfl rfl rfl ?_
          refine aw_dup (pc' := 86) dX12_need_85 rfl rfl ?_
          refine aw_get clsAll (pc' := 89) dX12_need_86 rfl fl_RX12_431 (gsn e23 (by decide) (gsn e22 (by decide) (gsn e21 (by decide) hm.1))) rfl ?_
          refine aw_iconst (v := 1) (pc' := 90) dX12_need_89 rfl (by decide) ?_
          refine aw_iadd (pc' := 91) dX12_need_90 rfl ?_
          refine aw_topi (v := 1) (by decide) ?_
          refine aw_putG clsAll (pc' := 94) dX12_need_91 rfl fl_RX12_431 (gsn e23 (by decide) (gsn e22 (by decide) (gsn e21 (by decide) hm.1))) (Nat.le_of_ble_eq_true rfl) rfl (fun h24 e24 => ?_)
          refine aw_aload_n (pc' := 95) dX12_need_94 rfl rfl rfl ?_
          refine aw_get clsAll (pc' := 98) dX12_need_95 rfl fl_RX12_431 (gss e24 (gsn e23 (by decide) (gsn e22 (by decide) (gsn e21 (by decide) hm.1)))) rfl ?_
          exact aw_ri dX12_need_98 rfl rfl (Nat.le_of_ble_eq_true rfl) (Nat.le_of_ble_eq_true rfl) (by first | (simp [sp_need, cnd, okC, okS, okW_iff, okN_iff, inR, c1, c8, c9, c11, c18, c19]; done) | (simp_all [sp_need, cnd, okC, okS, okW_iff, okN_iff, inR]; done) | skip)
set_option maxRecDepth 4000 in
theorem m_order (h : List aE) (hm : Fm 0 h)  : AM mX12_order 0 [.ref 67] h 0 0 (PI fun r h' => r = sp_order ) := by
  refine am_of (lv := [some (.ref 67), none, none, none, none]) rfl (Nat.le_of_ble_eq_true rfl) rfl ?_
  refine aw_aload_n (pc' := 1) dX12_order_0 rfl rfl rfl ?_
  refine aw_get clsAll (pc' := 4) dX12_order_1 rfl fl_RX12_431 hm.1 rfl ?_
  refine aw_if_ne (tgt := 9) (pc' := 7) dX12_order_4 (by decide) rfl (fun c => absurd (by decide) c) (fun _ => ?_)
  refine aw_iconst (v := (-1)) (pc' := 8) dX12_order_7 rfl (by decide) ?_
  exact aw_ri dX12_order_8 rfl rfl (Nat.le_of_ble_eq_true rfl) (Nat.le_of_ble_eq_true rfl) (by first | (simp [sp_order, cnd, okC, okS, okW_iff, okN_iff, inR]; done) | (simp_all [sp_order, cnd, okC, okS, okW_iff, okN_iff, inR]; done) | skip)
set_option maxRecDepth 4000 in
theorem m_ordered (h : List aE) (hm : Fm 0 h) (i : Int32) : AM mX12_ordered 1 [.ref 67, .int i] h 0 0 (PI fun r h' => r = sp_ordered i) := by
  refine am_of (lv := [some (.ref 67), some (.int i)]) rfl (Nat.le_of_ble_eq_true rfl) rfl ?_
  refine aw_iload_n (pc' := 1) dX12_ordered_0 rfl rfl ?_
  refine aw_iconst (v := 0) (pc' := 2) dX12_ordered_1 rfl (by decide) ?_
  refine aw_aload_n (pc' := 3) dX12_ordered_2 rfl rfl rfl ?_
  refine aw_get clsAll (pc' := 6) dX12_ordered_3 rfl fl_RX12_169 hm.1 rfl ?_
  refine aw_iconst (v := 1) (pc' := 7) dX12_ordered_6 rfl (by decide) ?_
  refine aw_isub (pc' := 8) dX12_ordered_7 rfl ?_
  refine aw_topi (v := (-2)) (by decide) ?_
  have cc1 : AM mX12_in 0 [.int i, .int 0, .int (-2)] h 0 0 (PI fun r h' => (i < 0 ∧ 0 = r ∧ h = h') ∨ (¬ (i < 0) ∧ 0 = r ∧ h = h')) := by
    refine am_of (lv := [some (.int i), some (.int 0), some (.int (-2))]) rfl (Nat.le_of_ble_eq_true rfl) rfl ?_
    refine aw_iload_n (pc' := 1) dX12_in_0 rfl rfl ?_
    refine aw_iload_n (pc' := 2) dX12_in_1 rfl rfl ?_
    refine aw_clt (tgt := 14) (pc' := 5) dX12_in_2 (by decide) rfl (fun c2 => ?_) (fun c2 => ?_)
    · refine aw_iconst (v := 0) (pc' := 15) dX12_in_14 rfl (by decide) ?_
      exact aw_ri dX12_in_15 rfl (by decide) (Nat.le_of_ble_eq_true rfl) (Nat.le_of_ble_eq_true rfl) (Or.inl ⟨c2, rfl, rfl⟩)
    · refine aw_iload_n (pc' := 6) dX12_in_5 rfl rfl ?_
      refine aw_iload_n (pc' := 7) dX12_in_6 rfl rfl ?_
      refine aw_cgt (tgt := 14) (pc' := 10) dX12_in_7 (by decide) rfl (fun _ => ?_) (fun c => absurd (bt1 c2 (by decide)) c)
      refine aw_iconst (v := 0) (pc' := 15) dX12_in_14 rfl (by decide) ?_
      exact aw_ri dX12_in_15 rfl (by decide) (Nat.le_of_ble_eq_true rfl) (Nat.le_of_ble_eq_true rfl) (Or.inr ⟨c2, rfl, rfl⟩)
  refine aw_callSi (M' := mX12_in) (nc' := 0) (ns' := 0) (pc' := 11) dX12_ordered_8 rfl ml_RX12_230 kX12_in cc1 rfl rfl (Nat.le_of_ble_eq_true rfl) (rok rfl) rfl rfl (fun r5 h5 q5 => ?_)
  rcases q5 with ⟨c3, rfl, rfl⟩ | ⟨c4, rfl, rfl⟩
  · refine aw_if_eq (tgt := 23) (pc' := 14) dX12_ordered_11 (by decide) rfl (fun _ => ?_) (fun c => absurd (by decide) c)
    refine aw_iconst (v := (-1)) (pc' := 24) dX12_ordered_23 rfl (by decide) ?_
    exact aw_ri dX12_ordered_24 rfl rfl (Nat.le_of_ble_eq_true rfl) (Nat.le_of_ble_eq_true rfl) (by first | (simp [sp_ordered, cnd, okC, okS, okW_iff, okN_iff, inR, c3]; done) | (simp_all [sp_ordered, cnd, okC, okS, okW_iff, okN_iff, inR]; done) | skip)
  · refine aw_if_eq (tgt := 23) (pc' := 14) dX12_ordered_11 (by decide) rfl (fun _ => ?_) (fun c => absurd (by decide) c)
    refine aw_iconst (v := (-1)) (pc' := 24) dX12_ordered_23 rfl (by decide) ?_
    exact aw_ri dX12_ordered_24 rfl rfl (Nat.le_of_ble_eq_true rfl) (Nat.le_of_ble_eq_true rfl) (by first | (simp [sp_ordered, cnd, okC, okS, okW_iff, okN_iff, inR, c4]; done) | (simp_all [sp_ordered, cnd, okC, okS, okW_iff, okN_iff, inR]; done) | skip)
set_option maxRecDepth 4000 in
theorem m_watch (h : List aE) (hm : Fm 0 h) (p : Int32) (i : Int32) : AM mX12_watch 1 [.ref 67, .int p, .int i] h 0 0 (PI fun r h' => r = sp_watch p i) := by
  refine am_of (lv := [some (.ref 67), some (.int p), some (.int i), none, none, none]) rfl (Nat.le_of_ble_eq_true rfl) rfl ?_
  refine aw_iload_n (pc' := 1) dX12_watch_0 rfl rfl ?_
  refine aw_iconst (v := 1) (pc' := 2) dX12_watch_1 rfl (by decide) ?_
  refine aw_iconst (v := 3) (pc' := 3) dX12_watch_2 rfl (by decide) ?_
  have cc1 : AM mX12_in 0 [.int p, .int 1, .int 3] h 0 0 (PI fun r h' => (p < 1 ∧ 0 = r ∧ h = h') ∨ (¬ (p < 1) ∧ 3 < p ∧ 0 = r ∧ h = h') ∨ (¬ (p < 1) ∧ ¬ (3 < p) ∧ 1 = r ∧ h = h')) := by
    refine am_of (lv := [some (.int p), some (.int 1), some (.int 3)]) rfl (Nat.le_of_ble_eq_true rfl) rfl ?_
    refine aw_iload_n (pc' := 1) dX12_in_0 rfl rfl ?_
    refine aw_iload_n (pc' := 2) dX12_in_1 rfl rfl ?_
    refine aw_clt (tgt := 14) (pc' := 5) dX12_in_2 (by decide) rfl (fun c2 => ?_) (fun c2 => ?_)
    · refine aw_iconst (v := 0) (pc' := 15) dX12_in_14 rfl (by decide) ?_
      exact aw_ri dX12_in_15 rfl (by decide) (Nat.le_of_ble_eq_true rfl) (Nat.le_of_ble_eq_true rfl) (Or.inl ⟨c2, rfl, rfl⟩)
    · refine aw_iload_n (pc' := 6) dX12_in_5 rfl rfl ?_
      refine aw_iload_n (pc' := 7) dX12_in_6 rfl rfl ?_
      refine aw_cgt (tgt := 14) (pc' := 10) dX12_in_7 (by decide) rfl (fun c3 => ?_) (fun c3 => ?_)
      · refine aw_iconst (v := 0) (pc' := 15) dX12_in_14 rfl (by decide) ?_
        exact aw_ri dX12_in_15 rfl (by decide) (Nat.le_of_ble_eq_true rfl) (Nat.le_of_ble_eq_true rfl) (Or.inr (Or.inl ⟨c2, c3, rfl, rfl⟩))
      · refine aw_iconst (v := 1) (pc' := 11) dX12_in_10 rfl (by decide) ?_
        refine aw_goto (tgt := 15) dX12_in_11 (by decide) ?_
        exact aw_ri dX12_in_15 rfl (by decide) (Nat.le_of_ble_eq_true rfl) (Nat.le_of_ble_eq_true rfl) (Or.inr (Or.inr ⟨c2, c3, rfl, rfl⟩))
  refine aw_callSi (M' := mX12_in) (nc' := 0) (ns' := 0) (pc' := 6) dX12_watch_3 rfl ml_RX12_230 kX12_in cc1 rfl rfl (Nat.le_of_ble_eq_true rfl) (rok rfl) rfl rfl (fun r9 h9 q9 => ?_)
  rcases q9 with ⟨c4, rfl, rfl⟩ | ⟨c5, c6, rfl, rfl⟩ | ⟨c7, c8, rfl, rfl⟩
  · refine aw_if_eq (tgt := 19) (pc' := 9) dX12_watch_6 (by decide) rfl (fun _ => ?_) (fun c => absurd (by decide) c)
    refine aw_iconst (v := (-1)) (pc' := 20) dX12_watch_19 rfl (by decide) ?_
    exact aw_ri dX12_watch_20 rfl rfl (Nat.le_of_ble_eq_true rfl) (Nat.le_of_ble_eq_true rfl) (by first | (simp [sp_watch, cnd, okC, okS, okW_iff, okN_iff, inR, c4]; done) | (simp_all [sp_watch, cnd, okC, okS, okW_iff, okN_iff, inR]; done) | skip)
  · refine aw_if_eq (tgt := 19) (pc' := 9) dX12_watch_6 (by decide) rfl (fun _ => ?_) (fun c => absurd (by decide) c)
    refine aw_iconst (v := (-1)) (pc' := 20) dX12_watch_19 rfl (by decide) ?_
    exact aw_ri dX12_watch_20 rfl rfl (Nat.le_of_ble_eq_true rfl) (Nat.le_of_ble_eq_true rfl) (by first | (simp [sp_watch, cnd, okC, okS, okW_iff, okN_iff, inR, c5, c6]; done) | (simp_all [sp_watch, cnd, okC, okS, okW_iff, okN_iff, inR]; done) | skip)
  · refine aw_if_eq (tgt := 19) (pc' := 9) dX12_watch_6 (by decide) rfl (fun c => absurd c (by decide)) (fun _ => ?_)
    refine aw_iload_n (pc' := 10) dX12_watch_9 rfl rfl ?_
    refine aw_iconst (v := 0) (pc' := 11) dX12_watch_10 rfl (by decide) ?_
    refine aw_bipush (v := 9) (pc' := 13) dX12_watch_11 rfl (by decide) ?_
    have cc10 : AM mX12_in 0 [.int i, .int 0, .int 9] h 0 0 (PI fun r h' => (i < 0 ∧ 0 = r ∧ h = h') ∨ (¬ (i < 0) ∧ 9 < i ∧ 0 = r ∧ h = h') ∨ (¬ (i < 0) ∧ ¬ (9 < i) ∧ 1 = r ∧ h = h')) := by
      refine am_of (lv := [some (.int i), some (.int 0), some (.int 9)]) rfl (Nat.le_of_ble_eq_true rfl) rfl ?_
      refine aw_iload_n (pc' := 1) dX12_in_0 rfl rfl ?_
      refine aw_iload_n (pc' := 2) dX12_in_1 rfl rfl ?_
      refine aw_clt (tgt := 14) (pc' := 5) dX12_in_2 (by decide) rfl (fun c11 => ?_) (fun c11 => ?_)
      · refine aw_iconst (v := 0) (pc' := 15) dX12_in_14 rfl (by decide) ?_
        exact aw_ri dX12_in_15 rfl (by decide) (Nat.le_of_ble_eq_true rfl) (Nat.le_of_ble_eq_true rfl) (Or.inl ⟨c11, rfl, rfl⟩)
      · refine aw_iload_n (pc' := 6) dX12_in_5 rfl rfl ?_
        refine aw_iload_n (pc' := 7) dX12_in_6 rfl rfl ?_
        refine aw_cgt (tgt := 14) (pc' := 10) dX12_in_7 (by decide) rfl (fun c12 => ?_) (fun c12 => ?_)
        · refine aw_iconst (v := 0) (pc' := 15) dX12_in_14 rfl (by decide) ?_
          exact aw_ri dX12_in_15 rfl (by decide) (Nat.le_of_ble_eq_true rfl) (Nat.le_of_ble_eq_true rfl) (Or.inr (Or.inl ⟨c11, c12, rfl, rfl⟩))
        · refine aw_iconst (v := 1) (pc' := 11) dX12_in_10 rfl (by decide) ?_
          refine aw_goto (tgt := 15) dX12_in_11 (by decide) ?_
          exact aw_ri dX12_in_15 rfl (by decide) (Nat.le_of_ble_eq_true rfl) (Nat.le_of_ble_eq_true rfl) (Or.inr (Or.inr ⟨c11, c12, rfl, rfl⟩))
    refine aw_callSi (M' := mX12_in) (nc' := 0) (ns' := 0) (pc' := 16) dX12_watch_13 rfl ml_RX12_230 kX12_in cc10 rfl rfl (Nat.le_of_ble_eq_true rfl) (rok rfl) rfl rfl (fun r18 h18 q18 => ?_)
    rcases q18 with ⟨c13, rfl, rfl⟩ | ⟨c14, c15, rfl, rfl⟩ | ⟨c16, c17, rfl, rfl⟩
    · refine aw_if_ne (tgt := 21) (pc' := 19) dX12_watch_16 (by decide) rfl (fun c => absurd (by decide) c) (fun _ => ?_)
      refine aw_iconst (v := (-1)) (pc' := 20) dX12_watch_19 rfl (by decide) ?_
      exact aw_ri dX12_watch_20 rfl rfl (Nat.le_of_ble_eq_true rfl) (Nat.le_of_ble_eq_true rfl) (by first | (simp [sp_watch, cnd, okC, okS, okW_iff, okN_iff, inR, c7, c8, c13]; done) | (simp_all [sp_watch, cnd, okC, okS, okW_iff, okN_iff, inR]; done) | skip)
    · refine aw_if_ne (tgt := 21) (pc' := 19) dX12_watch_16 (by decide) rfl (fun c => absurd (by decide) c) (fun _ => ?_)
      refine aw_iconst (v := (-1)) (pc' := 20) dX12_watch_19 rfl (by decide) ?_
      exact aw_ri dX12_watch_20 rfl rfl (Nat.le_of_ble_eq_true rfl) (Nat.le_of_ble_eq_true rfl) (by first | (simp [sp_watch, cnd, okC, okS, okW_iff, okN_iff, inR, c7, c8, c14, c15]; done) | (simp_all [sp_watch, cnd, okC, okS, okW_iff, okN_iff, inR]; done) | skip)
    · refine aw_if_ne (tgt := 21) (pc' := 19) dX12_watch_16 (by decide) rfl (fun _ => ?_) (fun c => absurd c (by decide))
      refine aw_iconst (v := 0) (pc' := 22) dX12_watch_21 rfl (by decide) ?_
      refine aw_istore_n (lv' := [_, _, _, _, _, _]) (pc' := 23) dX12_watch_22 rfl (Nat.le_of_ble_eq_true rfl) rfl ?_
      refine aw_iconst (v := 0) (pc' := 24) dX12_watch_23 rfl (by decide) ?_
      refine aw_istore (lv' := [_, _, _, _, _, _]) (pc' := 26) dX12_watch_24 rfl (Nat.le_of_ble_eq_true rfl) rfl ?_
      refine aw_iconst (v := 0) (pc' := 27) dX12_watch_26 rfl (by decide) ?_
      refine aw_istore (lv' := [_, _, _, _, _, _]) (pc' := 29) dX12_watch_27 rfl (Nat.le_of_ble_eq_true rfl) rfl ?_
      refine aw_iload (pc' := 31) dX12_watch_29 rfl rfl ?_
      refine aw_aload_n (pc' := 32) dX12_watch_31 rfl rfl rfl ?_
      refine aw_get clsAll (pc' := 35) dX12_watch_32 rfl fl_RX12_242 hm.1 rfl ?_
      refine aw_cge (tgt := 99) (pc' := 38) dX12_watch_35 (by decide) rfl (fun _ => ?_) (fun c => absurd c (by decide))
      refine aw_iload_n (pc' := 100) dX12_watch_99 rfl rfl ?_
      refine aw_istore (lv' := [_, _, _, _, _, _]) (pc' := 102) dX12_watch_100 rfl (Nat.le_of_ble_eq_true rfl) rfl ?_
      refine aw_iload (pc' := 104) dX12_watch_102 rfl rfl ?_
      refine aw_bipush (v := 9) (pc' := 106) dX12_watch_104 rfl (by decide) ?_
      refine aw_cge (tgt := 124) (pc' := 109) dX12_watch_106 (by decide) rfl (fun c => absurd (by decide) c) (fun _ => ?_)
      refine aw_aload_n (pc' := 110) dX12_watch_109 rfl rfl rfl ?_
      refine aw_get clsAll (pc' := 113) dX12_watch_110 rfl fl_RX12_178 hm.1 rfl ?_
      refine aw_iload (pc' := 115) dX12_watch_113 rfl rfl ?_
      refine aw_bipush (v := (-2)) (pc' := 117) dX12_watch_115 rfl (by decide) ?_
      refine aw_iastG (pc' := 118) dX12_watch_117 rfl ((hm.2 111 (by decide) (by decide)).trans h0_111) (vpc (by decide)) (fun h19 e19 => ?_)
      refine aw_iinc (lv' := [_, _, _, _, _, _]) (pc' := 121) dX12_watch_118 rfl rfl (Nat.le_of_ble_eq_true rfl) rfl ?_
      refine aw_goto (tgt := 102) dX12_watch_121 (by decide) ?_
      refine aw_iload (pc' := 104) dX12_watch_102 rfl rfl ?_
      refine aw_bipush (v := 9) (pc' := 106) dX12_watch_104 rfl (by decide) ?_
      refine aw_cge (tgt := 124) (pc' := 109) dX12_watch_106 (by decide) rfl (fun c => absurd (by decide) c) (fun _ => ?_)
      refine aw_aload_n (pc' := 110) dX12_watch_109 rfl rfl rfl ?_
      refine aw_get clsAll (pc' := 113) dX12_watch_110 rfl fl_RX12_178 (gsn e19 (by decide) hm.1) rfl ?_
      refine aw_iload (pc' := 115) dX12_watch_113 rfl rfl ?_
      refine aw_bipush (v := (-2)) (pc' := 117) dX12_watch_115 rfl (by decide) ?_
      refine aw_iastG (pc' := 118) dX12_watch_117 rfl (gss e19 ((hm.2 111 (by decide) (by decide)).trans h0_111)) (vpc (by decide)) (fun h20 e20 => ?_)
      refine aw_iinc (lv' := [_, _, _, _, _, _]) (pc' := 121) dX12_watch_118 rfl rfl (Nat.le_of_ble_eq_true rfl) rfl ?_
      refine aw_goto (tgt := 102) dX12_watch_121 (by decide) ?_
      refine aw_iload (pc' := 104) dX12_watch_102 rfl rfl ?_
      refine aw_bipush (v := 9) (pc' := 106) dX12_watch_104 rfl (by decide) ?_
      refine aw_cge (tgt := 124) (pc' := 109) dX12_watch_106 (by decide) rfl (fun c => absurd (by decide) c) (fun _ => ?_)
      refine aw_aload_n (pc' := 110) dX12_watch_109 rfl rfl rfl ?_
      refine aw_get clsAll (pc' := 113) dX12_watch_110 rfl fl_RX12_178 (gsn e20 (by decide) (gsn e19 (by decide) hm.1)) rfl ?_
      refine aw_iload (pc' := 115) dX12_watch_113 rfl rfl ?_
      refine aw_bipush (v := (-2)) (pc' := 117) dX12_watch_115 rfl (by decide) ?_
      refine aw_iastG (pc' := 118) dX12_watch_117 rfl (gss e20 (gss e19 ((hm.2 111 (by decide) (by decide)).trans h0_111))) (vpc (by decide)) (fun h21 e21 => ?_)
      refine aw_iinc (lv' := [_, _, _, _, _, _]) (pc' := 121) dX12_watch_118 rfl rfl (Nat.le_of_ble_eq_true rfl) rfl ?_
      refine aw_goto (tgt := 102) dX12_watch_121 (by decide) ?_
      refine aw_iload (pc' := 104) dX12_watch_102 rfl rfl ?_
      refine aw_bipush (v := 9) (pc' := 106) dX12_watch_104 rfl (by decide) ?_
      refine aw_cge (tgt := 124) (pc' := 109) dX12_watch_106 (by decide) rfl (fun c => absurd (by decide) c) (fun _ => ?_)
      refine aw_aload_n (pc' := 110) dX12_watch_109 rfl rfl rfl ?_
      refine aw_get clsAll (pc' := 113) dX12_watch_110 rfl fl_RX12_178 (gsn e21 (by decide) (gsn e20 (by decide) (gsn e19 (by decide) hm.1))) rfl ?_
      refine aw_iload (pc' := 115) dX12_watch_113 rfl rfl ?_
      refine aw_bipush (v := (-2)) (pc' := 117) dX12_watch_115 rfl (by decide) ?_
      refine aw_iastG (pc' := 118) dX12_watch_117 rfl (gss e21 (gss e20 (gss e19 ((hm.2 111 (by decide) (by decide)).trans h0_111)))) (vpc (by decide)) (fun h22 e22 => ?_)
      refine aw_iinc (lv' := [_, _, _, _, _, _]) (pc' := 121) dX12_watch_118 rfl rfl (Nat.le_of_ble_eq_true rfl) rfl ?_
      refine aw_goto (tgt := 102) dX12_watch_121 (by decide) ?_
      refine aw_iload (pc' := 104) dX12_watch_102 rfl rfl ?_
      refine aw_bipush (v := 9) (pc' := 106) dX12_watch_104 rfl (by decide) ?_
      refine aw_cge (tgt := 124) (pc' := 109) dX12_watch_106 (by decide) rfl (fun c => absurd (by decide) c) (fun _ => ?_)
      refine aw_aload_n (pc' := 110) dX12_watch_109 rfl rfl rfl ?_
      refine aw_get clsAll (pc' := 113) dX12_watch_110 rfl fl_RX12_178 (gsn e22 (by decide) (gsn e21 (by decide) (gsn e20 (by decide) (gsn e19 (by decide) hm.1)))) rfl ?_
      refine aw_iload (pc' := 115) dX12_watch_113 rfl rfl ?_
      refine aw_bipush (v := (-2)) (pc' := 117) dX12_watch_115 rfl (by decide) ?_
      refine aw_iastG (pc' := 118) dX12_watch_117 rfl (gss e22 (gss e21 (gss e20 (gss e19 ((hm.2 111 (by decide) (by decide)).trans h0_111))))) (vpc (by decide)) (fun h23 e23 => ?_)
      refine aw_iinc (lv' := [_, _, _, _, _, _]) (pc' := 121) dX12_watch_118 rfl rfl (Nat.le_of_ble_eq_true rfl) rfl ?_
      refine aw_goto (tgt := 102) dX12_watch_121 (by decide) ?_
      refine aw_iload (pc' := 104) dX12_watch_102 rfl rfl ?_
      refine aw_bipush (v := 9) (pc' := 106) dX12_watch_104 rfl (by decide) ?_
      refine aw_cge (tgt := 124) (pc' := 109) dX12_watch_106 (by decide) rfl (fun c => absurd (by decide) c) (fun _ => ?_)
      refine aw_aload_n (pc' := 110) dX12_watch_109 rfl rfl rfl ?_
      refine aw_get clsAll (pc' := 113) dX12_watch_110 rfl fl_RX12_178 (gsn e23 (by decide) (gsn e22 (by decide) (gsn e21 (by decide) (gsn e20 (by decide) (gsn e19 (by decide) hm.1))))) rfl ?_
      refine aw_iload (pc' := 115) dX12_watch_113 rfl rfl ?_
      refine aw_bipush (v := (-2)) (pc' := 117) dX12_watch_115 rfl (by decide) ?_
      refine aw_iastG (pc' := 118) dX12_watch_117 rfl (gss e23 (gss e22 (gss e21 (gss e20 (gss e19 ((hm.2 111 (by decide) (by decide)).trans h0_111)))))) (vpc (by decide)) (fun h24 e24 => ?_)
      refine aw_iinc (lv' := [_, _, _, _, _, _]) (pc' := 121) dX12_watch_118 rfl rfl (Nat.le_of_ble_eq_true rfl) rfl ?_
      refine aw_goto (tgt := 102) dX12_watch_121 (by decide) ?_
      refine aw_iload (pc' := 104) dX12_watch_102 rfl rfl ?_
      refine aw_bipush (v := 9) (pc' := 106) dX12_watch_104 rfl (by decide) ?_
      refine aw_cge (tgt := 124) (pc' := 109) dX12_watch_106 (by decide) rfl (fun c => absurd (by decide) c) (fun _ => ?_)
      refine aw_aload_n (pc' := 110) dX12_watch_109 rfl rfl rfl ?_
      refine aw_get clsAll (pc' := 113) dX12_watch_110 rfl fl_RX12_178 (gsn e24 (by decide) (gsn e23 (by decide) (gsn e22 (by decide) (gsn e21 (by decide) (gsn e20 (by decide) (gsn e19 (by decide) hm.1)))))) rfl ?_
      refine aw_iload (pc' := 115) dX12_watch_113 rfl rfl ?_
      refine aw_bipush (v := (-2)) (pc' := 117) dX12_watch_115 rfl (by decide) ?_
      refine aw_iastG (pc' := 118) dX12_watch_117 rfl (gss e24 (gss e23 (gss e22 (gss e21 (gss e20 (gss e19 ((hm.2 111 (by decide) (by decide)).trans h0_111))))))) (vpc (by decide)) (fun h25 e25 => ?_)
      refine aw_iinc (lv' := [_, _, _, _, _, _]) (pc' := 121) dX12_watch_118 rfl rfl (Nat.le_of_ble_eq_true rfl) rfl ?_
      refine aw_goto (tgt := 102) dX12_watch_121 (by decide) ?_
      refine aw_iload (pc' := 104) dX12_watch_102 rfl rfl ?_
      refine aw_bipush (v := 9) (pc' := 106) dX12_watch_104 rfl (by decide) ?_
      refine aw_cge (tgt := 124) (pc' := 109) dX12_watch_106 (by decide) rfl (fun c => absurd (by decide) c) (fun _ => ?_)
      refine aw_aload_n (pc' := 110) dX12_watch_109 rfl rfl rfl ?_
      refine aw_get clsAll (pc' := 113) dX12_watch_110 rfl fl_RX12_178 (gsn e25 (by decide) (gsn e24 (by decide) (gsn e23 (by decide) (gsn e22 (by decide) (gsn e21 (by decide) (gsn e20 (by decide) (gsn e19 (by decide) hm.1))))))) rfl ?_
      refine aw_iload (pc' := 115) dX12_watch_113 rfl rfl ?_
      refine aw_bipush (v := (-2)) (pc' := 117) dX12_watch_115 rfl (by decide) ?_
      refine aw_iastG (pc' := 118) dX12_watch_117 rfl (gss e25 (gss e24 (gss e23 (gss e22 (gss e21 (gss e20 (gss e19 ((hm.2 111 (by decide) (by decide)).trans h0_111)))))))) (vpc (by decide)) (fun h26 e26 => ?_)
      refine aw_iinc (lv' := [_, _, _, _, _, _]) (pc' := 121) dX12_watch_118 rfl rfl (Nat.le_of_ble_eq_true rfl) rfl ?_
      refine aw_goto (tgt := 102) dX12_watch_121 (by decide) ?_
      refine aw_iload (pc' := 104) dX12_watch_102 rfl rfl ?_
      refine aw_bipush (v := 9) (pc' := 106) dX12_watch_104 rfl (by decide) ?_
      refine aw_cge (tgt := 124) (pc' := 109) dX12_watch_106 (by decide) rfl (fun c => absurd (by decide) c) (fun _ => ?_)
      refine aw_aload_n (pc' := 110) dX12_watch_109 rfl rfl rfl ?_
      refine aw_get clsAll (pc' := 113) dX12_watch_110 rfl fl_RX12_178 (gsn e26 (by decide) (gsn e25 (by decide) (gsn e24 (by decide) (gsn e23 (by decide) (gsn e22 (by decide) (gsn e21 (by decide) (gsn e20 (by decide) (gsn e19 (by decide) hm.1)))))))) rfl ?_
      refine aw_iload (pc' := 115) dX12_watch_113 rfl rfl ?_
      refine aw_bipush (v := (-2)) (pc' := 117) dX12_watch_115 rfl (by decide) ?_
      refine aw_iastG (pc' := 118) dX12_watch_117 rfl (gss e26 (gss e25 (gss e24 (gss e23 (gss e22 (gss e21 (gss e20 (gss e19 ((hm.2 111 (by decide) (by decide)).trans h0_111))))))))) (vpc (by decide)) (fun h27 e27 => ?_)
      refine aw_iinc (lv' := [_, _, _, _, _, _]) (pc' := 121) dX12_watch_118 rfl rfl (Nat.le_of_ble_eq_true rfl) rfl ?_
      refine aw_goto (tgt := 102) dX12_watch_121 (by decide) ?_
      refine aw_iload (pc' := 104) dX12_watch_102 rfl rfl ?_
      refine aw_bipush (v := 9) (pc' := 106) dX12_watch_104 rfl (by decide) ?_
      refine aw_cge (tgt := 124) (pc' := 109) dX12_watch_106 (by decide) rfl (fun _ => ?_) (fun c => absurd c (by decide))
      refine aw_aload_n (pc' := 125) dX12_watch_124 rfl rfl rfl ?_
      refine aw_iload_n (pc' := 126) dX12_watch_125 rfl rfl ?_
      refine aw_putG clsAll (pc' := 129) dX12_watch_126 rfl fl_RX12_175 (gsn e27 (by decide) (gsn e26 (by decide) (gsn e25 (by decide) (gsn e24 (by decide) (gsn e23 (by decide) (gsn e22 (by decide) (gsn e21 (by decide) (gsn e20 (by decide) (gsn e19 (by decide) hm.1))))))))) (Nat.le_of_ble_eq_true rfl) rfl (fun h28 e28 => ?_)
      refine aw_iload_n (pc' := 130) dX12_watch_129 rfl rfl ?_
      exact aw_ri dX12_watch_130 rfl rfl (Nat.le_of_ble_eq_true rfl) (Nat.le_of_ble_eq_true rfl) (by first | (simp [sp_watch, cnd, okC, okS, okW_iff, okN_iff, inR, c7, c8, c16, c17]; done) | (simp_all [sp_watch, cnd, okC, okS, okW_iff, okN_iff, inR]; done) | skip)
set_option maxRecDepth 4000 in
theorem m_watched (h : List aE) (hm : Fm 0 h) (s : Int32) (p : Int32) : AM mX12_watched 1 [.ref 67, .int s, .int p] h 0 0 (PI fun r h' => r = sp_watched s p) := by
  refine am_of (lv := [some (.ref 67), some (.int s), some (.int p)]) rfl (Nat.le_of_ble_eq_true rfl) rfl ?_
  refine aw_iload_n (pc' := 1) dX12_watched_0 rfl rfl ?_
  refine aw_iconst (v := 0) (pc' := 2) dX12_watched_1 rfl (by decide) ?_
  refine aw_iconst (v := 2) (pc' := 3) dX12_watched_2 rfl (by decide) ?_
  have cc1 : AM mX12_in 0 [.int s, .int 0, .int 2] h 0 0 (PI fun r h' => (s < 0 ∧ 0 = r ∧ h = h') ∨ (¬ (s < 0) ∧ 2 < s ∧ 0 = r ∧ h = h') ∨ (¬ (s < 0) ∧ ¬ (2 < s) ∧ 1 = r ∧ h = h')) := by
    refine am_of (lv := [some (.int s), some (.int 0), some (.int 2)]) rfl (Nat.le_of_ble_eq_true rfl) rfl ?_
    refine aw_iload_n (pc' := 1) dX12_in_0 rfl rfl ?_
    refine aw_iload_n (pc' := 2) dX12_in_1 rfl rfl ?_
    refine aw_clt (tgt := 14) (pc' := 5) dX12_in_2 (by decide) rfl (fun c2 => ?_) (fun c2 => ?_)
    · refine aw_iconst (v := 0) (pc' := 15) dX12_in_14 rfl (by decide) ?_
      exact aw_ri dX12_in_15 rfl (by decide) (Nat.le_of_ble_eq_true rfl) (Nat.le_of_ble_eq_true rfl) (Or.inl ⟨c2, rfl, rfl⟩)
    · refine aw_iload_n (pc' := 6) dX12_in_5 rfl rfl ?_
      refine aw_iload_n (pc' := 7) dX12_in_6 rfl rfl ?_
      refine aw_cgt (tgt := 14) (pc' := 10) dX12_in_7 (by decide) rfl (fun c3 => ?_) (fun c3 => ?_)
      · refine aw_iconst (v := 0) (pc' := 15) dX12_in_14 rfl (by decide) ?_
        exact aw_ri dX12_in_15 rfl (by decide) (Nat.le_of_ble_eq_true rfl) (Nat.le_of_ble_eq_true rfl) (Or.inr (Or.inl ⟨c2, c3, rfl, rfl⟩))
      · refine aw_iconst (v := 1) (pc' := 11) dX12_in_10 rfl (by decide) ?_
        refine aw_goto (tgt := 15) dX12_in_11 (by decide) ?_
        exact aw_ri dX12_in_15 rfl (by decide) (Nat.le_of_ble_eq_true rfl) (Nat.le_of_ble_eq_true rfl) (Or.inr (Or.inr ⟨c2, c3, rfl, rfl⟩))
  refine aw_callSi (M' := mX12_in) (nc' := 0) (ns' := 0) (pc' := 6) dX12_watched_3 rfl ml_RX12_230 kX12_in cc1 rfl rfl (Nat.le_of_ble_eq_true rfl) (rok rfl) rfl rfl (fun r9 h9 q9 => ?_)
  rcases q9 with ⟨c4, rfl, rfl⟩ | ⟨c5, c6, rfl, rfl⟩ | ⟨c7, c8, rfl, rfl⟩
  · refine aw_if_eq (tgt := 39) (pc' := 9) dX12_watched_6 (by decide) rfl (fun _ => ?_) (fun c => absurd (by decide) c)
    refine aw_iconst (v := (-1)) (pc' := 40) dX12_watched_39 rfl (by decide) ?_
    exact aw_ri dX12_watched_40 rfl rfl (Nat.le_of_ble_eq_true rfl) (Nat.le_of_ble_eq_true rfl) (by first | (simp [sp_watched, cnd, okC, okS, okW_iff, okN_iff, inR, c4]; done) | (simp_all [sp_watched, cnd, okC, okS, okW_iff, okN_iff, inR]; done) | skip)
  · refine aw_if_eq (tgt := 39) (pc' := 9) dX12_watched_6 (by decide) rfl (fun _ => ?_) (fun c => absurd (by decide) c)
    refine aw_iconst (v := (-1)) (pc' := 40) dX12_watched_39 rfl (by decide) ?_
    exact aw_ri dX12_watched_40 rfl rfl (Nat.le_of_ble_eq_true rfl) (Nat.le_of_ble_eq_true rfl) (by first | (simp [sp_watched, cnd, okC, okS, okW_iff, okN_iff, inR, c5, c6]; done) | (simp_all [sp_watched, cnd, okC, okS, okW_iff, okN_iff, inR]; done) | skip)
  · refine aw_if_eq (tgt := 39) (pc' := 9) dX12_watched_6 (by decide) rfl (fun c => absurd c (by decide)) (fun _ => ?_)
    refine aw_iload_n (pc' := 10) dX12_watched_9 rfl rfl ?_
    refine aw_iconst (v := 0) (pc' := 11) dX12_watched_10 rfl (by decide) ?_
    refine aw_aload_n (pc' := 12) dX12_watched_11 rfl rfl rfl ?_
    refine aw_get clsAll (pc' := 15) dX12_watched_12 rfl fl_RX12_175 hm.1 rfl ?_
    refine aw_iconst (v := 1) (pc' := 16) dX12_watched_15 rfl (by decide) ?_
    refine aw_isub (pc' := 17) dX12_watched_16 rfl ?_
    refine aw_topi (v := (-2)) (by decide) ?_
    have cc10 : AM mX12_in 0 [.int p, .int 0, .int (-2)] h 0 0 (PI fun r h' => (p < 0 ∧ 0 = r ∧ h = h') ∨ (¬ (p < 0) ∧ 0 = r ∧ h = h')) := by
      refine am_of (lv := [some (.int p), some (.int 0), some (.int (-2))]) rfl (Nat.le_of_ble_eq_true rfl) rfl ?_
      refine aw_iload_n (pc' := 1) dX12_in_0 rfl rfl ?_
      refine aw_iload_n (pc' := 2) dX12_in_1 rfl rfl ?_
      refine aw_clt (tgt := 14) (pc' := 5) dX12_in_2 (by decide) rfl (fun c11 => ?_) (fun c11 => ?_)
      · refine aw_iconst (v := 0) (pc' := 15) dX12_in_14 rfl (by decide) ?_
        exact aw_ri dX12_in_15 rfl (by decide) (Nat.le_of_ble_eq_true rfl) (Nat.le_of_ble_eq_true rfl) (Or.inl ⟨c11, rfl, rfl⟩)
      · refine aw_iload_n (pc' := 6) dX12_in_5 rfl rfl ?_
        refine aw_iload_n (pc' := 7) dX12_in_6 rfl rfl ?_
        refine aw_cgt (tgt := 14) (pc' := 10) dX12_in_7 (by decide) rfl (fun _ => ?_) (fun c => absurd (bt1 c11 (by decide)) c)
        refine aw_iconst (v := 0) (pc' := 15) dX12_in_14 rfl (by decide) ?_
        exact aw_ri dX12_in_15 rfl (by decide) (Nat.le_of_ble_eq_true rfl) (Nat.le_of_ble_eq_true rfl) (Or.inr ⟨c11, rfl, rfl⟩)
    refine aw_callSi (M' := mX12_in) (nc' := 0) (ns' := 0) (pc' := 20) dX12_watched_17 rfl ml_RX12_230 kX12_in cc10 rfl rfl (Nat.le_of_ble_eq_true rfl) (rok rfl) rfl rfl (fun r14 h14 q14 => ?_)
    rcases q14 with ⟨c12, rfl, rfl⟩ | ⟨c13, rfl, rfl⟩
    · refine aw_if_eq (tgt := 39) (pc' := 23) dX12_watched_20 (by decide) rfl (fun _ => ?_) (fun c => absurd (by decide) c)
      refine aw_iconst (v := (-1)) (pc' := 40) dX12_watched_39 rfl (by decide) ?_
      exact aw_ri dX12_watched_40 rfl rfl (Nat.le_of_ble_eq_true rfl) (Nat.le_of_ble_eq_true rfl) (by first | (simp [sp_watched, cnd, okC, okS, okW_iff, okN_iff, inR, c7, c8, c12]; done) | (simp_all [sp_watched, cnd, okC, okS, okW_iff, okN_iff, inR]; done) | skip)
    · refine aw_if_eq (tgt := 39) (pc' := 23) dX12_watched_20 (by decide) rfl (fun _ => ?_) (fun c => absurd (by decide) c)
      refine aw_iconst (v := (-1)) (pc' := 40) dX12_watched_39 rfl (by decide) ?_
      exact aw_ri dX12_watched_40 rfl rfl (Nat.le_of_ble_eq_true rfl) (Nat.le_of_ble_eq_true rfl) (by first | (simp [sp_watched, cnd, okC, okS, okW_iff, okN_iff, inR, c7, c8, c13]; done) | (simp_all [sp_watched, cnd, okC, okS, okW_iff, okN_iff, inR]; done) | skip)
set_option maxRecDepth 4000 in
theorem m_aim (h : List aE) (hm : Fm 0 h) (c : Int32) (m : Int32) : AM mX12_aim 1 [.ref 67, .int c, .int m] h 0 0 (PI fun r h' => r = sp_aim c m) := by
  refine am_of (lv := [some (.ref 67), some (.int c), some (.int m)]) rfl (Nat.le_of_ble_eq_true rfl) rfl ?_
  refine aw_iload_n (pc' := 1) dX12_aim_0 rfl rfl ?_
  refine aw_iconst (v := 0) (pc' := 2) dX12_aim_1 rfl (by decide) ?_
  refine aw_bipush (v := 31) (pc' := 4) dX12_aim_2 rfl (by decide) ?_
  have cc1 : AM mX12_in 0 [.int c, .int 0, .int 31] h 0 0 (PI fun r h' => (c < 0 ∧ 0 = r ∧ h = h') ∨ (¬ (c < 0) ∧ 31 < c ∧ 0 = r ∧ h = h') ∨ (¬ (c < 0) ∧ ¬ (31 < c) ∧ 1 = r ∧ h = h')) := by
    refine am_of (lv := [some (.int c), some (.int 0), some (.int 31)]) rfl (Nat.le_of_ble_eq_true rfl) rfl ?_
    refine aw_iload_n (pc' := 1) dX12_in_0 rfl rfl ?_
    refine aw_iload_n (pc' := 2) dX12_in_1 rfl rfl ?_
    refine aw_clt (tgt := 14) (pc' := 5) dX12_in_2 (by decide) rfl (fun c2 => ?_) (fun c2 => ?_)
    · refine aw_iconst (v := 0) (pc' := 15) dX12_in_14 rfl (by decide) ?_
      exact aw_ri dX12_in_15 rfl (by decide) (Nat.le_of_ble_eq_true rfl) (Nat.le_of_ble_eq_true rfl) (Or.inl ⟨c2, rfl, rfl⟩)
    · refine aw_iload_n (pc' := 6) dX12_in_5 rfl rfl ?_
      refine aw_iload_n (pc' := 7) dX12_in_6 rfl rfl ?_
      refine aw_cgt (tgt := 14) (pc' := 10) dX12_in_7 (by decide) rfl (fun c3 => ?_) (fun c3 => ?_)
      · refine aw_iconst (v := 0) (pc' := 15) dX12_in_14 rfl (by decide) ?_
        exact aw_ri dX12_in_15 rfl (by decide) (Nat.le_of_ble_eq_true rfl) (Nat.le_of_ble_eq_true rfl) (Or.inr (Or.inl ⟨c2, c3, rfl, rfl⟩))
      · refine aw_iconst (v := 1) (pc' := 11) dX12_in_10 rfl (by decide) ?_
        refine aw_goto (tgt := 15) dX12_in_11 (by decide) ?_
        exact aw_ri dX12_in_15 rfl (by decide) (Nat.le_of_ble_eq_true rfl) (Nat.le_of_ble_eq_true rfl) (Or.inr (Or.inr ⟨c2, c3, rfl, rfl⟩))
  refine aw_callSi (M' := mX12_in) (nc' := 0) (ns' := 0) (pc' := 7) dX12_aim_4 rfl ml_RX12_230 kX12_in cc1 rfl rfl (Nat.le_of_ble_eq_true rfl) (rok rfl) rfl rfl (fun r9 h9 q9 => ?_)
  rcases q9 with ⟨c4, rfl, rfl⟩ | ⟨c5, c6, rfl, rfl⟩ | ⟨c7, c8, rfl, rfl⟩
  · refine aw_if_eq (tgt := 20) (pc' := 10) dX12_aim_7 (by decide) rfl (fun _ => ?_) (fun c => absurd (by decide) c)
    refine aw_iconst (v := (-1)) (pc' := 21) dX12_aim_20 rfl (by decide) ?_
    exact aw_ri dX12_aim_21 rfl rfl (Nat.le_of_ble_eq_true rfl) (Nat.le_of_ble_eq_true rfl) (by first | (simp [sp_aim, cnd, okC, okS, okW_iff, okN_iff, inR, c4]; done) | (simp_all [sp_aim, cnd, okC, okS, okW_iff, okN_iff, inR]; done) | skip)
  · refine aw_if_eq (tgt := 20) (pc' := 10) dX12_aim_7 (by decide) rfl (fun _ => ?_) (fun c => absurd (by decide) c)
    refine aw_iconst (v := (-1)) (pc' := 21) dX12_aim_20 rfl (by decide) ?_
    exact aw_ri dX12_aim_21 rfl rfl (Nat.le_of_ble_eq_true rfl) (Nat.le_of_ble_eq_true rfl) (by first | (simp [sp_aim, cnd, okC, okS, okW_iff, okN_iff, inR, c5, c6]; done) | (simp_all [sp_aim, cnd, okC, okS, okW_iff, okN_iff, inR]; done) | skip)
  · refine aw_if_eq (tgt := 20) (pc' := 10) dX12_aim_7 (by decide) rfl (fun c => absurd c (by decide)) (fun _ => ?_)
    refine aw_iload_n (pc' := 11) dX12_aim_10 rfl rfl ?_
    refine aw_iconst (v := 0) (pc' := 12) dX12_aim_11 rfl (by decide) ?_
    refine aw_bipush (v := 9) (pc' := 14) dX12_aim_12 rfl (by decide) ?_
    have cc10 : AM mX12_in 0 [.int m, .int 0, .int 9] h 0 0 (PI fun r h' => (m < 0 ∧ 0 = r ∧ h = h') ∨ (¬ (m < 0) ∧ 9 < m ∧ 0 = r ∧ h = h') ∨ (¬ (m < 0) ∧ ¬ (9 < m) ∧ 1 = r ∧ h = h')) := by
      refine am_of (lv := [some (.int m), some (.int 0), some (.int 9)]) rfl (Nat.le_of_ble_eq_true rfl) rfl ?_
      refine aw_iload_n (pc' := 1) dX12_in_0 rfl rfl ?_
      refine aw_iload_n (pc' := 2) dX12_in_1 rfl rfl ?_
      refine aw_clt (tgt := 14) (pc' := 5) dX12_in_2 (by decide) rfl (fun c11 => ?_) (fun c11 => ?_)
      · refine aw_iconst (v := 0) (pc' := 15) dX12_in_14 rfl (by decide) ?_
        exact aw_ri dX12_in_15 rfl (by decide) (Nat.le_of_ble_eq_true rfl) (Nat.le_of_ble_eq_true rfl) (Or.inl ⟨c11, rfl, rfl⟩)
      · refine aw_iload_n (pc' := 6) dX12_in_5 rfl rfl ?_
        refine aw_iload_n (pc' := 7) dX12_in_6 rfl rfl ?_
        refine aw_cgt (tgt := 14) (pc' := 10) dX12_in_7 (by decide) rfl (fun c12 => ?_) (fun c12 => ?_)
        · refine aw_iconst (v := 0) (pc' := 15) dX12_in_14 rfl (by decide) ?_
          exact aw_ri dX12_in_15 rfl (by decide) (Nat.le_of_ble_eq_true rfl) (Nat.le_of_ble_eq_true rfl) (Or.inr (Or.inl ⟨c11, c12, rfl, rfl⟩))
        · refine aw_iconst (v := 1) (pc' := 11) dX12_in_10 rfl (by decide) ?_
          refine aw_goto (tgt := 15) dX12_in_11 (by decide) ?_
          exact aw_ri dX12_in_15 rfl (by decide) (Nat.le_of_ble_eq_true rfl) (Nat.le_of_ble_eq_true rfl) (Or.inr (Or.inr ⟨c11, c12, rfl, rfl⟩))
    refine aw_callSi (M' := mX12_in) (nc' := 0) (ns' := 0) (pc' := 17) dX12_aim_14 rfl ml_RX12_230 kX12_in cc10 rfl rfl (Nat.le_of_ble_eq_true rfl) (rok rfl) rfl rfl (fun r18 h18 q18 => ?_)
    rcases q18 with ⟨c13, rfl, rfl⟩ | ⟨c14, c15, rfl, rfl⟩ | ⟨c16, c17, rfl, rfl⟩
    · refine aw_if_ne (tgt := 22) (pc' := 20) dX12_aim_17 (by decide) rfl (fun c => absurd (by decide) c) (fun _ => ?_)
      refine aw_iconst (v := (-1)) (pc' := 21) dX12_aim_20 rfl (by decide) ?_
      exact aw_ri dX12_aim_21 rfl rfl (Nat.le_of_ble_eq_true rfl) (Nat.le_of_ble_eq_true rfl) (by first | (simp [sp_aim, cnd, okC, okS, okW_iff, okN_iff, inR, c7, c8, c13]; done) | (simp_all [sp_aim, cnd, okC, okS, okW_iff, okN_iff, inR]; done) | skip)
    · refine aw_if_ne (tgt := 22) (pc' := 20) dX12_aim_17 (by decide) rfl (fun c => absurd (by decide) c) (fun _ => ?_)
      refine aw_iconst (v := (-1)) (pc' := 21) dX12_aim_20 rfl (by decide) ?_
      exact aw_ri dX12_aim_21 rfl rfl (Nat.le_of_ble_eq_true rfl) (Nat.le_of_ble_eq_true rfl) (by first | (simp [sp_aim, cnd, okC, okS, okW_iff, okN_iff, inR, c7, c8, c14, c15]; done) | (simp_all [sp_aim, cnd, okC, okS, okW_iff, okN_iff, inR]; done) | skip)
    · refine aw_if_ne (tgt := 22) (pc' := 20) dX12_aim_17 (by decide) rfl (fun _ => ?_) (fun c => absurd c (by decide))
      refine aw_aload_n (pc' := 23) dX12_aim_22 rfl rfl rfl ?_
      refine aw_get clsAll (pc' := 26) dX12_aim_23 rfl fl_RX12_440 hm.1 rfl ?_
      refine aw_bipush (v := 6) (pc' := 28) dX12_aim_26 rfl (by decide) ?_
      refine aw_icmp_ne (tgt := 34) (pc' := 31) dX12_aim_28 (by decide) rfl (fun _ => ?_) (fun c => absurd c (by decide))
      refine aw_aload_n (pc' := 35) dX12_aim_34 rfl rfl rfl ?_
      refine aw_get clsAll (pc' := 38) dX12_aim_35 rfl fl_RX12_181 hm.1 rfl ?_
      refine aw_aload_n (pc' := 39) dX12_aim_38 rfl rfl rfl ?_
      refine aw_get clsAll (pc' := 42) dX12_aim_39 rfl fl_RX12_440 hm.1 rfl ?_
      refine aw_iload_n (pc' := 43) dX12_aim_42 rfl rfl ?_
      refine aw_iastG (pc' := 44) dX12_aim_43 rfl ((hm.2 112 (by decide) (by decide)).trans h0_112) (vpc (by decide)) (fun h19 e19 => ?_)
      refine aw_aload_n (pc' := 45) dX12_aim_44 rfl rfl rfl ?_
      refine aw_dup (pc' := 46) dX12_aim_45 rfl rfl ?_
      refine aw_get clsAll (pc' := 49) dX12_aim_46 rfl fl_RX12_440 (gsn e19 (by decide) hm.1) rfl ?_
      refine aw_iconst (v := 1) (pc' := 50) dX12_aim_49 rfl (by decide) ?_
      refine aw_iadd (pc' := 51) dX12_aim_50 rfl ?_
      refine aw_topi (v := 1) (by decide) ?_
      refine aw_putG clsAll (pc' := 54) dX12_aim_51 rfl fl_RX12_440 (gsn e19 (by decide) hm.1) (Nat.le_of_ble_eq_true rfl) rfl (fun h20 e20 => ?_)
      refine aw_aload_n (pc' := 55) dX12_aim_54 rfl rfl rfl ?_
      refine aw_get clsAll (pc' := 58) dX12_aim_55 rfl fl_RX12_440 (gss e20 (gsn e19 (by decide) hm.1)) rfl ?_
      exact aw_ri dX12_aim_58 rfl rfl (Nat.le_of_ble_eq_true rfl) (Nat.le_of_ble_eq_true rfl) (by first | (simp [sp_aim, cnd, okC, okS, okW_iff, okN_iff, inR, c7, c8, c16, c17]; done) | (simp_all [sp_aim, cnd, okC, okS, okW_iff, okN_iff, inR]; done) | skip)
set_option maxRecDepth 4000 in
theorem m_rock (h : List aE) (hm : Fm 0 h) (r_ : Int32) (i : Int32) (v : Int32) : AM mX12_rock 1 [.ref 67, .int r_, .int i, .int v] h 0 0 (PI fun r h' => r = sp_rock r_ i v) := by
  refine am_of (lv := [some (.ref 67), some (.int r_), some (.int i), some (.int v), none]) rfl (Nat.le_of_ble_eq_true rfl) rfl ?_
  refine aw_iload_n (pc' := 1) dX12_rock_0 rfl rfl ?_
  refine aw_iconst (v := 0) (pc' := 2) dX12_rock_1 rfl (by decide) ?_
  refine aw_iconst (v := 3) (pc' := 3) dX12_rock_2 rfl (by decide) ?_
  have cc1 : AM mX12_in 0 [.int r_, .int 0, .int 3] h 0 0 (PI fun r h' => (r_ < 0 ∧ 0 = r ∧ h = h') ∨ (¬ (r_ < 0) ∧ 3 < r_ ∧ 0 = r ∧ h = h') ∨ (¬ (r_ < 0) ∧ ¬ (3 < r_) ∧ 1 = r ∧ h = h')) := by
    refine am_of (lv := [some (.int r_), some (.int 0), some (.int 3)]) rfl (Nat.le_of_ble_eq_true rfl) rfl ?_
    refine aw_iload_n (pc' := 1) dX12_in_0 rfl rfl ?_
    refine aw_iload_n (pc' := 2) dX12_in_1 rfl rfl ?_
    refine aw_clt (tgt := 14) (pc' := 5) dX12_in_2 (by decide) rfl (fun c2 => ?_) (fun c2 => ?_)
    · refine aw_iconst (v := 0) (pc' := 15) dX12_in_14 rfl (by decide) ?_
      exact aw_ri dX12_in_15 rfl (by decide) (Nat.le_of_ble_eq_true rfl) (Nat.le_of_ble_eq_true rfl) (Or.inl ⟨c2, rfl, rfl⟩)
    · refine aw_iload_n (pc' := 6) dX12_in_5 rfl rfl ?_
      refine aw_iload_n (pc' := 7) dX12_in_6 rfl rfl ?_
      refine aw_cgt (tgt := 14) (pc' := 10) dX12_in_7 (by decide) rfl (fun c3 => ?_) (fun c3 => ?_)
      · refine aw_iconst (v := 0) (pc' := 15) dX12_in_14 rfl (by decide) ?_
        exact aw_ri dX12_in_15 rfl (by decide) (Nat.le_of_ble_eq_true rfl) (Nat.le_of_ble_eq_true rfl) (Or.inr (Or.inl ⟨c2, c3, rfl, rfl⟩))
      · refine aw_iconst (v := 1) (pc' := 11) dX12_in_10 rfl (by decide) ?_
        refine aw_goto (tgt := 15) dX12_in_11 (by decide) ?_
        exact aw_ri dX12_in_15 rfl (by decide) (Nat.le_of_ble_eq_true rfl) (Nat.le_of_ble_eq_true rfl) (Or.inr (Or.inr ⟨c2, c3, rfl, rfl⟩))
  refine aw_callSi (M' := mX12_in) (nc' := 0) (ns' := 0) (pc' := 6) dX12_rock_3 rfl ml_RX12_230 kX12_in cc1 rfl rfl (Nat.le_of_ble_eq_true rfl) (rok rfl) rfl rfl (fun r9 h9 q9 => ?_)
  rcases q9 with ⟨c4, rfl, rfl⟩ | ⟨c5, c6, rfl, rfl⟩ | ⟨c7, c8, rfl, rfl⟩
  · refine aw_if_eq (tgt := 28) (pc' := 9) dX12_rock_6 (by decide) rfl (fun _ => ?_) (fun c => absurd (by decide) c)
    refine aw_iconst (v := (-1)) (pc' := 29) dX12_rock_28 rfl (by decide) ?_
    exact aw_ri dX12_rock_29 rfl rfl (Nat.le_of_ble_eq_true rfl) (Nat.le_of_ble_eq_true rfl) (by first | (simp [sp_rock, cnd, okC, okS, okW_iff, okN_iff, inR, c4]; done) | (simp_all [sp_rock, cnd, okC, okS, okW_iff, okN_iff, inR]; done) | skip)
  · refine aw_if_eq (tgt := 28) (pc' := 9) dX12_rock_6 (by decide) rfl (fun _ => ?_) (fun c => absurd (by decide) c)
    refine aw_iconst (v := (-1)) (pc' := 29) dX12_rock_28 rfl (by decide) ?_
    exact aw_ri dX12_rock_29 rfl rfl (Nat.le_of_ble_eq_true rfl) (Nat.le_of_ble_eq_true rfl) (by first | (simp [sp_rock, cnd, okC, okS, okW_iff, okN_iff, inR, c5, c6]; done) | (simp_all [sp_rock, cnd, okC, okS, okW_iff, okN_iff, inR]; done) | skip)
  · refine aw_if_eq (tgt := 28) (pc' := 9) dX12_rock_6 (by decide) rfl (fun c => absurd c (by decide)) (fun _ => ?_)
    refine aw_iload_n (pc' := 10) dX12_rock_9 rfl rfl ?_
    refine aw_iconst (v := 0) (pc' := 11) dX12_rock_10 rfl (by decide) ?_
    refine aw_iconst (v := 5) (pc' := 12) dX12_rock_11 rfl (by decide) ?_
    have cc10 : AM mX12_in 0 [.int i, .int 0, .int 5] h 0 0 (PI fun r h' => (i < 0 ∧ 0 = r ∧ h = h') ∨ (¬ (i < 0) ∧ 5 < i ∧ 0 = r ∧ h = h') ∨ (¬ (i < 0) ∧ ¬ (5 < i) ∧ 1 = r ∧ h = h')) := by
      refine am_of (lv := [some (.int i), some (.int 0), some (.int 5)]) rfl (Nat.le_of_ble_eq_true rfl) rfl ?_
      refine aw_iload_n (pc' := 1) dX12_in_0 rfl rfl ?_
      refine aw_iload_n (pc' := 2) dX12_in_1 rfl rfl ?_
      refine aw_clt (tgt := 14) (pc' := 5) dX12_in_2 (by decide) rfl (fun c11 => ?_) (fun c11 => ?_)
      · refine aw_iconst (v := 0) (pc' := 15) dX12_in_14 rfl (by decide) ?_
        exact aw_ri dX12_in_15 rfl (by decide) (Nat.le_of_ble_eq_true rfl) (Nat.le_of_ble_eq_true rfl) (Or.inl ⟨c11, rfl, rfl⟩)
      · refine aw_iload_n (pc' := 6) dX12_in_5 rfl rfl ?_
        refine aw_iload_n (pc' := 7) dX12_in_6 rfl rfl ?_
        refine aw_cgt (tgt := 14) (pc' := 10) dX12_in_7 (by decide) rfl (fun c12 => ?_) (fun c12 => ?_)
        · refine aw_iconst (v := 0) (pc' := 15) dX12_in_14 rfl (by decide) ?_
          exact aw_ri dX12_in_15 rfl (by decide) (Nat.le_of_ble_eq_true rfl) (Nat.le_of_ble_eq_true rfl) (Or.inr (Or.inl ⟨c11, c12, rfl, rfl⟩))
        · refine aw_iconst (v := 1) (pc' := 11) dX12_in_10 rfl (by decide) ?_
          refine aw_goto (tgt := 15) dX12_in_11 (by decide) ?_
          exact aw_ri dX12_in_15 rfl (by decide) (Nat.le_of_ble_eq_true rfl) (Nat.le_of_ble_eq_true rfl) (Or.inr (Or.inr ⟨c11, c12, rfl, rfl⟩))
    refine aw_callSi (M' := mX12_in) (nc' := 0) (ns' := 0) (pc' := 15) dX12_rock_12 rfl ml_RX12_230 kX12_in cc10 rfl rfl (Nat.le_of_ble_eq_true rfl) (rok rfl) rfl rfl (fun r18 h18 q18 => ?_)
    rcases q18 with ⟨c13, rfl, rfl⟩ | ⟨c14, c15, rfl, rfl⟩ | ⟨c16, c17, rfl, rfl⟩
    · refine aw_if_eq (tgt := 28) (pc' := 18) dX12_rock_15 (by decide) rfl (fun _ => ?_) (fun c => absurd (by decide) c)
      refine aw_iconst (v := (-1)) (pc' := 29) dX12_rock_28 rfl (by decide) ?_
      exact aw_ri dX12_rock_29 rfl rfl (Nat.le_of_ble_eq_true rfl) (Nat.le_of_ble_eq_true rfl) (by first | (simp [sp_rock, cnd, okC, okS, okW_iff, okN_iff, inR, c7, c8, c13]; done) | (simp_all [sp_rock, cnd, okC, okS, okW_iff, okN_iff, inR]; done) | skip)
    · refine aw_if_eq (tgt := 28) (pc' := 18) dX12_rock_15 (by decide) rfl (fun _ => ?_) (fun c => absurd (by decide) c)
      refine aw_iconst (v := (-1)) (pc' := 29) dX12_rock_28 rfl (by decide) ?_
      exact aw_ri dX12_rock_29 rfl rfl (Nat.le_of_ble_eq_true rfl) (Nat.le_of_ble_eq_true rfl) (by first | (simp [sp_rock, cnd, okC, okS, okW_iff, okN_iff, inR, c7, c8, c14, c15]; done) | (simp_all [sp_rock, cnd, okC, okS, okW_iff, okN_iff, inR]; done) | skip)
    · refine aw_if_eq (tgt := 28) (pc' := 18) dX12_rock_15 (by decide) rfl (fun c => absurd c (by decide)) (fun _ => ?_)
      refine aw_iload_n (pc' := 19) dX12_rock_18 rfl rfl ?_
      refine aw_iconst (v := 1) (pc' := 20) dX12_rock_19 rfl (by decide) ?_
      refine aw_bipush (v := 9) (pc' := 22) dX12_rock_20 rfl (by decide) ?_
      have cc19 : AM mX12_in 0 [.int v, .int 1, .int 9] h 0 0 (PI fun r h' => (v < 1 ∧ 0 = r ∧ h = h') ∨ (¬ (v < 1) ∧ 9 < v ∧ 0 = r ∧ h = h') ∨ (¬ (v < 1) ∧ ¬ (9 < v) ∧ 1 = r ∧ h = h')) := by
        refine am_of (lv := [some (.int v), some (.int 1), some (.int 9)]) rfl (Nat.le_of_ble_eq_true rfl) rfl ?_
        refine aw_iload_n (pc' := 1) dX12_in_0 rfl rfl ?_
        refine aw_iload_n (pc' := 2) dX12_in_1 rfl rfl ?_
        refine aw_clt (tgt := 14) (pc' := 5) dX12_in_2 (by decide) rfl (fun c20 => ?_) (fun c20 => ?_)
        · refine aw_iconst (v := 0) (pc' := 15) dX12_in_14 rfl (by decide) ?_
          exact aw_ri dX12_in_15 rfl (by decide) (Nat.le_of_ble_eq_true rfl) (Nat.le_of_ble_eq_true rfl) (Or.inl ⟨c20, rfl, rfl⟩)
        · refine aw_iload_n (pc' := 6) dX12_in_5 rfl rfl ?_
          refine aw_iload_n (pc' := 7) dX12_in_6 rfl rfl ?_
          refine aw_cgt (tgt := 14) (pc' := 10) dX12_in_7 (by decide) rfl (fun c21 => ?_) (fun c21 => ?_)
          · refine aw_iconst (v := 0) (pc' := 15) dX12_in_14 rfl (by decide) ?_
            exact aw_ri dX12_in_15 rfl (by decide) (Nat.le_of_ble_eq_true rfl) (Nat.le_of_ble_eq_true rfl) (Or.inr (Or.inl ⟨c20, c21, rfl, rfl⟩))
          · refine aw_iconst (v := 1) (pc' := 11) dX12_in_10 rfl (by decide) ?_
            refine aw_goto (tgt := 15) dX12_in_11 (by decide) ?_
            exact aw_ri dX12_in_15 rfl (by decide) (Nat.le_of_ble_eq_true rfl) (Nat.le_of_ble_eq_true rfl) (Or.inr (Or.inr ⟨c20, c21, rfl, rfl⟩))
      refine aw_callSi (M' := mX12_in) (nc' := 0) (ns' := 0) (pc' := 25) dX12_rock_22 rfl ml_RX12_230 kX12_in cc19 rfl rfl (Nat.le_of_ble_eq_true rfl) (rok rfl) rfl rfl (fun r27 h27 q27 => ?_)
      rcases q27 with ⟨c22, rfl, rfl⟩ | ⟨c23, c24, rfl, rfl⟩ | ⟨c25, c26, rfl, rfl⟩
      · refine aw_if_ne (tgt := 30) (pc' := 28) dX12_rock_25 (by decide) rfl (fun c => absurd (by decide) c) (fun _ => ?_)
        refine aw_iconst (v := (-1)) (pc' := 29) dX12_rock_28 rfl (by decide) ?_
        exact aw_ri dX12_rock_29 rfl rfl (Nat.le_of_ble_eq_true rfl) (Nat.le_of_ble_eq_true rfl) (by first | (simp [sp_rock, cnd, okC, okS, okW_iff, okN_iff, inR, c7, c8, c16, c17, c22]; done) | (simp_all [sp_rock, cnd, okC, okS, okW_iff, okN_iff, inR]; done) | skip)
      · refine aw_if_ne (tgt := 30) (pc' := 28) dX12_rock_25 (by decide) rfl (fun c => absurd (by decide) c) (fun _ => ?_)
        refine aw_iconst (v := (-1)) (pc' := 29) dX12_rock_28 rfl (by decide) ?_
        exact aw_ri dX12_rock_29 rfl rfl (Nat.le_of_ble_eq_true rfl) (Nat.le_of_ble_eq_true rfl) (by first | (simp [sp_rock, cnd, okC, okS, okW_iff, okN_iff, inR, c7, c8, c16, c17, c23, c24]; done) | (simp_all [sp_rock, cnd, okC, okS, okW_iff, okN_iff, inR]; done) | skip)
      · refine aw_if_ne (tgt := 30) (pc' := 28) dX12_rock_25 (by decide) rfl (fun _ => ?_) (fun c => absurd c (by decide))
        refine aw_aload_n (pc' := 31) dX12_rock_30 rfl rfl rfl ?_
        refine aw_get clsAll (pc' := 34) dX12_rock_31 rfl fl_RX12_184 hm.1 rfl ?_
        refine aw_bipush (v := 6) (pc' := 36) dX12_rock_34 rfl (by decide) ?_
        refine aw_iload_n (pc' := 37) dX12_rock_36 rfl rfl ?_
        refine aw_imul (pc' := 38) dX12_rock_37 rfl ?_
        refine aw_iload_n (pc' := 39) dX12_rock_38 rfl rfl ?_
        refine aw_iadd (pc' := 40) dX12_rock_39 rfl ?_
        refine aw_iald (v := 1) (pc' := 41) dX12_rock_40 rfl ((hm.2 113 (by decide) (by decide)).trans h0_113) (rk_m c7 c8 c16 c17) rfl ?_
        refine aw_istore (lv' := [_, _, _, _, _]) (pc' := 43) dX12_rock_41 rfl (Nat.le_of_ble_eq_true rfl) rfl ?_
        refine aw_aload_n (pc' := 44) dX12_rock_43 rfl rfl rfl ?_
        refine aw_get clsAll (pc' := 47) dX12_rock_44 rfl fl_RX12_184 hm.1 rfl ?_
        refine aw_bipush (v := 6) (pc' := 49) dX12_rock_47 rfl (by decide) ?_
        refine aw_iload_n (pc' := 50) dX12_rock_49 rfl rfl ?_
        refine aw_imul (pc' := 51) dX12_rock_50 rfl ?_
        refine aw_iload_n (pc' := 52) dX12_rock_51 rfl rfl ?_
        refine aw_iadd (pc' := 53) dX12_rock_52 rfl ?_
        refine aw_iload_n (pc' := 54) dX12_rock_53 rfl rfl ?_
        refine aw_iastG (pc' := 55) dX12_rock_54 rfl ((hm.2 113 (by decide) (by decide)).trans h0_113) (rk_m c7 c8 c16 c17) (fun h28 e28 => ?_)
        refine aw_iload (pc' := 57) dX12_rock_55 rfl rfl ?_
        exact aw_ri dX12_rock_57 rfl rfl (Nat.le_of_ble_eq_true rfl) (Nat.le_of_ble_eq_true rfl) (by first | (simp [sp_rock, cnd, okC, okS, okW_iff, okN_iff, inR, c7, c8, c16, c17, c25, c26]; done) | (simp_all [sp_rock, cnd, okC, okS, okW_iff, okN_iff, inR]; done) | skip)
set_option maxRecDepth 4000 in
theorem m_aimed (h : List aE) (hm : Fm 0 h) (r_ : Int32) (y : Int32) (m : Int32) : AM mX12_aimed 1 [.ref 67, .int r_, .int y, .int m] h 0 0 (PI fun r h' => r = sp_aimed r_ y m) := by
  refine am_of (lv := [some (.ref 67), some (.int r_), some (.int y), some (.int m), none, none, none, none, none, none, none]) rfl (Nat.le_of_ble_eq_true rfl) rfl ?_
  refine aw_iload_n (pc' := 1) dX12_aimed_0 rfl rfl ?_
  refine aw_iconst (v := 1) (pc' := 2) dX12_aimed_1 rfl (by decide) ?_
  refine aw_iconst (v := 4) (pc' := 3) dX12_aimed_2 rfl (by decide) ?_
  have cc1 : AM mX12_in 0 [.int r_, .int 1, .int 4] h 0 0 (PI fun r h' => (r_ < 1 ∧ 0 = r ∧ h = h') ∨ (¬ (r_ < 1) ∧ 4 < r_ ∧ 0 = r ∧ h = h') ∨ (¬ (r_ < 1) ∧ ¬ (4 < r_) ∧ 1 = r ∧ h = h')) := by
    refine am_of (lv := [some (.int r_), some (.int 1), some (.int 4)]) rfl (Nat.le_of_ble_eq_true rfl) rfl ?_
    refine aw_iload_n (pc' := 1) dX12_in_0 rfl rfl ?_
    refine aw_iload_n (pc' := 2) dX12_in_1 rfl rfl ?_
    refine aw_clt (tgt := 14) (pc' := 5) dX12_in_2 (by decide) rfl (fun c2 => ?_) (fun c2 => ?_)
    · refine aw_iconst (v := 0) (pc' := 15) dX12_in_14 rfl (by decide) ?_
      exact aw_ri dX12_in_15 rfl (by decide) (Nat.le_of_ble_eq_true rfl) (Nat.le_of_ble_eq_true rfl) (Or.inl ⟨c2, rfl, rfl⟩)
    · refine aw_iload_n (pc' := 6) dX12_in_5 rfl rfl ?_
      refine aw_iload_n (pc' := 7) dX12_in_6 rfl rfl ?_
      refine aw_cgt (tgt := 14) (pc' := 10) dX12_in_7 (by decide) rfl (fun c3 => ?_) (fun c3 => ?_)
      · refine aw_iconst (v := 0) (pc' := 15) dX12_in_14 rfl (by decide) ?_
        exact aw_ri dX12_in_15 rfl (by decide) (Nat.le_of_ble_eq_true rfl) (Nat.le_of_ble_eq_true rfl) (Or.inr (Or.inl ⟨c2, c3, rfl, rfl⟩))
      · refine aw_iconst (v := 1) (pc' := 11) dX12_in_10 rfl (by decide) ?_
        refine aw_goto (tgt := 15) dX12_in_11 (by decide) ?_
        exact aw_ri dX12_in_15 rfl (by decide) (Nat.le_of_ble_eq_true rfl) (Nat.le_of_ble_eq_true rfl) (Or.inr (Or.inr ⟨c2, c3, rfl, rfl⟩))
  refine aw_callSi (M' := mX12_in) (nc' := 0) (ns' := 0) (pc' := 6) dX12_aimed_3 rfl ml_RX12_230 kX12_in cc1 rfl rfl (Nat.le_of_ble_eq_true rfl) (rok rfl) rfl rfl (fun r9 h9 q9 => ?_)
  rcases q9 with ⟨c4, rfl, rfl⟩ | ⟨c5, c6, rfl, rfl⟩ | ⟨c7, c8, rfl, rfl⟩
  · refine aw_if_eq (tgt := 35) (pc' := 9) dX12_aimed_6 (by decide) rfl (fun _ => ?_) (fun c => absurd (by decide) c)
    refine aw_iconst (v := (-1)) (pc' := 36) dX12_aimed_35 rfl (by decide) ?_
    exact aw_ri dX12_aimed_36 rfl rfl (Nat.le_of_ble_eq_true rfl) (Nat.le_of_ble_eq_true rfl) (by first | (simp [sp_aimed, cnd, okC, okS, okW_iff, okN_iff, inR, c4]; done) | (simp_all [sp_aimed, cnd, okC, okS, okW_iff, okN_iff, inR]; done) | skip)
  · refine aw_if_eq (tgt := 35) (pc' := 9) dX12_aimed_6 (by decide) rfl (fun _ => ?_) (fun c => absurd (by decide) c)
    refine aw_iconst (v := (-1)) (pc' := 36) dX12_aimed_35 rfl (by decide) ?_
    exact aw_ri dX12_aimed_36 rfl rfl (Nat.le_of_ble_eq_true rfl) (Nat.le_of_ble_eq_true rfl) (by first | (simp [sp_aimed, cnd, okC, okS, okW_iff, okN_iff, inR, c5, c6]; done) | (simp_all [sp_aimed, cnd, okC, okS, okW_iff, okN_iff, inR]; done) | skip)
  · refine aw_if_eq (tgt := 35) (pc' := 9) dX12_aimed_6 (by decide) rfl (fun c => absurd c (by decide)) (fun _ => ?_)
    refine aw_iload_n (pc' := 10) dX12_aimed_9 rfl rfl ?_
    refine aw_iconst (v := 1) (pc' := 11) dX12_aimed_10 rfl (by decide) ?_
    refine aw_bipush (v := 60) (pc' := 13) dX12_aimed_11 rfl (by decide) ?_
    have cc10 : AM mX12_in 0 [.int y, .int 1, .int 60] h 0 0 (PI fun r h' => (y < 1 ∧ 0 = r ∧ h = h') ∨ (¬ (y < 1) ∧ 60 < y ∧ 0 = r ∧ h = h') ∨ (¬ (y < 1) ∧ ¬ (60 < y) ∧ 1 = r ∧ h = h')) := by
      refine am_of (lv := [some (.int y), some (.int 1), some (.int 60)]) rfl (Nat.le_of_ble_eq_true rfl) rfl ?_
      refine aw_iload_n (pc' := 1) dX12_in_0 rfl rfl ?_
      refine aw_iload_n (pc' := 2) dX12_in_1 rfl rfl ?_
      refine aw_clt (tgt := 14) (pc' := 5) dX12_in_2 (by decide) rfl (fun c11 => ?_) (fun c11 => ?_)
      · refine aw_iconst (v := 0) (pc' := 15) dX12_in_14 rfl (by decide) ?_
        exact aw_ri dX12_in_15 rfl (by decide) (Nat.le_of_ble_eq_true rfl) (Nat.le_of_ble_eq_true rfl) (Or.inl ⟨c11, rfl, rfl⟩)
      · refine aw_iload_n (pc' := 6) dX12_in_5 rfl rfl ?_
        refine aw_iload_n (pc' := 7) dX12_in_6 rfl rfl ?_
        refine aw_cgt (tgt := 14) (pc' := 10) dX12_in_7 (by decide) rfl (fun c12 => ?_) (fun c12 => ?_)
        · refine aw_iconst (v := 0) (pc' := 15) dX12_in_14 rfl (by decide) ?_
          exact aw_ri dX12_in_15 rfl (by decide) (Nat.le_of_ble_eq_true rfl) (Nat.le_of_ble_eq_true rfl) (Or.inr (Or.inl ⟨c11, c12, rfl, rfl⟩))
        · refine aw_iconst (v := 1) (pc' := 11) dX12_in_10 rfl (by decide) ?_
          refine aw_goto (tgt := 15) dX12_in_11 (by decide) ?_
          exact aw_ri dX12_in_15 rfl (by decide) (Nat.le_of_ble_eq_true rfl) (Nat.le_of_ble_eq_true rfl) (Or.inr (Or.inr ⟨c11, c12, rfl, rfl⟩))
    refine aw_callSi (M' := mX12_in) (nc' := 0) (ns' := 0) (pc' := 16) dX12_aimed_13 rfl ml_RX12_230 kX12_in cc10 rfl rfl (Nat.le_of_ble_eq_true rfl) (rok rfl) rfl rfl (fun r18 h18 q18 => ?_)
    rcases q18 with ⟨c13, rfl, rfl⟩ | ⟨c14, c15, rfl, rfl⟩ | ⟨c16, c17, rfl, rfl⟩
    · refine aw_if_eq (tgt := 35) (pc' := 19) dX12_aimed_16 (by decide) rfl (fun _ => ?_) (fun c => absurd (by decide) c)
      refine aw_iconst (v := (-1)) (pc' := 36) dX12_aimed_35 rfl (by decide) ?_
      exact aw_ri dX12_aimed_36 rfl rfl (Nat.le_of_ble_eq_true rfl) (Nat.le_of_ble_eq_true rfl) (by first | (simp [sp_aimed, cnd, okC, okS, okW_iff, okN_iff, inR, c7, c8, c13]; done) | (simp_all [sp_aimed, cnd, okC, okS, okW_iff, okN_iff, inR]; done) | skip)
    · refine aw_if_eq (tgt := 35) (pc' := 19) dX12_aimed_16 (by decide) rfl (fun _ => ?_) (fun c => absurd (by decide) c)
      refine aw_iconst (v := (-1)) (pc' := 36) dX12_aimed_35 rfl (by decide) ?_
      exact aw_ri dX12_aimed_36 rfl rfl (Nat.le_of_ble_eq_true rfl) (Nat.le_of_ble_eq_true rfl) (by first | (simp [sp_aimed, cnd, okC, okS, okW_iff, okN_iff, inR, c7, c8, c14, c15]; done) | (simp_all [sp_aimed, cnd, okC, okS, okW_iff, okN_iff, inR]; done) | skip)
    · refine aw_if_eq (tgt := 35) (pc' := 19) dX12_aimed_16 (by decide) rfl (fun c => absurd c (by decide)) (fun _ => ?_)
      refine aw_iload_n (pc' := 20) dX12_aimed_19 rfl rfl ?_
      refine aw_iconst (v := 1) (pc' := 21) dX12_aimed_20 rfl (by decide) ?_
      refine aw_iconst (v := 2) (pc' := 22) dX12_aimed_21 rfl (by decide) ?_
      have cc19 : AM mX12_in 0 [.int m, .int 1, .int 2] h 0 0 (PI fun r h' => (m < 1 ∧ 0 = r ∧ h = h') ∨ (¬ (m < 1) ∧ 2 < m ∧ 0 = r ∧ h = h') ∨ (¬ (m < 1) ∧ ¬ (2 < m) ∧ 1 = r ∧ h = h')) := by
        refine am_of (lv := [some (.int m), some (.int 1), some (.int 2)]) rfl (Nat.le_of_ble_eq_true rfl) rfl ?_
        refine aw_iload_n (pc' := 1) dX12_in_0 rfl rfl ?_
        refine aw_iload_n (pc' := 2) dX12_in_1 rfl rfl ?_
        refine aw_clt (tgt := 14) (pc' := 5) dX12_in_2 (by decide) rfl (fun c20 => ?_) (fun c20 => ?_)
        · refine aw_iconst (v := 0) (pc' := 15) dX12_in_14 rfl (by decide) ?_
          exact aw_ri dX12_in_15 rfl (by decide) (Nat.le_of_ble_eq_true rfl) (Nat.le_of_ble_eq_true rfl) (Or.inl ⟨c20, rfl, rfl⟩)
        · refine aw_iload_n (pc' := 6) dX12_in_5 rfl rfl ?_
          refine aw_iload_n (pc' := 7) dX12_in_6 rfl rfl ?_
          refine aw_cgt (tgt := 14) (pc' := 10) dX12_in_7 (by decide) rfl (fun c21 => ?_) (fun c21 => ?_)
          · refine aw_iconst (v := 0) (pc' := 15) dX12_in_14 rfl (by decide) ?_
            exact aw_ri dX12_in_15 rfl (by decide) (Nat.le_of_ble_eq_true rfl) (Nat.le_of_ble_eq_true rfl) (Or.inr (Or.inl ⟨c20, c21, rfl, rfl⟩))
          · refine aw_iconst (v := 1) (pc' := 11) dX12_in_10 rfl (by decide) ?_
            refine aw_goto (tgt := 15) dX12_in_11 (by decide) ?_
            exact aw_ri dX12_in_15 rfl (by decide) (Nat.le_of_ble_eq_true rfl) (Nat.le_of_ble_eq_true rfl) (Or.inr (Or.inr ⟨c20, c21, rfl, rfl⟩))
      refine aw_callSi (M' := mX12_in) (nc' := 0) (ns' := 0) (pc' := 25) dX12_aimed_22 rfl ml_RX12_230 kX12_in cc19 rfl rfl (Nat.le_of_ble_eq_true rfl) (rok rfl) rfl rfl (fun r27 h27 q27 => ?_)
      rcases q27 with ⟨c22, rfl, rfl⟩ | ⟨c23, c24, rfl, rfl⟩ | ⟨c25, c26, rfl, rfl⟩
      · refine aw_if_eq (tgt := 35) (pc' := 28) dX12_aimed_25 (by decide) rfl (fun _ => ?_) (fun c => absurd (by decide) c)
        refine aw_iconst (v := (-1)) (pc' := 36) dX12_aimed_35 rfl (by decide) ?_
        exact aw_ri dX12_aimed_36 rfl rfl (Nat.le_of_ble_eq_true rfl) (Nat.le_of_ble_eq_true rfl) (by first | (simp [sp_aimed, cnd, okC, okS, okW_iff, okN_iff, inR, c7, c8, c16, c17, c22]; done) | (simp_all [sp_aimed, cnd, okC, okS, okW_iff, okN_iff, inR]; done) | skip)
      · refine aw_if_eq (tgt := 35) (pc' := 28) dX12_aimed_25 (by decide) rfl (fun _ => ?_) (fun c => absurd (by decide) c)
        refine aw_iconst (v := (-1)) (pc' := 36) dX12_aimed_35 rfl (by decide) ?_
        exact aw_ri dX12_aimed_36 rfl rfl (Nat.le_of_ble_eq_true rfl) (Nat.le_of_ble_eq_true rfl) (by first | (simp [sp_aimed, cnd, okC, okS, okW_iff, okN_iff, inR, c7, c8, c16, c17, c23, c24]; done) | (simp_all [sp_aimed, cnd, okC, okS, okW_iff, okN_iff, inR]; done) | skip)
      · refine aw_if_eq (tgt := 35) (pc' := 28) dX12_aimed_25 (by decide) rfl (fun c => absurd c (by decide)) (fun _ => ?_)
        refine aw_aload_n (pc' := 29) dX12_aimed_28 rfl rfl rfl ?_
        refine aw_get clsAll (pc' := 32) dX12_aimed_29 rfl fl_RX12_440 hm.1 rfl ?_
        refine aw_if_ne (tgt := 37) (pc' := 35) dX12_aimed_32 (by decide) rfl (fun c => absurd (by decide) c) (fun _ => ?_)
        refine aw_iconst (v := (-1)) (pc' := 36) dX12_aimed_35 rfl (by decide) ?_
        exact aw_ri dX12_aimed_36 rfl rfl (Nat.le_of_ble_eq_true rfl) (Nat.le_of_ble_eq_true rfl) (by first | (simp [sp_aimed, cnd, okC, okS, okW_iff, okN_iff, inR, c7, c8, c16, c17, c25, c26]; done) | (simp_all [sp_aimed, cnd, okC, okS, okW_iff, okN_iff, inR]; done) | skip)
set_option maxRecDepth 4000 in
theorem m_aimedAt (h : List aE) (hm : Fm 0 h) (i : Int32) (w : Int32) : AM mX12_aimedAt 1 [.ref 67, .int i, .int w] h 0 0 (PI fun r h' => r = sp_aimedAt i w) := by
  refine am_of (lv := [some (.ref 67), some (.int i), some (.int w)]) rfl (Nat.le_of_ble_eq_true rfl) rfl ?_
  refine aw_iload_n (pc' := 1) dX12_aimedAt_0 rfl rfl ?_
  refine aw_iconst (v := 0) (pc' := 2) dX12_aimedAt_1 rfl (by decide) ?_
  refine aw_aload_n (pc' := 3) dX12_aimedAt_2 rfl rfl rfl ?_
  refine aw_get clsAll (pc' := 6) dX12_aimedAt_3 rfl fl_RX12_447 hm.1 rfl ?_
  refine aw_iconst (v := 1) (pc' := 7) dX12_aimedAt_6 rfl (by decide) ?_
  refine aw_isub (pc' := 8) dX12_aimedAt_7 rfl ?_
  refine aw_topi (v := (-1)) (by decide) ?_
  have cc1 : AM mX12_in 0 [.int i, .int 0, .int (-1)] h 0 0 (PI fun r h' => (i < 0 ∧ 0 = r ∧ h = h') ∨ (¬ (i < 0) ∧ 0 = r ∧ h = h')) := by
    refine am_of (lv := [some (.int i), some (.int 0), some (.int (-1))]) rfl (Nat.le_of_ble_eq_true rfl) rfl ?_
    refine aw_iload_n (pc' := 1) dX12_in_0 rfl rfl ?_
    refine aw_iload_n (pc' := 2) dX12_in_1 rfl rfl ?_
    refine aw_clt (tgt := 14) (pc' := 5) dX12_in_2 (by decide) rfl (fun c2 => ?_) (fun c2 => ?_)
    · refine aw_iconst (v := 0) (pc' := 15) dX12_in_14 rfl (by decide) ?_
      exact aw_ri dX12_in_15 rfl (by decide) (Nat.le_of_ble_eq_true rfl) (Nat.le_of_ble_eq_true rfl) (Or.inl ⟨c2, rfl, rfl⟩)
    · refine aw_iload_n (pc' := 6) dX12_in_5 rfl rfl ?_
      refine aw_iload_n (pc' := 7) dX12_in_6 rfl rfl ?_
      refine aw_cgt (tgt := 14) (pc' := 10) dX12_in_7 (by decide) rfl (fun _ => ?_) (fun c => absurd (bt1 c2 (by decide)) c)
      refine aw_iconst (v := 0) (pc' := 15) dX12_in_14 rfl (by decide) ?_
      exact aw_ri dX12_in_15 rfl (by decide) (Nat.le_of_ble_eq_true rfl) (Nat.le_of_ble_eq_true rfl) (Or.inr ⟨c2, rfl, rfl⟩)
  refine aw_callSi (M' := mX12_in) (nc' := 0) (ns' := 0) (pc' := 11) dX12_aimedAt_8 rfl ml_RX12_230 kX12_in cc1 rfl rfl (Nat.le_of_ble_eq_true rfl) (rok rfl) rfl rfl (fun r5 h5 q5 => ?_)
  rcases q5 with ⟨c3, rfl, rfl⟩ | ⟨c4, rfl, rfl⟩
  · refine aw_if_eq (tgt := 23) (pc' := 14) dX12_aimedAt_11 (by decide) rfl (fun _ => ?_) (fun c => absurd (by decide) c)
    refine aw_iconst (v := (-1)) (pc' := 24) dX12_aimedAt_23 rfl (by decide) ?_
    refine aw_goto (tgt := 46) dX12_aimedAt_24 (by decide) ?_
    exact aw_ri dX12_aimedAt_46 rfl rfl (Nat.le_of_ble_eq_true rfl) (Nat.le_of_ble_eq_true rfl) (by first | (simp [sp_aimedAt, cnd, okC, okS, okW_iff, okN_iff, inR, c3]; done) | (simp_all [sp_aimedAt, cnd, okC, okS, okW_iff, okN_iff, inR]; done) | skip)
  · refine aw_if_eq (tgt := 23) (pc' := 14) dX12_aimedAt_11 (by decide) rfl (fun _ => ?_) (fun c => absurd (by decide) c)
    refine aw_iconst (v := (-1)) (pc' := 24) dX12_aimedAt_23 rfl (by decide) ?_
    refine aw_goto (tgt := 46) dX12_aimedAt_24 (by decide) ?_
    exact aw_ri dX12_aimedAt_46 rfl rfl (Nat.le_of_ble_eq_true rfl) (Nat.le_of_ble_eq_true rfl) (by first | (simp [sp_aimedAt, cnd, okC, okS, okW_iff, okN_iff, inR, c4]; done) | (simp_all [sp_aimedAt, cnd, okC, okS, okW_iff, okN_iff, inR]; done) | skip)
set_option maxRecDepth 4000 in
theorem m_race (h : List aE) (hm : Fm 0 h) (m : Int32) (y : Int32) (v : Int32) : AM mX12_race 2 [.ref 67, .int m, .int y, .int v] h 0 0 (PI fun r h' => r = sp_race m y v) := by
  refine am_of (lv := [some (.ref 67), some (.int m), some (.int y), some (.int v), none, none, none, none]) rfl (Nat.le_of_ble_eq_true rfl) rfl ?_
  refine aw_iload_n (pc' := 1) dX12_race_0 rfl rfl ?_
  have cc1 : AM mX12_isMachine 1 [.int m] h 0 0 (PI fun r h' => (m < 0 ∧ 0 = r ∧ h = h') ∨ (¬ (m < 0) ∧ 2 < m ∧ 0 = r ∧ h = h') ∨ (¬ (m < 0) ∧ ¬ (2 < m) ∧ 1 = r ∧ h = h')) := by
    refine am_of (lv := [some (.int m)]) rfl (Nat.le_of_ble_eq_true rfl) rfl ?_
    refine aw_iload_n (pc' := 1) dX12_isMachine_0 rfl rfl ?_
    refine aw_iconst (v := 0) (pc' := 2) dX12_isMachine_1 rfl (by decide) ?_
    refine aw_iconst (v := 2) (pc' := 3) dX12_isMachine_2 rfl (by decide) ?_
    have cc2 : AM mX12_in 0 [.int m, .int 0, .int 2] h 0 0 (PI fun r h' => (m < 0 ∧ 0 = r ∧ h = h') ∨ (¬ (m < 0) ∧ 2 < m ∧ 0 = r ∧ h = h') ∨ (¬ (m < 0) ∧ ¬ (2 < m) ∧ 1 = r ∧ h = h')) := by
      refine am_of (lv := [some (.int m), some (.int 0), some (.int 2)]) rfl (Nat.le_of_ble_eq_true rfl) rfl ?_
      refine aw_iload_n (pc' := 1) dX12_in_0 rfl rfl ?_
      refine aw_iload_n (pc' := 2) dX12_in_1 rfl rfl ?_
      refine aw_clt (tgt := 14) (pc' := 5) dX12_in_2 (by decide) rfl (fun c3 => ?_) (fun c3 => ?_)
      · refine aw_iconst (v := 0) (pc' := 15) dX12_in_14 rfl (by decide) ?_
        exact aw_ri dX12_in_15 rfl (by decide) (Nat.le_of_ble_eq_true rfl) (Nat.le_of_ble_eq_true rfl) (Or.inl ⟨c3, rfl, rfl⟩)
      · refine aw_iload_n (pc' := 6) dX12_in_5 rfl rfl ?_
        refine aw_iload_n (pc' := 7) dX12_in_6 rfl rfl ?_
        refine aw_cgt (tgt := 14) (pc' := 10) dX12_in_7 (by decide) rfl (fun c4 => ?_) (fun c4 => ?_)
        · refine aw_iconst (v := 0) (pc' := 15) dX12_in_14 rfl (by decide) ?_
          exact aw_ri dX12_in_15 rfl (by decide) (Nat.le_of_ble_eq_true rfl) (Nat.le_of_ble_eq_true rfl) (Or.inr (Or.inl ⟨c3, c4, rfl, rfl⟩))
        · refine aw_iconst (v := 1) (pc' := 11) dX12_in_10 rfl (by decide) ?_
          refine aw_goto (tgt := 15) dX12_in_11 (by decide) ?_
          exact aw_ri dX12_in_15 rfl (by decide) (Nat.le_of_ble_eq_true rfl) (Nat.le_of_ble_eq_true rfl) (Or.inr (Or.inr ⟨c3, c4, rfl, rfl⟩))
    refine aw_callSi (M' := mX12_in) (nc' := 0) (ns' := 0) (pc' := 6) dX12_isMachine_3 rfl ml_RX12_230 kX12_in cc2 rfl rfl (Nat.le_of_ble_eq_true rfl) (rok rfl) rfl rfl (fun r10 h10 q10 => ?_)
    rcases q10 with ⟨c5, rfl, rfl⟩ | ⟨c6, c7, rfl, rfl⟩ | ⟨c8, c9, rfl, rfl⟩
    · exact aw_ri dX12_isMachine_6 rfl (by decide) (Nat.le_of_ble_eq_true rfl) (Nat.le_of_ble_eq_true rfl) (Or.inl ⟨c5, rfl, rfl⟩)
    · exact aw_ri dX12_isMachine_6 rfl (by decide) (Nat.le_of_ble_eq_true rfl) (Nat.le_of_ble_eq_true rfl) (Or.inr (Or.inl ⟨c6, c7, rfl, rfl⟩))
    · exact aw_ri dX12_isMachine_6 rfl (by decide) (Nat.le_of_ble_eq_true rfl) (Nat.le_of_ble_eq_true rfl) (Or.inr (Or.inr ⟨c8, c9, rfl, rfl⟩))
  refine aw_callSi (M' := mX12_isMachine) (nc' := 0) (ns' := 0) (pc' := 4) dX12_race_1 rfl ml_RX12_278 kX12_isMachine cc1 rfl rfl (Nat.le_of_ble_eq_true rfl) (rok rfl) rfl rfl (fun r16 h16 q16 => ?_)
  rcases q16 with ⟨c11, rfl, rfl⟩ | ⟨c12, c13, rfl, rfl⟩ | ⟨c14, c15, rfl, rfl⟩
  · refine aw_if_eq (tgt := 27) (pc' := 7) dX12_race_4 (by decide) rfl (fun _ => ?_) (fun c => absurd (by decide) c)
    refine aw_iconst (v := (-1)) (pc' := 28) dX12_race_27 rfl (by decide) ?_
    exact aw_ri dX12_race_28 rfl rfl (Nat.le_of_ble_eq_true rfl) (Nat.le_of_ble_eq_true rfl) (by first | (simp [sp_race, cnd, okC, okS, okW_iff, okN_iff, inR, c11]; done) | (simp_all [sp_race, cnd, okC, okS, okW_iff, okN_iff, inR]; done) | skip)
  · refine aw_if_eq (tgt := 27) (pc' := 7) dX12_race_4 (by decide) rfl (fun _ => ?_) (fun c => absurd (by decide) c)
    refine aw_iconst (v := (-1)) (pc' := 28) dX12_race_27 rfl (by decide) ?_
    exact aw_ri dX12_race_28 rfl rfl (Nat.le_of_ble_eq_true rfl) (Nat.le_of_ble_eq_true rfl) (by first | (simp [sp_race, cnd, okC, okS, okW_iff, okN_iff, inR, c12, c13]; done) | (simp_all [sp_race, cnd, okC, okS, okW_iff, okN_iff, inR]; done) | skip)
  · refine aw_if_eq (tgt := 27) (pc' := 7) dX12_race_4 (by decide) rfl (fun c => absurd c (by decide)) (fun _ => ?_)
    refine aw_iload_n (pc' := 8) dX12_race_7 rfl rfl ?_
    refine aw_iconst (v := 1) (pc' := 9) dX12_race_8 rfl (by decide) ?_
    refine aw_bipush (v := 60) (pc' := 11) dX12_race_9 rfl (by decide) ?_
    have cc17 : AM mX12_in 0 [.int y, .int 1, .int 60] h 0 0 (PI fun r h' => (y < 1 ∧ 0 = r ∧ h = h') ∨ (¬ (y < 1) ∧ 60 < y ∧ 0 = r ∧ h = h') ∨ (¬ (y < 1) ∧ ¬ (60 < y) ∧ 1 = r ∧ h = h')) := by
      refine am_of (lv := [some (.int y), some (.int 1), some (.int 60)]) rfl (Nat.le_of_ble_eq_true rfl) rfl ?_
      refine aw_iload_n (pc' := 1) dX12_in_0 rfl rfl ?_
      refine aw_iload_n (pc' := 2) dX12_in_1 rfl rfl ?_
      refine aw_clt (tgt := 14) (pc' := 5) dX12_in_2 (by decide) rfl (fun c18 => ?_) (fun c18 => ?_)
      · refine aw_iconst (v := 0) (pc' := 15) dX12_in_14 rfl (by decide) ?_
        exact aw_ri dX12_in_15 rfl (by decide) (Nat.le_of_ble_eq_true rfl) (Nat.le_of_ble_eq_true rfl) (Or.inl ⟨c18, rfl, rfl⟩)
      · refine aw_iload_n (pc' := 6) dX12_in_5 rfl rfl ?_
        refine aw_iload_n (pc' := 7) dX12_in_6 rfl rfl ?_
        refine aw_cgt (tgt := 14) (pc' := 10) dX12_in_7 (by decide) rfl (fun c19 => ?_) (fun c19 => ?_)
        · refine aw_iconst (v := 0) (pc' := 15) dX12_in_14 rfl (by decide) ?_
          exact aw_ri dX12_in_15 rfl (by decide) (Nat.le_of_ble_eq_true rfl) (Nat.le_of_ble_eq_true rfl) (Or.inr (Or.inl ⟨c18, c19, rfl, rfl⟩))
        · refine aw_iconst (v := 1) (pc' := 11) dX12_in_10 rfl (by decide) ?_
          refine aw_goto (tgt := 15) dX12_in_11 (by decide) ?_
          exact aw_ri dX12_in_15 rfl (by decide) (Nat.le_of_ble_eq_true rfl) (Nat.le_of_ble_eq_true rfl) (Or.inr (Or.inr ⟨c18, c19, rfl, rfl⟩))
    refine aw_callSi (M' := mX12_in) (nc' := 0) (ns' := 0) (pc' := 14) dX12_race_11 rfl ml_RX12_230 kX12_in cc17 rfl rfl (Nat.le_of_ble_eq_true rfl) (rok rfl) rfl rfl (fun r25 h25 q25 => ?_)
    rcases q25 with ⟨c20, rfl, rfl⟩ | ⟨c21, c22, rfl, rfl⟩ | ⟨c23, c24, rfl, rfl⟩
    · refine aw_if_eq (tgt := 27) (pc' := 17) dX12_race_14 (by decide) rfl (fun _ => ?_) (fun c => absurd (by decide) c)
      refine aw_iconst (v := (-1)) (pc' := 28) dX12_race_27 rfl (by decide) ?_
      exact aw_ri dX12_race_28 rfl rfl (Nat.le_of_ble_eq_true rfl) (Nat.le_of_ble_eq_true rfl) (by first | (simp [sp_race, cnd, okC, okS, okW_iff, okN_iff, inR, c14, c15, c20]; done) | (simp_all [sp_race, cnd, okC, okS, okW_iff, okN_iff, inR]; done) | skip)
    · refine aw_if_eq (tgt := 27) (pc' := 17) dX12_race_14 (by decide) rfl (fun _ => ?_) (fun c => absurd (by decide) c)
      refine aw_iconst (v := (-1)) (pc' := 28) dX12_race_27 rfl (by decide) ?_
      exact aw_ri dX12_race_28 rfl rfl (Nat.le_of_ble_eq_true rfl) (Nat.le_of_ble_eq_true rfl) (by first | (simp [sp_race, cnd, okC, okS, okW_iff, okN_iff, inR, c14, c15, c21, c22]; done) | (simp_all [sp_race, cnd, okC, okS, okW_iff, okN_iff, inR]; done) | skip)
    · refine aw_if_eq (tgt := 27) (pc' := 17) dX12_race_14 (by decide) rfl (fun c => absurd c (by decide)) (fun _ => ?_)
      refine aw_iload_n (pc' := 18) dX12_race_17 rfl rfl ?_
      refine aw_iconst (v := 1) (pc' := 19) dX12_race_18 rfl (by decide) ?_
      refine aw_bipush (v := 9) (pc' := 21) dX12_race_19 rfl (by decide) ?_
      have cc26 : AM mX12_in 0 [.int v, .int 1, .int 9] h 0 0 (PI fun r h' => (v < 1 ∧ 0 = r ∧ h = h') ∨ (¬ (v < 1) ∧ 9 < v ∧ 0 = r ∧ h = h') ∨ (¬ (v < 1) ∧ ¬ (9 < v) ∧ 1 = r ∧ h = h')) := by
        refine am_of (lv := [some (.int v), some (.int 1), some (.int 9)]) rfl (Nat.le_of_ble_eq_true rfl) rfl ?_
        refine aw_iload_n (pc' := 1) dX12_in_0 rfl rfl ?_
        refine aw_iload_n (pc' := 2) dX12_in_1 rfl rfl ?_
        refine aw_clt (tgt := 14) (pc' := 5) dX12_in_2 (by decide) rfl (fun c27 => ?_) (fun c27 => ?_)
        · refine aw_iconst (v := 0) (pc' := 15) dX12_in_14 rfl (by decide) ?_
          exact aw_ri dX12_in_15 rfl (by decide) (Nat.le_of_ble_eq_true rfl) (Nat.le_of_ble_eq_true rfl) (Or.inl ⟨c27, rfl, rfl⟩)
        · refine aw_iload_n (pc' := 6) dX12_in_5 rfl rfl ?_
          refine aw_iload_n (pc' := 7) dX12_in_6 rfl rfl ?_
          refine aw_cgt (tgt := 14) (pc' := 10) dX12_in_7 (by decide) rfl (fun c28 => ?_) (fun c28 => ?_)
          · refine aw_iconst (v := 0) (pc' := 15) dX12_in_14 rfl (by decide) ?_
            exact aw_ri dX12_in_15 rfl (by decide) (Nat.le_of_ble_eq_true rfl) (Nat.le_of_ble_eq_true rfl) (Or.inr (Or.inl ⟨c27, c28, rfl, rfl⟩))
          · refine aw_iconst (v := 1) (pc' := 11) dX12_in_10 rfl (by decide) ?_
            refine aw_goto (tgt := 15) dX12_in_11 (by decide) ?_
            exact aw_ri dX12_in_15 rfl (by decide) (Nat.le_of_ble_eq_true rfl) (Nat.le_of_ble_eq_true rfl) (Or.inr (Or.inr ⟨c27, c28, rfl, rfl⟩))
      refine aw_callSi (M' := mX12_in) (nc' := 0) (ns' := 0) (pc' := 24) dX12_race_21 rfl ml_RX12_230 kX12_in cc26 rfl rfl (Nat.le_of_ble_eq_true rfl) (rok rfl) rfl rfl (fun r34 h34 q34 => ?_)
      rcases q34 with ⟨c29, rfl, rfl⟩ | ⟨c30, c31, rfl, rfl⟩ | ⟨c32, c33, rfl, rfl⟩
      · refine aw_if_ne (tgt := 29) (pc' := 27) dX12_race_24 (by decide) rfl (fun c => absurd (by decide) c) (fun _ => ?_)
        refine aw_iconst (v := (-1)) (pc' := 28) dX12_race_27 rfl (by decide) ?_
        exact aw_ri dX12_race_28 rfl rfl (Nat.le_of_ble_eq_true rfl) (Nat.le_of_ble_eq_true rfl) (by first | (simp [sp_race, cnd, okC, okS, okW_iff, okN_iff, inR, c14, c15, c23, c24, c29]; done) | (simp_all [sp_race, cnd, okC, okS, okW_iff, okN_iff, inR]; done) | skip)
      · refine aw_if_ne (tgt := 29) (pc' := 27) dX12_race_24 (by decide) rfl (fun c => absurd (by decide) c) (fun _ => ?_)
        refine aw_iconst (v := (-1)) (pc' := 28) dX12_race_27 rfl (by decide) ?_
        exact aw_ri dX12_race_28 rfl rfl (Nat.le_of_ble_eq_true rfl) (Nat.le_of_ble_eq_true rfl) (by first | (simp [sp_race, cnd, okC, okS, okW_iff, okN_iff, inR, c14, c15, c23, c24, c30, c31]; done) | (simp_all [sp_race, cnd, okC, okS, okW_iff, okN_iff, inR]; done) | skip)
      · refine aw_if_ne (tgt := 29) (pc' := 27) dX12_race_24 (by decide) rfl (fun _ => ?_) (fun c => absurd c (by decide))
        refine aw_aload_n (pc' := 30) dX12_race_29 rfl rfl rfl ?_
        refine aw_get clsAll (pc' := 33) dX12_race_30 rfl fl_RX12_72 hm.1 rfl ?_
        refine aw_iload_n (pc' := 34) dX12_race_33 rfl rfl ?_
        refine aw_iald (v := (-1)) (pc' := 35) dX12_race_34 rfl ((hm.2 79 (by decide) (by decide)).trans h0_79) (ix_ (hi := 2) (b := 2) rfl (by decide) c14 c15) rfl ?_
        refine aw_istore (lv' := [_, _, _, _, _, _, _, _]) (pc' := 37) dX12_race_35 rfl (Nat.le_of_ble_eq_true rfl) rfl ?_
        refine aw_iload (pc' := 39) dX12_race_37 rfl rfl ?_
        refine aw_zlt (tgt := 63) (pc' := 42) dX12_race_39 (by decide) rfl (fun _ => ?_) (fun c => absurd (by decide) c)
        refine aw_bipush (v := (-2)) (pc' := 65) dX12_race_63 rfl (by decide) ?_
        exact aw_ri dX12_race_65 rfl rfl (Nat.le_of_ble_eq_true rfl) (Nat.le_of_ble_eq_true rfl) (by first | (simp [sp_race, cnd, okC, okS, okW_iff, okN_iff, inR, c14, c15, c23, c24, c32, c33]; done) | (simp_all [sp_race, cnd, okC, okS, okW_iff, okN_iff, inR]; done) | skip)
set_option maxRecDepth 4000 in
theorem m_capsule (h : List aE) (hm : Fm 0 h) (b : Int32) : AM mX12_capsule 2 [.ref 67, .int b] h 0 0 (PI fun r h' => r = sp_capsule b) := by
  refine am_of (lv := [some (.ref 67), some (.int b), none, none, none, none]) rfl (Nat.le_of_ble_eq_true rfl) rfl ?_
  refine aw_aload_n (pc' := 1) dX12_capsule_0 rfl rfl rfl ?_
  refine aw_iload_n (pc' := 2) dX12_capsule_1 rfl rfl ?_
  have cc1 : AM mX12_isBody 1 [.ref 67, .int b] h 0 0 (PI fun r h' => (b < 0 ∧ 0 = r ∧ h = h') ∨ (¬ (b < 0) ∧ 0 = r ∧ h = h')) := by
    refine am_of (lv := [some (.ref 67), some (.int b)]) rfl (Nat.le_of_ble_eq_true rfl) rfl ?_
    refine aw_iload_n (pc' := 1) dX12_isBody_0 rfl rfl ?_
    refine aw_iconst (v := 0) (pc' := 2) dX12_isBody_1 rfl (by decide) ?_
    refine aw_aload_n (pc' := 3) dX12_isBody_2 rfl rfl rfl ?_
    refine aw_get clsAll (pc' := 6) dX12_isBody_3 rfl fl_RX12_242 hm.1 rfl ?_
    refine aw_iconst (v := 1) (pc' := 7) dX12_isBody_6 rfl (by decide) ?_
    refine aw_isub (pc' := 8) dX12_isBody_7 rfl ?_
    refine aw_topi (v := (-1)) (by decide) ?_
    have cc2 : AM mX12_in 0 [.int b, .int 0, .int (-1)] h 0 0 (PI fun r h' => (b < 0 ∧ 0 = r ∧ h = h') ∨ (¬ (b < 0) ∧ 0 = r ∧ h = h')) := by
      refine am_of (lv := [some (.int b), some (.int 0), some (.int (-1))]) rfl (Nat.le_of_ble_eq_true rfl) rfl ?_
      refine aw_iload_n (pc' := 1) dX12_in_0 rfl rfl ?_
      refine aw_iload_n (pc' := 2) dX12_in_1 rfl rfl ?_
      refine aw_clt (tgt := 14) (pc' := 5) dX12_in_2 (by decide) rfl (fun c3 => ?_) (fun c3 => ?_)
      · refine aw_iconst (v := 0) (pc' := 15) dX12_in_14 rfl (by decide) ?_
        exact aw_ri dX12_in_15 rfl (by decide) (Nat.le_of_ble_eq_true rfl) (Nat.le_of_ble_eq_true rfl) (Or.inl ⟨c3, rfl, rfl⟩)
      · refine aw_iload_n (pc' := 6) dX12_in_5 rfl rfl ?_
        refine aw_iload_n (pc' := 7) dX12_in_6 rfl rfl ?_
        refine aw_cgt (tgt := 14) (pc' := 10) dX12_in_7 (by decide) rfl (fun _ => ?_) (fun c => absurd (bt1 c3 (by decide)) c)
        refine aw_iconst (v := 0) (pc' := 15) dX12_in_14 rfl (by decide) ?_
        exact aw_ri dX12_in_15 rfl (by decide) (Nat.le_of_ble_eq_true rfl) (Nat.le_of_ble_eq_true rfl) (Or.inr ⟨c3, rfl, rfl⟩)
    refine aw_callSi (M' := mX12_in) (nc' := 0) (ns' := 0) (pc' := 11) dX12_isBody_8 rfl ml_RX12_230 kX12_in cc2 rfl rfl (Nat.le_of_ble_eq_true rfl) (rok rfl) rfl rfl (fun r6 h6 q6 => ?_)
    rcases q6 with ⟨c4, rfl, rfl⟩ | ⟨c5, rfl, rfl⟩
    · exact aw_ri dX12_isBody_11 rfl (by decide) (Nat.le_of_ble_eq_true rfl) (Nat.le_of_ble_eq_true rfl) (Or.inl ⟨c4, rfl, rfl⟩)
    · exact aw_ri dX12_isBody_11 rfl (by decide) (Nat.le_of_ble_eq_true rfl) (Nat.le_of_ble_eq_true rfl) (Or.inr ⟨c5, rfl, rfl⟩)
  refine aw_callVi (M' := mX12_isBody) (nc' := 0) (ns' := 0) (pc' := 5) dX12_capsule_2 rfl ml_RX12_245 kX12_isBody cc1 hm.1 rfl rfl rfl (Nat.le_of_ble_eq_true rfl) (rok rfl) rfl rfl (fun r9 h9 q9 => ?_)
  rcases q9 with ⟨c7, rfl, rfl⟩ | ⟨c8, rfl, rfl⟩
  · refine aw_if_eq (tgt := 28) (pc' := 8) dX12_capsule_5 (by decide) rfl (fun _ => ?_) (fun c => absurd (by decide) c)
    refine aw_iconst (v := (-1)) (pc' := 29) dX12_capsule_28 rfl (by decide) ?_
    exact aw_ri dX12_capsule_29 rfl rfl (Nat.le_of_ble_eq_true rfl) (Nat.le_of_ble_eq_true rfl) (by first | (simp [sp_capsule, cnd, okC, okS, okW_iff, okN_iff, inR, c7]; done) | (simp_all [sp_capsule, cnd, okC, okS, okW_iff, okN_iff, inR]; done) | skip)
  · refine aw_if_eq (tgt := 28) (pc' := 8) dX12_capsule_5 (by decide) rfl (fun _ => ?_) (fun c => absurd (by decide) c)
    refine aw_iconst (v := (-1)) (pc' := 29) dX12_capsule_28 rfl (by decide) ?_
    exact aw_ri dX12_capsule_29 rfl rfl (Nat.le_of_ble_eq_true rfl) (Nat.le_of_ble_eq_true rfl) (by first | (simp [sp_capsule, cnd, okC, okS, okW_iff, okN_iff, inR, c8]; done) | (simp_all [sp_capsule, cnd, okC, okS, okW_iff, okN_iff, inR]; done) | skip)
set_option maxRecDepth 4000 in
theorem m_up (h : List aE) (hm : Fm 0 h) (i : Int32) (w : Int32) : AM mX12_up 1 [.ref 67, .int i, .int w] h 0 0 (PI fun r h' => r = sp_up i w) := by
  refine am_of (lv := [some (.ref 67), some (.int i), some (.int w)]) rfl (Nat.le_of_ble_eq_true rfl) rfl ?_
  refine aw_iload_n (pc' := 1) dX12_up_0 rfl rfl ?_
  refine aw_iconst (v := 0) (pc' := 2) dX12_up_1 rfl (by decide) ?_
  refine aw_aload_n (pc' := 3) dX12_up_2 rfl rfl rfl ?_
  refine aw_get clsAll (pc' := 6) dX12_up_3 rfl fl_RX12_193 hm.1 rfl ?_
  refine aw_iconst (v := 1) (pc' := 7) dX12_up_6 rfl (by decide) ?_
  refine aw_isub (pc' := 8) dX12_up_7 rfl ?_
  refine aw_topi (v := (-2)) (by decide) ?_
  have cc1 : AM mX12_in 0 [.int i, .int 0, .int (-2)] h 0 0 (PI fun r h' => (i < 0 ∧ 0 = r ∧ h = h') ∨ (¬ (i < 0) ∧ 0 = r ∧ h = h')) := by
    refine am_of (lv := [some (.int i), some (.int 0), some (.int (-2))]) rfl (Nat.le_of_ble_eq_true rfl) rfl ?_
    refine aw_iload_n (pc' := 1) dX12_in_0 rfl rfl ?_
    refine aw_iload_n (pc' := 2) dX12_in_1 rfl rfl ?_
    refine aw_clt (tgt := 14) (pc' := 5) dX12_in_2 (by decide) rfl (fun c2 => ?_) (fun c2 => ?_)
    · refine aw_iconst (v := 0) (pc' := 15) dX12_in_14 rfl (by decide) ?_
      exact aw_ri dX12_in_15 rfl (by decide) (Nat.le_of_ble_eq_true rfl) (Nat.le_of_ble_eq_true rfl) (Or.inl ⟨c2, rfl, rfl⟩)
    · refine aw_iload_n (pc' := 6) dX12_in_5 rfl rfl ?_
      refine aw_iload_n (pc' := 7) dX12_in_6 rfl rfl ?_
      refine aw_cgt (tgt := 14) (pc' := 10) dX12_in_7 (by decide) rfl (fun _ => ?_) (fun c => absurd (bt1 c2 (by decide)) c)
      refine aw_iconst (v := 0) (pc' := 15) dX12_in_14 rfl (by decide) ?_
      exact aw_ri dX12_in_15 rfl (by decide) (Nat.le_of_ble_eq_true rfl) (Nat.le_of_ble_eq_true rfl) (Or.inr ⟨c2, rfl, rfl⟩)
  refine aw_callSi (M' := mX12_in) (nc' := 0) (ns' := 0) (pc' := 11) dX12_up_8 rfl ml_RX12_230 kX12_in cc1 rfl rfl (Nat.le_of_ble_eq_true rfl) (rok rfl) rfl rfl (fun r5 h5 q5 => ?_)
  rcases q5 with ⟨c3, rfl, rfl⟩ | ⟨c4, rfl, rfl⟩
  · refine aw_if_eq (tgt := 23) (pc' := 14) dX12_up_11 (by decide) rfl (fun _ => ?_) (fun c => absurd (by decide) c)
    refine aw_iconst (v := (-1)) (pc' := 24) dX12_up_23 rfl (by decide) ?_
    refine aw_goto (tgt := 46) dX12_up_24 (by decide) ?_
    exact aw_ri dX12_up_46 rfl rfl (Nat.le_of_ble_eq_true rfl) (Nat.le_of_ble_eq_true rfl) (by first | (simp [sp_up, cnd, okC, okS, okW_iff, okN_iff, inR, c3]; done) | (simp_all [sp_up, cnd, okC, okS, okW_iff, okN_iff, inR]; done) | skip)
  · refine aw_if_eq (tgt := 23) (pc' := 14) dX12_up_11 (by decide) rfl (fun _ => ?_) (fun c => absurd (by decide) c)
    refine aw_iconst (v := (-1)) (pc' := 24) dX12_up_23 rfl (by decide) ?_
    refine aw_goto (tgt := 46) dX12_up_24 (by decide) ?_
    exact aw_ri dX12_up_46 rfl rfl (Nat.le_of_ble_eq_true rfl) (Nat.le_of_ble_eq_true rfl) (by first | (simp [sp_up, cnd, okC, okS, okW_iff, okN_iff, inR, c4]; done) | (simp_all [sp_up, cnd, okC, okS, okW_iff, okN_iff, inR]; done) | skip)
set_option maxRecDepth 4000 in
theorem m_raise (h : List aE) (hm : Fm 0 h) (n : Int32) : AM mX12_raise 1 [.ref 67, .int n] h 0 0 (PI fun r h' => r = sp_raise n) := by
  refine am_of (lv := [some (.ref 67), some (.int n), none, none]) rfl (Nat.le_of_ble_eq_true rfl) rfl ?_
  refine aw_iload_n (pc' := 1) dX12_raise_0 rfl rfl ?_
  refine aw_iconst (v := 0) (pc' := 2) dX12_raise_1 rfl (by decide) ?_
  refine aw_sipush (v := 199) (pc' := 5) dX12_raise_2 rfl (by decide) ?_
  have cc1 : AM mX12_in 0 [.int n, .int 0, .int 199] h 0 0 (PI fun r h' => (n < 0 ∧ 0 = r ∧ h = h') ∨ (¬ (n < 0) ∧ 199 < n ∧ 0 = r ∧ h = h') ∨ (¬ (n < 0) ∧ ¬ (199 < n) ∧ 1 = r ∧ h = h')) := by
    refine am_of (lv := [some (.int n), some (.int 0), some (.int 199)]) rfl (Nat.le_of_ble_eq_true rfl) rfl ?_
    refine aw_iload_n (pc' := 1) dX12_in_0 rfl rfl ?_
    refine aw_iload_n (pc' := 2) dX12_in_1 rfl rfl ?_
    refine aw_clt (tgt := 14) (pc' := 5) dX12_in_2 (by decide) rfl (fun c2 => ?_) (fun c2 => ?_)
    · refine aw_iconst (v := 0) (pc' := 15) dX12_in_14 rfl (by decide) ?_
      exact aw_ri dX12_in_15 rfl (by decide) (Nat.le_of_ble_eq_true rfl) (Nat.le_of_ble_eq_true rfl) (Or.inl ⟨c2, rfl, rfl⟩)
    · refine aw_iload_n (pc' := 6) dX12_in_5 rfl rfl ?_
      refine aw_iload_n (pc' := 7) dX12_in_6 rfl rfl ?_
      refine aw_cgt (tgt := 14) (pc' := 10) dX12_in_7 (by decide) rfl (fun c3 => ?_) (fun c3 => ?_)
      · refine aw_iconst (v := 0) (pc' := 15) dX12_in_14 rfl (by decide) ?_
        exact aw_ri dX12_in_15 rfl (by decide) (Nat.le_of_ble_eq_true rfl) (Nat.le_of_ble_eq_true rfl) (Or.inr (Or.inl ⟨c2, c3, rfl, rfl⟩))
      · refine aw_iconst (v := 1) (pc' := 11) dX12_in_10 rfl (by decide) ?_
        refine aw_goto (tgt := 15) dX12_in_11 (by decide) ?_
        exact aw_ri dX12_in_15 rfl (by decide) (Nat.le_of_ble_eq_true rfl) (Nat.le_of_ble_eq_true rfl) (Or.inr (Or.inr ⟨c2, c3, rfl, rfl⟩))
  refine aw_callSi (M' := mX12_in) (nc' := 0) (ns' := 0) (pc' := 8) dX12_raise_5 rfl ml_RX12_230 kX12_in cc1 rfl rfl (Nat.le_of_ble_eq_true rfl) (rok rfl) rfl rfl (fun r9 h9 q9 => ?_)
  rcases q9 with ⟨c4, rfl, rfl⟩ | ⟨c5, c6, rfl, rfl⟩ | ⟨c7, c8, rfl, rfl⟩
  · refine aw_if_ne (tgt := 13) (pc' := 11) dX12_raise_8 (by decide) rfl (fun c => absurd (by decide) c) (fun _ => ?_)
    refine aw_iconst (v := (-1)) (pc' := 12) dX12_raise_11 rfl (by decide) ?_
    exact aw_ri dX12_raise_12 rfl rfl (Nat.le_of_ble_eq_true rfl) (Nat.le_of_ble_eq_true rfl) (by first | (simp [sp_raise, cnd, okC, okS, okW_iff, okN_iff, inR, c4]; done) | (simp_all [sp_raise, cnd, okC, okS, okW_iff, okN_iff, inR]; done) | skip)
  · refine aw_if_ne (tgt := 13) (pc' := 11) dX12_raise_8 (by decide) rfl (fun c => absurd (by decide) c) (fun _ => ?_)
    refine aw_iconst (v := (-1)) (pc' := 12) dX12_raise_11 rfl (by decide) ?_
    exact aw_ri dX12_raise_12 rfl rfl (Nat.le_of_ble_eq_true rfl) (Nat.le_of_ble_eq_true rfl) (by first | (simp [sp_raise, cnd, okC, okS, okW_iff, okN_iff, inR, c5, c6]; done) | (simp_all [sp_raise, cnd, okC, okS, okW_iff, okN_iff, inR]; done) | skip)
  · refine aw_if_ne (tgt := 13) (pc' := 11) dX12_raise_8 (by decide) rfl (fun _ => ?_) (fun c => absurd c (by decide))
    refine aw_aload_n (pc' := 14) dX12_raise_13 rfl rfl rfl ?_
    refine aw_get clsAll (pc' := 17) dX12_raise_14 rfl fl_RX12_193 hm.1 rfl ?_
    refine aw_zge (tgt := 23) (pc' := 20) dX12_raise_17 (by decide) rfl (fun c => absurd (by decide) c) (fun _ => ?_)
    refine aw_bipush (v := (-2)) (pc' := 22) dX12_raise_20 rfl (by decide) ?_
    exact aw_ri dX12_raise_22 rfl rfl (Nat.le_of_ble_eq_true rfl) (Nat.le_of_ble_eq_true rfl) (by first | (simp [sp_raise, cnd, okC, okS, okW_iff, okN_iff, inR, c7, c8]; done) | (simp_all [sp_raise, cnd, okC, okS, okW_iff, okN_iff, inR]; done) | skip)
set_option maxRecDepth 4000 in
theorem m_act (h : List aE) (hm : Fm 0 h) (b : Int32) (a : Int32) (v : Int32) : AM mX12_act 2 [.ref 67, .int b, .int a, .int v] h 0 0 (PI fun r h' => r = sp_act b a v) := by
  refine am_of (lv := [some (.ref 67), some (.int b), some (.int a), some (.int v)]) rfl (Nat.le_of_ble_eq_true rfl) rfl ?_
  refine aw_aload_n (pc' := 1) dX12_act_0 rfl rfl rfl ?_
  refine aw_iconst (v := 0) (pc' := 2) dX12_act_1 rfl (by decide) ?_
  refine aw_putG clsAll (pc' := 5) dX12_act_2 rfl fl_RX12_453 hm.1 (Nat.le_of_ble_eq_true rfl) rfl (fun h1 e1 => ?_)
  refine aw_aload_n (pc' := 6) dX12_act_5 rfl rfl rfl ?_
  refine aw_iload_n (pc' := 7) dX12_act_6 rfl rfl ?_
  have cc2 : AM mX12_isBody 1 [.ref 67, .int b] h1 0 0 (PI fun r h' => (b < 0 ∧ 0 = r ∧ h1 = h') ∨ (¬ (b < 0) ∧ 0 = r ∧ h1 = h')) := by
    refine am_of (lv := [some (.ref 67), some (.int b)]) rfl (Nat.le_of_ble_eq_true rfl) rfl ?_
    refine aw_iload_n (pc' := 1) dX12_isBody_0 rfl rfl ?_
    refine aw_iconst (v := 0) (pc' := 2) dX12_isBody_1 rfl (by decide) ?_
    refine aw_aload_n (pc' := 3) dX12_isBody_2 rfl rfl rfl ?_
    refine aw_get clsAll (pc' := 6) dX12_isBody_3 rfl fl_RX12_242 (gss e1 hm.1) rfl ?_
    refine aw_iconst (v := 1) (pc' := 7) dX12_isBody_6 rfl (by decide) ?_
    refine aw_isub (pc' := 8) dX12_isBody_7 rfl ?_
    refine aw_topi (v := (-1)) (by decide) ?_
    have cc3 : AM mX12_in 0 [.int b, .int 0, .int (-1)] h1 0 0 (PI fun r h' => (b < 0 ∧ 0 = r ∧ h1 = h') ∨ (¬ (b < 0) ∧ 0 = r ∧ h1 = h')) := by
      refine am_of (lv := [some (.int b), some (.int 0), some (.int (-1))]) rfl (Nat.le_of_ble_eq_true rfl) rfl ?_
      refine aw_iload_n (pc' := 1) dX12_in_0 rfl rfl ?_
      refine aw_iload_n (pc' := 2) dX12_in_1 rfl rfl ?_
      refine aw_clt (tgt := 14) (pc' := 5) dX12_in_2 (by decide) rfl (fun c4 => ?_) (fun c4 => ?_)
      · refine aw_iconst (v := 0) (pc' := 15) dX12_in_14 rfl (by decide) ?_
        exact aw_ri dX12_in_15 rfl (by decide) (Nat.le_of_ble_eq_true rfl) (Nat.le_of_ble_eq_true rfl) (Or.inl ⟨c4, rfl, rfl⟩)
      · refine aw_iload_n (pc' := 6) dX12_in_5 rfl rfl ?_
        refine aw_iload_n (pc' := 7) dX12_in_6 rfl rfl ?_
        refine aw_cgt (tgt := 14) (pc' := 10) dX12_in_7 (by decide) rfl (fun _ => ?_) (fun c => absurd (bt1 c4 (by decide)) c)
        refine aw_iconst (v := 0) (pc' := 15) dX12_in_14 rfl (by decide) ?_
        exact aw_ri dX12_in_15 rfl (by decide) (Nat.le_of_ble_eq_true rfl) (Nat.le_of_ble_eq_true rfl) (Or.inr ⟨c4, rfl, rfl⟩)
    refine aw_callSi (M' := mX12_in) (nc' := 0) (ns' := 0) (pc' := 11) dX12_isBody_8 rfl ml_RX12_230 kX12_in cc3 rfl rfl (Nat.le_of_ble_eq_true rfl) (rok rfl) rfl rfl (fun r7 h7 q7 => ?_)
    rcases q7 with ⟨c5, rfl, rfl⟩ | ⟨c6, rfl, rfl⟩
    · exact aw_ri dX12_isBody_11 rfl (by decide) (Nat.le_of_ble_eq_true rfl) (Nat.le_of_ble_eq_true rfl) (Or.inl ⟨c5, rfl, rfl⟩)
    · exact aw_ri dX12_isBody_11 rfl (by decide) (Nat.le_of_ble_eq_true rfl) (Nat.le_of_ble_eq_true rfl) (Or.inr ⟨c6, rfl, rfl⟩)
  refine aw_callVi (M' := mX12_isBody) (nc' := 0) (ns' := 0) (pc' := 10) dX12_act_7 rfl ml_RX12_245 kX12_isBody cc2 (gss e1 hm.1) rfl rfl rfl (Nat.le_of_ble_eq_true rfl) (rok rfl) rfl rfl (fun r10 h10 q10 => ?_)
  rcases q10 with ⟨c8, rfl, rfl⟩ | ⟨c9, rfl, rfl⟩
  · refine aw_if_eq (tgt := 22) (pc' := 13) dX12_act_10 (by decide) rfl (fun _ => ?_) (fun c => absurd (by decide) c)
    refine aw_iconst (v := 0) (pc' := 23) dX12_act_22 rfl (by decide) ?_
    exact aw_ri dX12_act_23 rfl rfl (Nat.le_of_ble_eq_true rfl) (Nat.le_of_ble_eq_true rfl) (by first | (simp [sp_act, cnd, okC, okS, okW_iff, okN_iff, inR, c8]; done) | (simp_all [sp_act, cnd, okC, okS, okW_iff, okN_iff, inR]; done) | skip)
  · refine aw_if_eq (tgt := 22) (pc' := 13) dX12_act_10 (by decide) rfl (fun _ => ?_) (fun c => absurd (by decide) c)
    refine aw_iconst (v := 0) (pc' := 23) dX12_act_22 rfl (by decide) ?_
    exact aw_ri dX12_act_23 rfl rfl (Nat.le_of_ble_eq_true rfl) (Nat.le_of_ble_eq_true rfl) (by first | (simp [sp_act, cnd, okC, okS, okW_iff, okN_iff, inR, c9]; done) | (simp_all [sp_act, cnd, okC, okS, okW_iff, okN_iff, inR]; done) | skip)
set_option maxRecDepth 4000 in
theorem m_trace (h : List aE) (hm : Fm 0 h) (i : Int32) : AM mX12_trace 0 [.ref 67, .int i] h 0 0 (PI fun r h' => r = sp_trace i) := by
  refine am_of (lv := [some (.ref 67), some (.int i)]) rfl (Nat.le_of_ble_eq_true rfl) rfl ?_
  refine aw_iload_n (pc' := 1) dX12_trace_0 rfl rfl ?_
  refine aw_zlt (tgt := 27) (pc' := 4) dX12_trace_1 (by decide) rfl (fun c1 => ?_) (fun c1 => ?_)
  · refine aw_iconst (v := (-1)) (pc' := 28) dX12_trace_27 rfl (by decide) ?_
    exact aw_ri dX12_trace_28 rfl rfl (Nat.le_of_ble_eq_true rfl) (Nat.le_of_ble_eq_true rfl) (by first | (simp [sp_trace, cnd, okC, okS, okW_iff, okN_iff, inR, c1]; done) | (simp_all [sp_trace, cnd, okC, okS, okW_iff, okN_iff, inR]; done) | skip)
  · refine aw_iload_n (pc' := 5) dX12_trace_4 rfl rfl ?_
    refine aw_aload_n (pc' := 6) dX12_trace_5 rfl rfl rfl ?_
    refine aw_get clsAll (pc' := 9) dX12_trace_6 rfl fl_RX12_453 hm.1 rfl ?_
    refine aw_cge (tgt := 27) (pc' := 12) dX12_trace_9 (by decide) rfl (fun _ => ?_) (fun c => absurd c c1)
    refine aw_iconst (v := (-1)) (pc' := 28) dX12_trace_27 rfl (by decide) ?_
    exact aw_ri dX12_trace_28 rfl rfl (Nat.le_of_ble_eq_true rfl) (Nat.le_of_ble_eq_true rfl) (by first | (simp [sp_trace, cnd, okC, okS, okW_iff, okN_iff, inR, c1]; done) | (simp_all [sp_trace, cnd, okC, okS, okW_iff, okN_iff, inR]; done) | skip)
set_option maxRecDepth 4000 in
theorem m_keep (h : List aE) (hm : Fm 0 h) (s : Int32) (b : Int32) : AM mX12_keep 2 [.ref 67, .int s, .int b] h 0 0 (PI fun r h' => r = sp_keep s b) := by
  refine am_of (lv := [some (.ref 67), some (.int s), some (.int b)]) rfl (Nat.le_of_ble_eq_true rfl) rfl ?_
  refine aw_iload_n (pc' := 1) dX12_keep_0 rfl rfl ?_
  have cc1 : AM mX12_isShelf 1 [.int s] h 0 0 (PI fun r h' => (s < 0 ∧ 0 = r ∧ h = h') ∨ (¬ (s < 0) ∧ 5 < s ∧ 0 = r ∧ h = h') ∨ (¬ (s < 0) ∧ ¬ (5 < s) ∧ 1 = r ∧ h = h')) := by
    refine am_of (lv := [some (.int s)]) rfl (Nat.le_of_ble_eq_true rfl) rfl ?_
    refine aw_iload_n (pc' := 1) dX12_isShelf_0 rfl rfl ?_
    refine aw_iconst (v := 0) (pc' := 2) dX12_isShelf_1 rfl (by decide) ?_
    refine aw_iconst (v := 5) (pc' := 3) dX12_isShelf_2 rfl (by decide) ?_
    have cc2 : AM mX12_in 0 [.int s, .int 0, .int 5] h 0 0 (PI fun r h' => (s < 0 ∧ 0 = r ∧ h = h') ∨ (¬ (s < 0) ∧ 5 < s ∧ 0 = r ∧ h = h') ∨ (¬ (s < 0) ∧ ¬ (5 < s) ∧ 1 = r ∧ h = h')) := by
      refine am_of (lv := [some (.int s), some (.int 0), some (.int 5)]) rfl (Nat.le_of_ble_eq_true rfl) rfl ?_
      refine aw_iload_n (pc' := 1) dX12_in_0 rfl rfl ?_
      refine aw_iload_n (pc' := 2) dX12_in_1 rfl rfl ?_
      refine aw_clt (tgt := 14) (pc' := 5) dX12_in_2 (by decide) rfl (fun c3 => ?_) (fun c3 => ?_)
      · refine aw_iconst (v := 0) (pc' := 15) dX12_in_14 rfl (by decide) ?_
        exact aw_ri dX12_in_15 rfl (by decide) (Nat.le_of_ble_eq_true rfl) (Nat.le_of_ble_eq_true rfl) (Or.inl ⟨c3, rfl, rfl⟩)
      · refine aw_iload_n (pc' := 6) dX12_in_5 rfl rfl ?_
        refine aw_iload_n (pc' := 7) dX12_in_6 rfl rfl ?_
        refine aw_cgt (tgt := 14) (pc' := 10) dX12_in_7 (by decide) rfl (fun c4 => ?_) (fun c4 => ?_)
        · refine aw_iconst (v := 0) (pc' := 15) dX12_in_14 rfl (by decide) ?_
          exact aw_ri dX12_in_15 rfl (by decide) (Nat.le_of_ble_eq_true rfl) (Nat.le_of_ble_eq_true rfl) (Or.inr (Or.inl ⟨c3, c4, rfl, rfl⟩))
        · refine aw_iconst (v := 1) (pc' := 11) dX12_in_10 rfl (by decide) ?_
          refine aw_goto (tgt := 15) dX12_in_11 (by decide) ?_
          exact aw_ri dX12_in_15 rfl (by decide) (Nat.le_of_ble_eq_true rfl) (Nat.le_of_ble_eq_true rfl) (Or.inr (Or.inr ⟨c3, c4, rfl, rfl⟩))
    refine aw_callSi (M' := mX12_in) (nc' := 0) (ns' := 0) (pc' := 6) dX12_isShelf_3 rfl ml_RX12_230 kX12_in cc2 rfl rfl (Nat.le_of_ble_eq_true rfl) (rok rfl) rfl rfl (fun r10 h10 q10 => ?_)
    rcases q10 with ⟨c5, rfl, rfl⟩ | ⟨c6, c7, rfl, rfl⟩ | ⟨c8, c9, rfl, rfl⟩
    · exact aw_ri dX12_isShelf_6 rfl (by decide) (Nat.le_of_ble_eq_true rfl) (Nat.le_of_ble_eq_true rfl) (Or.inl ⟨c5, rfl, rfl⟩)
    · exact aw_ri dX12_isShelf_6 rfl (by decide) (Nat.le_of_ble_eq_true rfl) (Nat.le_of_ble_eq_true rfl) (Or.inr (Or.inl ⟨c6, c7, rfl, rfl⟩))
    · exact aw_ri dX12_isShelf_6 rfl (by decide) (Nat.le_of_ble_eq_true rfl) (Nat.le_of_ble_eq_true rfl) (Or.inr (Or.inr ⟨c8, c9, rfl, rfl⟩))
  refine aw_callSi (M' := mX12_isShelf) (nc' := 0) (ns' := 0) (pc' := 4) dX12_keep_1 rfl ml_RX12_288 kX12_isShelf cc1 rfl rfl (Nat.le_of_ble_eq_true rfl) (rok rfl) rfl rfl (fun r16 h16 q16 => ?_)
  rcases q16 with ⟨c11, rfl, rfl⟩ | ⟨c12, c13, rfl, rfl⟩ | ⟨c14, c15, rfl, rfl⟩
  · refine aw_if_eq (tgt := 20) (pc' := 7) dX12_keep_4 (by decide) rfl (fun _ => ?_) (fun c => absurd (by decide) c)
    refine aw_iconst (v := (-1)) (pc' := 21) dX12_keep_20 rfl (by decide) ?_
    exact aw_ri dX12_keep_21 rfl rfl (Nat.le_of_ble_eq_true rfl) (Nat.le_of_ble_eq_true rfl) (by first | (simp [sp_keep, cnd, okC, okS, okW_iff, okN_iff, inR, c11]; done) | (simp_all [sp_keep, cnd, okC, okS, okW_iff, okN_iff, inR]; done) | skip)
  · refine aw_if_eq (tgt := 20) (pc' := 7) dX12_keep_4 (by decide) rfl (fun _ => ?_) (fun c => absurd (by decide) c)
    refine aw_iconst (v := (-1)) (pc' := 21) dX12_keep_20 rfl (by decide) ?_
    exact aw_ri dX12_keep_21 rfl rfl (Nat.le_of_ble_eq_true rfl) (Nat.le_of_ble_eq_true rfl) (by first | (simp [sp_keep, cnd, okC, okS, okW_iff, okN_iff, inR, c12, c13]; done) | (simp_all [sp_keep, cnd, okC, okS, okW_iff, okN_iff, inR]; done) | skip)
  · refine aw_if_eq (tgt := 20) (pc' := 7) dX12_keep_4 (by decide) rfl (fun c => absurd c (by decide)) (fun _ => ?_)
    refine aw_iload_n (pc' := 8) dX12_keep_7 rfl rfl ?_
    refine aw_iconst (v := (-1)) (pc' := 9) dX12_keep_8 rfl (by decide) ?_
    refine aw_icmp_eq (tgt := 22) (pc' := 12) dX12_keep_9 (by decide) rfl (fun c17 => ?_) (fun c17 => ?_)
    · refine aw_aload_n (pc' := 23) dX12_keep_22 rfl rfl rfl ?_
      refine aw_get clsAll (pc' := 26) dX12_keep_23 rfl fl_RX12_208 hm.1 rfl ?_
      refine aw_iload_n (pc' := 27) dX12_keep_26 rfl rfl ?_
      refine aw_iload_n (pc' := 28) dX12_keep_27 rfl rfl ?_
      refine aw_iastG (pc' := 29) dX12_keep_28 rfl ((hm.2 120 (by decide) (by decide)).trans h0_120) (ix_ (hi := 5) (b := 5) rfl (by decide) c14 c15) (fun h18 e18 => ?_)
      refine aw_iconst (v := 1) (pc' := 30) dX12_keep_29 rfl (by decide) ?_
      exact aw_ri dX12_keep_30 rfl rfl (Nat.le_of_ble_eq_true rfl) (Nat.le_of_ble_eq_true rfl) (by first | (simp [sp_keep, cnd, okC, okS, okW_iff, okN_iff, inR, c14, c15, c17]; done) | (simp_all [sp_keep, cnd, okC, okS, okW_iff, okN_iff, inR]; done) | skip)
    · refine aw_aload_n (pc' := 13) dX12_keep_12 rfl rfl rfl ?_
      refine aw_iload_n (pc' := 14) dX12_keep_13 rfl rfl ?_
      have cc19 : AM mX12_isBody 1 [.ref 67, .int b] h 0 0 (PI fun r h' => (b < 0 ∧ 0 = r ∧ h = h') ∨ (¬ (b < 0) ∧ 0 = r ∧ h = h')) := by
        refine am_of (lv := [some (.ref 67), some (.int b)]) rfl (Nat.le_of_ble_eq_true rfl) rfl ?_
        refine aw_iload_n (pc' := 1) dX12_isBody_0 rfl rfl ?_
        refine aw_iconst (v := 0) (pc' := 2) dX12_isBody_1 rfl (by decide) ?_
        refine aw_aload_n (pc' := 3) dX12_isBody_2 rfl rfl rfl ?_
        refine aw_get clsAll (pc' := 6) dX12_isBody_3 rfl fl_RX12_242 hm.1 rfl ?_
        refine aw_iconst (v := 1) (pc' := 7) dX12_isBody_6 rfl (by decide) ?_
        refine aw_isub (pc' := 8) dX12_isBody_7 rfl ?_
        refine aw_topi (v := (-1)) (by decide) ?_
        have cc20 : AM mX12_in 0 [.int b, .int 0, .int (-1)] h 0 0 (PI fun r h' => (b < 0 ∧ 0 = r ∧ h = h') ∨ (¬ (b < 0) ∧ 0 = r ∧ h = h')) := by
          refine am_of (lv := [some (.int b), some (.int 0), some (.int (-1))]) rfl (Nat.le_of_ble_eq_true rfl) rfl ?_
          refine aw_iload_n (pc' := 1) dX12_in_0 rfl rfl ?_
          refine aw_iload_n (pc' := 2) dX12_in_1 rfl rfl ?_
          refine aw_clt (tgt := 14) (pc' := 5) dX12_in_2 (by decide) rfl (fun c21 => ?_) (fun c21 => ?_)
          · refine aw_iconst (v := 0) (pc' := 15) dX12_in_14 rfl (by decide) ?_
            exact aw_ri dX12_in_15 rfl (by decide) (Nat.le_of_ble_eq_true rfl) (Nat.le_of_ble_eq_true rfl) (Or.inl ⟨c21, rfl, rfl⟩)
          · refine aw_iload_n (pc' := 6) dX12_in_5 rfl rfl ?_
            refine aw_iload_n (pc' := 7) dX12_in_6 rfl rfl ?_
            refine aw_cgt (tgt := 14) (pc' := 10) dX12_in_7 (by decide) rfl (fun _ => ?_) (fun c => absurd (bt1 c21 (by decide)) c)
            refine aw_iconst (v := 0) (pc' := 15) dX12_in_14 rfl (by decide) ?_
            exact aw_ri dX12_in_15 rfl (by decide) (Nat.le_of_ble_eq_true rfl) (Nat.le_of_ble_eq_true rfl) (Or.inr ⟨c21, rfl, rfl⟩)
        refine aw_callSi (M' := mX12_in) (nc' := 0) (ns' := 0) (pc' := 11) dX12_isBody_8 rfl ml_RX12_230 kX12_in cc20 rfl rfl (Nat.le_of_ble_eq_true rfl) (rok rfl) rfl rfl (fun r24 h24 q24 => ?_)
        rcases q24 with ⟨c22, rfl, rfl⟩ | ⟨c23, rfl, rfl⟩
        · exact aw_ri dX12_isBody_11 rfl (by decide) (Nat.le_of_ble_eq_true rfl) (Nat.le_of_ble_eq_true rfl) (Or.inl ⟨c22, rfl, rfl⟩)
        · exact aw_ri dX12_isBody_11 rfl (by decide) (Nat.le_of_ble_eq_true rfl) (Nat.le_of_ble_eq_true rfl) (Or.inr ⟨c23, rfl, rfl⟩)
      refine aw_callVi (M' := mX12_isBody) (nc' := 0) (ns' := 0) (pc' := 17) dX12_keep_14 rfl ml_RX12_245 kX12_isBody cc19 hm.1 rfl rfl rfl (Nat.le_of_ble_eq_true rfl) (rok rfl) rfl rfl (fun r27 h27 q27 => ?_)
      rcases q27 with ⟨c25, rfl, rfl⟩ | ⟨c26, rfl, rfl⟩
      · refine aw_if_ne (tgt := 22) (pc' := 20) dX12_keep_17 (by decide) rfl (fun c => absurd (by decide) c) (fun _ => ?_)
        refine aw_iconst (v := (-1)) (pc' := 21) dX12_keep_20 rfl (by decide) ?_
        exact aw_ri dX12_keep_21 rfl rfl (Nat.le_of_ble_eq_true rfl) (Nat.le_of_ble_eq_true rfl) (by first | (simp [sp_keep, cnd, okC, okS, okW_iff, okN_iff, inR, c14, c15, c17, c25]; done) | (simp_all [sp_keep, cnd, okC, okS, okW_iff, okN_iff, inR]; done) | skip)
      · refine aw_if_ne (tgt := 22) (pc' := 20) dX12_keep_17 (by decide) rfl (fun c => absurd (by decide) c) (fun _ => ?_)
        refine aw_iconst (v := (-1)) (pc' := 21) dX12_keep_20 rfl (by decide) ?_
        exact aw_ri dX12_keep_21 rfl rfl (Nat.le_of_ble_eq_true rfl) (Nat.le_of_ble_eq_true rfl) (by first | (simp [sp_keep, cnd, okC, okS, okW_iff, okN_iff, inR, c14, c15, c17, c26]; done) | (simp_all [sp_keep, cnd, okC, okS, okW_iff, okN_iff, inR]; done) | skip)
set_option maxRecDepth 4000 in
theorem m_put (h : List aE) (hm : Fm 0 h) (s : Int32) (i : Int32) (lv_ : Int64) : AM mX12_put 3 [.ref 67, .int s, .int i, .long lv_] h 0 0 (PI fun r h' => r = sp_put s i) := by
  refine am_of (lv := [some (.ref 67), some (.int s), some (.int i), some (.long lv_), none, none, none]) rfl (Nat.le_of_ble_eq_true rfl) rfl ?_
  refine aw_iload_n (pc' := 1) dX12_put_0 rfl rfl ?_
  have cc1 : AM mX12_isShelf 1 [.int s] h 0 0 (PI fun r h' => (s < 0 ∧ 0 = r ∧ h = h') ∨ (¬ (s < 0) ∧ 5 < s ∧ 0 = r ∧ h = h') ∨ (¬ (s < 0) ∧ ¬ (5 < s) ∧ 1 = r ∧ h = h')) := by
    refine am_of (lv := [some (.int s)]) rfl (Nat.le_of_ble_eq_true rfl) rfl ?_
    refine aw_iload_n (pc' := 1) dX12_isShelf_0 rfl rfl ?_
    refine aw_iconst (v := 0) (pc' := 2) dX12_isShelf_1 rfl (by decide) ?_
    refine aw_iconst (v := 5) (pc' := 3) dX12_isShelf_2 rfl (by decide) ?_
    have cc2 : AM mX12_in 0 [.int s, .int 0, .int 5] h 0 0 (PI fun r h' => (s < 0 ∧ 0 = r ∧ h = h') ∨ (¬ (s < 0) ∧ 5 < s ∧ 0 = r ∧ h = h') ∨ (¬ (s < 0) ∧ ¬ (5 < s) ∧ 1 = r ∧ h = h')) := by
      refine am_of (lv := [some (.int s), some (.int 0), some (.int 5)]) rfl (Nat.le_of_ble_eq_true rfl) rfl ?_
      refine aw_iload_n (pc' := 1) dX12_in_0 rfl rfl ?_
      refine aw_iload_n (pc' := 2) dX12_in_1 rfl rfl ?_
      refine aw_clt (tgt := 14) (pc' := 5) dX12_in_2 (by decide) rfl (fun c3 => ?_) (fun c3 => ?_)
      · refine aw_iconst (v := 0) (pc' := 15) dX12_in_14 rfl (by decide) ?_
        exact aw_ri dX12_in_15 rfl (by decide) (Nat.le_of_ble_eq_true rfl) (Nat.le_of_ble_eq_true rfl) (Or.inl ⟨c3, rfl, rfl⟩)
      · refine aw_iload_n (pc' := 6) dX12_in_5 rfl rfl ?_
        refine aw_iload_n (pc' := 7) dX12_in_6 rfl rfl ?_
        refine aw_cgt (tgt := 14) (pc' := 10) dX12_in_7 (by decide) rfl (fun c4 => ?_) (fun c4 => ?_)
        · refine aw_iconst (v := 0) (pc' := 15) dX12_in_14 rfl (by decide) ?_
          exact aw_ri dX12_in_15 rfl (by decide) (Nat.le_of_ble_eq_true rfl) (Nat.le_of_ble_eq_true rfl) (Or.inr (Or.inl ⟨c3, c4, rfl, rfl⟩))
        · refine aw_iconst (v := 1) (pc' := 11) dX12_in_10 rfl (by decide) ?_
          refine aw_goto (tgt := 15) dX12_in_11 (by decide) ?_
          exact aw_ri dX12_in_15 rfl (by decide) (Nat.le_of_ble_eq_true rfl) (Nat.le_of_ble_eq_true rfl) (Or.inr (Or.inr ⟨c3, c4, rfl, rfl⟩))
    refine aw_callSi (M' := mX12_in) (nc' := 0) (ns' := 0) (pc' := 6) dX12_isShelf_3 rfl ml_RX12_230 kX12_in cc2 rfl rfl (Nat.le_of_ble_eq_true rfl) (rok rfl) rfl rfl (fun r10 h10 q10 => ?_)
    rcases q10 with ⟨c5, rfl, rfl⟩ | ⟨c6, c7, rfl, rfl⟩ | ⟨c8, c9, rfl, rfl⟩
    · exact aw_ri dX12_isShelf_6 rfl (by decide) (Nat.le_of_ble_eq_true rfl) (Nat.le_of_ble_eq_true rfl) (Or.inl ⟨c5, rfl, rfl⟩)
    · exact aw_ri dX12_isShelf_6 rfl (by decide) (Nat.le_of_ble_eq_true rfl) (Nat.le_of_ble_eq_true rfl) (Or.inr (Or.inl ⟨c6, c7, rfl, rfl⟩))
    · exact aw_ri dX12_isShelf_6 rfl (by decide) (Nat.le_of_ble_eq_true rfl) (Nat.le_of_ble_eq_true rfl) (Or.inr (Or.inr ⟨c8, c9, rfl, rfl⟩))
  refine aw_callSi (M' := mX12_isShelf) (nc' := 0) (ns' := 0) (pc' := 4) dX12_put_1 rfl ml_RX12_288 kX12_isShelf cc1 rfl rfl (Nat.le_of_ble_eq_true rfl) (rok rfl) rfl rfl (fun r16 h16 q16 => ?_)
  rcases q16 with ⟨c11, rfl, rfl⟩ | ⟨c12, c13, rfl, rfl⟩ | ⟨c14, c15, rfl, rfl⟩
  · refine aw_if_eq (tgt := 31) (pc' := 7) dX12_put_4 (by decide) rfl (fun _ => ?_) (fun c => absurd (by decide) c)
    refine aw_iconst (v := (-1)) (pc' := 32) dX12_put_31 rfl (by decide) ?_
    exact aw_ri dX12_put_32 rfl rfl (Nat.le_of_ble_eq_true rfl) (Nat.le_of_ble_eq_true rfl) (by first | (simp [sp_put, cnd, okC, okS, okW_iff, okN_iff, inR, c11]; done) | (simp_all [sp_put, cnd, okC, okS, okW_iff, okN_iff, inR]; done) | skip)
  · refine aw_if_eq (tgt := 31) (pc' := 7) dX12_put_4 (by decide) rfl (fun _ => ?_) (fun c => absurd (by decide) c)
    refine aw_iconst (v := (-1)) (pc' := 32) dX12_put_31 rfl (by decide) ?_
    exact aw_ri dX12_put_32 rfl rfl (Nat.le_of_ble_eq_true rfl) (Nat.le_of_ble_eq_true rfl) (by first | (simp [sp_put, cnd, okC, okS, okW_iff, okN_iff, inR, c12, c13]; done) | (simp_all [sp_put, cnd, okC, okS, okW_iff, okN_iff, inR]; done) | skip)
  · refine aw_if_eq (tgt := 31) (pc' := 7) dX12_put_4 (by decide) rfl (fun c => absurd c (by decide)) (fun _ => ?_)
    refine aw_aload_n (pc' := 8) dX12_put_7 rfl rfl rfl ?_
    refine aw_iload_n (pc' := 9) dX12_put_8 rfl rfl ?_
    have cc17 : AM mX12_isReals 0 [.ref 67, .int s] h 0 0 (PI fun r h' => (0 = r ∧ h = h')) := by
      refine am_of (lv := [some (.ref 67), some (.int s)]) rfl (Nat.le_of_ble_eq_true rfl) rfl ?_
      refine aw_aload_n (pc' := 1) dX12_isReals_0 rfl rfl rfl ?_
      refine aw_get clsAll (pc' := 4) dX12_isReals_1 rfl fl_RX12_208 hm.1 rfl ?_
      refine aw_iload_n (pc' := 5) dX12_isReals_4 rfl rfl ?_
      refine aw_iald (v := (-1)) (pc' := 6) dX12_isReals_5 rfl ((hm.2 120 (by decide) (by decide)).trans h0_120) (ix_ (hi := 5) (b := 5) rfl (by decide) c14 c15) rfl ?_
      refine aw_bipush (v := (-5)) (pc' := 8) dX12_isReals_6 rfl (by decide) ?_
      refine aw_icmp_eq (tgt := 22) (pc' := 11) dX12_isReals_8 (by decide) rfl (fun c => absurd c (by decide)) (fun _ => ?_)
      refine aw_aload_n (pc' := 12) dX12_isReals_11 rfl rfl rfl ?_
      refine aw_get clsAll (pc' := 15) dX12_isReals_12 rfl fl_RX12_208 hm.1 rfl ?_
      refine aw_iload_n (pc' := 16) dX12_isReals_15 rfl rfl ?_
      refine aw_iald (v := (-1)) (pc' := 17) dX12_isReals_16 rfl ((hm.2 120 (by decide) (by decide)).trans h0_120) (ix_ (hi := 5) (b := 5) rfl (by decide) c14 c15) rfl ?_
      refine aw_bipush (v := (-6)) (pc' := 19) dX12_isReals_17 rfl (by decide) ?_
      refine aw_icmp_ne (tgt := 26) (pc' := 22) dX12_isReals_19 (by decide) rfl (fun _ => ?_) (fun c => absurd c (by decide))
      refine aw_iconst (v := 0) (pc' := 27) dX12_isReals_26 rfl (by decide) ?_
      exact aw_ri dX12_isReals_27 rfl (by decide) (Nat.le_of_ble_eq_true rfl) (Nat.le_of_ble_eq_true rfl) ⟨rfl, rfl⟩
    refine aw_callVi (M' := mX12_isReals) (nc' := 0) (ns' := 0) (pc' := 12) dX12_put_9 rfl ml_RX12_291 kX12_isReals cc17 hm.1 rfl rfl rfl (Nat.le_of_ble_eq_true rfl) (rok rfl) rfl rfl (fun r18 h18 q18 => ?_)
    obtain ⟨rfl, rfl⟩ := q18
    refine aw_if_eq (tgt := 33) (pc' := 15) dX12_put_12 (by decide) rfl (fun _ => ?_) (fun c => absurd (by decide) c)
    refine aw_aload_n (pc' := 34) dX12_put_33 rfl rfl rfl ?_
    refine aw_iload_n (pc' := 35) dX12_put_34 rfl rfl ?_
    refine aw_iload_n (pc' := 36) dX12_put_35 rfl rfl ?_
    have cc19 : AM mX12_whyNoPlace 2 [.ref 67, .int s, .int i] h 0 0 (PI fun r h' => ((-11) = r ∧ h = h')) := by
      refine am_of (lv := [some (.ref 67), some (.int s), some (.int i)]) rfl (Nat.le_of_ble_eq_true rfl) rfl ?_
      refine aw_iload_n (pc' := 1) dX12_whyNoPlace_0 rfl rfl ?_
      have cc20 : AM mX12_isShelf 1 [.int s] h 0 0 (PI fun r h' => (1 = r ∧ h = h')) := by
        refine am_of (lv := [some (.int s)]) rfl (Nat.le_of_ble_eq_true rfl) rfl ?_
        refine aw_iload_n (pc' := 1) dX12_isShelf_0 rfl rfl ?_
        refine aw_iconst (v := 0) (pc' := 2) dX12_isShelf_1 rfl (by decide) ?_
        refine aw_iconst (v := 5) (pc' := 3) dX12_isShelf_2 rfl (by decide) ?_
        have cc21 : AM mX12_in 0 [.int s, .int 0, .int 5] h 0 0 (PI fun r h' => (1 = r ∧ h = h')) := by
          refine am_of (lv := [some (.int s), some (.int 0), some (.int 5)]) rfl (Nat.le_of_ble_eq_true rfl) rfl ?_
          refine aw_iload_n (pc' := 1) dX12_in_0 rfl rfl ?_
          refine aw_iload_n (pc' := 2) dX12_in_1 rfl rfl ?_
          refine aw_clt (tgt := 14) (pc' := 5) dX12_in_2 (by decide) rfl (fun c => absurd c c14) (fun _ => ?_)
          refine aw_iload_n (pc' := 6) dX12_in_5 rfl rfl ?_
          refine aw_iload_n (pc' := 7) dX12_in_6 rfl rfl ?_
          refine aw_cgt (tgt := 14) (pc' := 10) dX12_in_7 (by decide) rfl (fun c => absurd c c15) (fun _ => ?_)
          refine aw_iconst (v := 1) (pc' := 11) dX12_in_10 rfl (by decide) ?_
          refine aw_goto (tgt := 15) dX12_in_11 (by decide) ?_
          exact aw_ri dX12_in_15 rfl (by decide) (Nat.le_of_ble_eq_true rfl) (Nat.le_of_ble_eq_true rfl) ⟨rfl, rfl⟩
        refine aw_callSi (M' := mX12_in) (nc' := 0) (ns' := 0) (pc' := 6) dX12_isShelf_3 rfl ml_RX12_230 kX12_in cc21 rfl rfl (Nat.le_of_ble_eq_true rfl) (rok rfl) rfl rfl (fun r22 h22 q22 => ?_)
        obtain ⟨rfl, rfl⟩ := q22
        exact aw_ri dX12_isShelf_6 rfl (by decide) (Nat.le_of_ble_eq_true rfl) (Nat.le_of_ble_eq_true rfl) ⟨rfl, rfl⟩
      refine aw_callSi (M' := mX12_isShelf) (nc' := 0) (ns' := 0) (pc' := 4) dX12_whyNoPlace_1 rfl ml_RX12_288 kX12_isShelf cc20 rfl rfl (Nat.le_of_ble_eq_true rfl) (rok rfl) rfl rfl (fun r23 h23 q23 => ?_)
      obtain ⟨rfl, rfl⟩ := q23
      refine aw_if_ne (tgt := 9) (pc' := 7) dX12_whyNoPlace_4 (by decide) rfl (fun _ => ?_) (fun c => absurd c (by decide))
      refine aw_aload_n (pc' := 10) dX12_whyNoPlace_9 rfl rfl rfl ?_
      refine aw_get clsAll (pc' := 13) dX12_whyNoPlace_10 rfl fl_RX12_208 hm.1 rfl ?_
      refine aw_iload_n (pc' := 14) dX12_whyNoPlace_13 rfl rfl ?_
      refine aw_iald (v := (-1)) (pc' := 15) dX12_whyNoPlace_14 rfl ((hm.2 120 (by decide) (by decide)).trans h0_120) (ix_ (hi := 5) (b := 5) rfl (by decide) c14 c15) rfl ?_
      refine aw_iconst (v := (-1)) (pc' := 16) dX12_whyNoPlace_15 rfl (by decide) ?_
      refine aw_icmp_ne (tgt := 22) (pc' := 19) dX12_whyNoPlace_16 (by decide) rfl (fun c => absurd (by decide) c) (fun _ => ?_)
      refine aw_bipush (v := (-11)) (pc' := 21) dX12_whyNoPlace_19 rfl (by decide) ?_
      exact aw_ri dX12_whyNoPlace_21 rfl rfl (Nat.le_of_ble_eq_true rfl) (Nat.le_of_ble_eq_true rfl) ⟨rfl, rfl⟩
    refine aw_callVi (M' := mX12_whyNoPlace) (nc' := 0) (ns' := 0) (pc' := 39) dX12_put_36 rfl ml_RX12_494 kX12_whyNoPlace cc19 hm.1 rfl rfl rfl (Nat.le_of_ble_eq_true rfl) (rok rfl) rfl rfl (fun r24 h24 q24 => ?_)
    obtain ⟨rfl, rfl⟩ := q24
    refine aw_istore (lv' := [_, _, _, _, _, _, _]) (pc' := 41) dX12_put_39 rfl (Nat.le_of_ble_eq_true rfl) rfl ?_
    refine aw_iload (pc' := 43) dX12_put_41 rfl rfl ?_
    refine aw_zge (tgt := 49) (pc' := 46) dX12_put_43 (by decide) rfl (fun c => absurd (by decide) c) (fun _ => ?_)
    refine aw_iload (pc' := 48) dX12_put_46 rfl rfl ?_
    exact aw_ri dX12_put_48 rfl rfl (Nat.le_of_ble_eq_true rfl) (Nat.le_of_ble_eq_true rfl) (by first | (simp [sp_put, cnd, okC, okS, okW_iff, okN_iff, inR, c14, c15]; done) | (simp_all [sp_put, cnd, okC, okS, okW_iff, okN_iff, inR]; done) | skip)
set_option maxRecDepth 4000 in
theorem m_blank (h : List aE) (hm : Fm 0 h) (s : Int32) (i : Int32) : AM mX12_blank 2 [.ref 67, .int s, .int i] h 0 0 (PI fun r h' => r = sp_blank s i) := by
  refine am_of (lv := [some (.ref 67), some (.int s), some (.int i)]) rfl (Nat.le_of_ble_eq_true rfl) rfl ?_
  refine aw_iload_n (pc' := 1) dX12_blank_0 rfl rfl ?_
  have cc1 : AM mX12_isShelf 1 [.int s] h 0 0 (PI fun r h' => (s < 0 ∧ 0 = r ∧ h = h') ∨ (¬ (s < 0) ∧ 5 < s ∧ 0 = r ∧ h = h') ∨ (¬ (s < 0) ∧ ¬ (5 < s) ∧ 1 = r ∧ h = h')) := by
    refine am_of (lv := [some (.int s)]) rfl (Nat.le_of_ble_eq_true rfl) rfl ?_
    refine aw_iload_n (pc' := 1) dX12_isShelf_0 rfl rfl ?_
    refine aw_iconst (v := 0) (pc' := 2) dX12_isShelf_1 rfl (by decide) ?_
    refine aw_iconst (v := 5) (pc' := 3) dX12_isShelf_2 rfl (by decide) ?_
    have cc2 : AM mX12_in 0 [.int s, .int 0, .int 5] h 0 0 (PI fun r h' => (s < 0 ∧ 0 = r ∧ h = h') ∨ (¬ (s < 0) ∧ 5 < s ∧ 0 = r ∧ h = h') ∨ (¬ (s < 0) ∧ ¬ (5 < s) ∧ 1 = r ∧ h = h')) := by
      refine am_of (lv := [some (.int s), some (.int 0), some (.int 5)]) rfl (Nat.le_of_ble_eq_true rfl) rfl ?_
      refine aw_iload_n (pc' := 1) dX12_in_0 rfl rfl ?_
      refine aw_iload_n (pc' := 2) dX12_in_1 rfl rfl ?_
      refine aw_clt (tgt := 14) (pc' := 5) dX12_in_2 (by decide) rfl (fun c3 => ?_) (fun c3 => ?_)
      · refine aw_iconst (v := 0) (pc' := 15) dX12_in_14 rfl (by decide) ?_
        exact aw_ri dX12_in_15 rfl (by decide) (Nat.le_of_ble_eq_true rfl) (Nat.le_of_ble_eq_true rfl) (Or.inl ⟨c3, rfl, rfl⟩)
      · refine aw_iload_n (pc' := 6) dX12_in_5 rfl rfl ?_
        refine aw_iload_n (pc' := 7) dX12_in_6 rfl rfl ?_
        refine aw_cgt (tgt := 14) (pc' := 10) dX12_in_7 (by decide) rfl (fun c4 => ?_) (fun c4 => ?_)
        · refine aw_iconst (v := 0) (pc' := 15) dX12_in_14 rfl (by decide) ?_
          exact aw_ri dX12_in_15 rfl (by decide) (Nat.le_of_ble_eq_true rfl) (Nat.le_of_ble_eq_true rfl) (Or.inr (Or.inl ⟨c3, c4, rfl, rfl⟩))
        · refine aw_iconst (v := 1) (pc' := 11) dX12_in_10 rfl (by decide) ?_
          refine aw_goto (tgt := 15) dX12_in_11 (by decide) ?_
          exact aw_ri dX12_in_15 rfl (by decide) (Nat.le_of_ble_eq_true rfl) (Nat.le_of_ble_eq_true rfl) (Or.inr (Or.inr ⟨c3, c4, rfl, rfl⟩))
    refine aw_callSi (M' := mX12_in) (nc' := 0) (ns' := 0) (pc' := 6) dX12_isShelf_3 rfl ml_RX12_230 kX12_in cc2 rfl rfl (Nat.le_of_ble_eq_true rfl) (rok rfl) rfl rfl (fun r10 h10 q10 => ?_)
    rcases q10 with ⟨c5, rfl, rfl⟩ | ⟨c6, c7, rfl, rfl⟩ | ⟨c8, c9, rfl, rfl⟩
    · exact aw_ri dX12_isShelf_6 rfl (by decide) (Nat.le_of_ble_eq_true rfl) (Nat.le_of_ble_eq_true rfl) (Or.inl ⟨c5, rfl, rfl⟩)
    · exact aw_ri dX12_isShelf_6 rfl (by decide) (Nat.le_of_ble_eq_true rfl) (Nat.le_of_ble_eq_true rfl) (Or.inr (Or.inl ⟨c6, c7, rfl, rfl⟩))
    · exact aw_ri dX12_isShelf_6 rfl (by decide) (Nat.le_of_ble_eq_true rfl) (Nat.le_of_ble_eq_true rfl) (Or.inr (Or.inr ⟨c8, c9, rfl, rfl⟩))
  refine aw_callSi (M' := mX12_isShelf) (nc' := 0) (ns' := 0) (pc' := 4) dX12_blank_1 rfl ml_RX12_288 kX12_isShelf cc1 rfl rfl (Nat.le_of_ble_eq_true rfl) (rok rfl) rfl rfl (fun r16 h16 q16 => ?_)
  rcases q16 with ⟨c11, rfl, rfl⟩ | ⟨c12, c13, rfl, rfl⟩ | ⟨c14, c15, rfl, rfl⟩
  · refine aw_if_ne (tgt := 9) (pc' := 7) dX12_blank_4 (by decide) rfl (fun c => absurd (by decide) c) (fun _ => ?_)
    refine aw_iconst (v := (-1)) (pc' := 8) dX12_blank_7 rfl (by decide) ?_
    exact aw_ri dX12_blank_8 rfl rfl (Nat.le_of_ble_eq_true rfl) (Nat.le_of_ble_eq_true rfl) (by first | (simp [sp_blank, cnd, okC, okS, okW_iff, okN_iff, inR, c11]; done) | (simp_all [sp_blank, cnd, okC, okS, okW_iff, okN_iff, inR]; done) | skip)
  · refine aw_if_ne (tgt := 9) (pc' := 7) dX12_blank_4 (by decide) rfl (fun c => absurd (by decide) c) (fun _ => ?_)
    refine aw_iconst (v := (-1)) (pc' := 8) dX12_blank_7 rfl (by decide) ?_
    exact aw_ri dX12_blank_8 rfl rfl (Nat.le_of_ble_eq_true rfl) (Nat.le_of_ble_eq_true rfl) (by first | (simp [sp_blank, cnd, okC, okS, okW_iff, okN_iff, inR, c12, c13]; done) | (simp_all [sp_blank, cnd, okC, okS, okW_iff, okN_iff, inR]; done) | skip)
  · refine aw_if_ne (tgt := 9) (pc' := 7) dX12_blank_4 (by decide) rfl (fun _ => ?_) (fun c => absurd c (by decide))
    refine aw_aload_n (pc' := 10) dX12_blank_9 rfl rfl rfl ?_
    refine aw_get clsAll (pc' := 13) dX12_blank_10 rfl fl_RX12_208 hm.1 rfl ?_
    refine aw_iload_n (pc' := 14) dX12_blank_13 rfl rfl ?_
    refine aw_iald (v := (-1)) (pc' := 15) dX12_blank_14 rfl ((hm.2 120 (by decide) (by decide)).trans h0_120) (ix_ (hi := 5) (b := 5) rfl (by decide) c14 c15) rfl ?_
    refine aw_iconst (v := (-1)) (pc' := 16) dX12_blank_15 rfl (by decide) ?_
    refine aw_icmp_ne (tgt := 22) (pc' := 19) dX12_blank_16 (by decide) rfl (fun c => absurd (by decide) c) (fun _ => ?_)
    refine aw_bipush (v := (-11)) (pc' := 21) dX12_blank_19 rfl (by decide) ?_
    exact aw_ri dX12_blank_21 rfl rfl (Nat.le_of_ble_eq_true rfl) (Nat.le_of_ble_eq_true rfl) (by first | (simp [sp_blank, cnd, okC, okS, okW_iff, okN_iff, inR, c14, c15]; done) | (simp_all [sp_blank, cnd, okC, okS, okW_iff, okN_iff, inR]; done) | skip)
set_option maxRecDepth 4000 in
theorem m_element (h : List aE) (hm : Fm 0 h) (s : Int32) (i : Int32) : AM mX12_element 3 [.ref 67, .int s, .int i] h 0 0 (PL fun r h' => r = sp_element s i) := by
  refine am_of (lv := [some (.ref 67), some (.int s), some (.int i)]) rfl (Nat.le_of_ble_eq_true rfl) rfl ?_
  refine aw_aload_n (pc' := 1) dX12_element_0 rfl rfl rfl ?_
  refine aw_iload_n (pc' := 2) dX12_element_1 rfl rfl ?_
  refine aw_iload_n (pc' := 3) dX12_element_2 rfl rfl ?_
  have cc1 : AM mX12_whyNoPlace 2 [.ref 67, .int s, .int i] h 0 0 (PI fun r h' => (s < 0 ∧ (-1) = r ∧ h = h') ∨ (¬ (s < 0) ∧ 5 < s ∧ (-1) = r ∧ h = h') ∨ (¬ (s < 0) ∧ ¬ (5 < s) ∧ (-11) = r ∧ h = h')) := by
    refine am_of (lv := [some (.ref 67), some (.int s), some (.int i)]) rfl (Nat.le_of_ble_eq_true rfl) rfl ?_
    refine aw_iload_n (pc' := 1) dX12_whyNoPlace_0 rfl rfl ?_
    have cc2 : AM mX12_isShelf 1 [.int s] h 0 0 (PI fun r h' => (s < 0 ∧ 0 = r ∧ h = h') ∨ (¬ (s < 0) ∧ 5 < s ∧ 0 = r ∧ h = h') ∨ (¬ (s < 0) ∧ ¬ (5 < s) ∧ 1 = r ∧ h = h')) := by
      refine am_of (lv := [some (.int s)]) rfl (Nat.le_of_ble_eq_true rfl) rfl ?_
      refine aw_iload_n (pc' := 1) dX12_isShelf_0 rfl rfl ?_
      refine aw_iconst (v := 0) (pc' := 2) dX12_isShelf_1 rfl (by decide) ?_
      refine aw_iconst (v := 5) (pc' := 3) dX12_isShelf_2 rfl (by decide) ?_
      have cc3 : AM mX12_in 0 [.int s, .int 0, .int 5] h 0 0 (PI fun r h' => (s < 0 ∧ 0 = r ∧ h = h') ∨ (¬ (s < 0) ∧ 5 < s ∧ 0 = r ∧ h = h') ∨ (¬ (s < 0) ∧ ¬ (5 < s) ∧ 1 = r ∧ h = h')) := by
        refine am_of (lv := [some (.int s), some (.int 0), some (.int 5)]) rfl (Nat.le_of_ble_eq_true rfl) rfl ?_
        refine aw_iload_n (pc' := 1) dX12_in_0 rfl rfl ?_
        refine aw_iload_n (pc' := 2) dX12_in_1 rfl rfl ?_
        refine aw_clt (tgt := 14) (pc' := 5) dX12_in_2 (by decide) rfl (fun c4 => ?_) (fun c4 => ?_)
        · refine aw_iconst (v := 0) (pc' := 15) dX12_in_14 rfl (by decide) ?_
          exact aw_ri dX12_in_15 rfl (by decide) (Nat.le_of_ble_eq_true rfl) (Nat.le_of_ble_eq_true rfl) (Or.inl ⟨c4, rfl, rfl⟩)
        · refine aw_iload_n (pc' := 6) dX12_in_5 rfl rfl ?_
          refine aw_iload_n (pc' := 7) dX12_in_6 rfl rfl ?_
          refine aw_cgt (tgt := 14) (pc' := 10) dX12_in_7 (by decide) rfl (fun c5 => ?_) (fun c5 => ?_)
          · refine aw_iconst (v := 0) (pc' := 15) dX12_in_14 rfl (by decide) ?_
            exact aw_ri dX12_in_15 rfl (by decide) (Nat.le_of_ble_eq_true rfl) (Nat.le_of_ble_eq_true rfl) (Or.inr (Or.inl ⟨c4, c5, rfl, rfl⟩))
          · refine aw_iconst (v := 1) (pc' := 11) dX12_in_10 rfl (by decide) ?_
            refine aw_goto (tgt := 15) dX12_in_11 (by decide) ?_
            exact aw_ri dX12_in_15 rfl (by decide) (Nat.le_of_ble_eq_true rfl) (Nat.le_of_ble_eq_true rfl) (Or.inr (Or.inr ⟨c4, c5, rfl, rfl⟩))
      refine aw_callSi (M' := mX12_in) (nc' := 0) (ns' := 0) (pc' := 6) dX12_isShelf_3 rfl ml_RX12_230 kX12_in cc3 rfl rfl (Nat.le_of_ble_eq_true rfl) (rok rfl) rfl rfl (fun r11 h11 q11 => ?_)
      rcases q11 with ⟨c6, rfl, rfl⟩ | ⟨c7, c8, rfl, rfl⟩ | ⟨c9, c10, rfl, rfl⟩
      · exact aw_ri dX12_isShelf_6 rfl (by decide) (Nat.le_of_ble_eq_true rfl) (Nat.le_of_ble_eq_true rfl) (Or.inl ⟨c6, rfl, rfl⟩)
      · exact aw_ri dX12_isShelf_6 rfl (by decide) (Nat.le_of_ble_eq_true rfl) (Nat.le_of_ble_eq_true rfl) (Or.inr (Or.inl ⟨c7, c8, rfl, rfl⟩))
      · exact aw_ri dX12_isShelf_6 rfl (by decide) (Nat.le_of_ble_eq_true rfl) (Nat.le_of_ble_eq_true rfl) (Or.inr (Or.inr ⟨c9, c10, rfl, rfl⟩))
    refine aw_callSi (M' := mX12_isShelf) (nc' := 0) (ns' := 0) (pc' := 4) dX12_whyNoPlace_1 rfl ml_RX12_288 kX12_isShelf cc2 rfl rfl (Nat.le_of_ble_eq_true rfl) (rok rfl) rfl rfl (fun r17 h17 q17 => ?_)
    rcases q17 with ⟨c12, rfl, rfl⟩ | ⟨c13, c14, rfl, rfl⟩ | ⟨c15, c16, rfl, rfl⟩
    · refine aw_if_ne (tgt := 9) (pc' := 7) dX12_whyNoPlace_4 (by decide) rfl (fun c => absurd (by decide) c) (fun _ => ?_)
      refine aw_iconst (v := (-1)) (pc' := 8) dX12_whyNoPlace_7 rfl (by decide) ?_
      exact aw_ri dX12_whyNoPlace_8 rfl rfl (Nat.le_of_ble_eq_true rfl) (Nat.le_of_ble_eq_true rfl) (Or.inl ⟨c12, rfl, rfl⟩)
    · refine aw_if_ne (tgt := 9) (pc' := 7) dX12_whyNoPlace_4 (by decide) rfl (fun c => absurd (by decide) c) (fun _ => ?_)
      refine aw_iconst (v := (-1)) (pc' := 8) dX12_whyNoPlace_7 rfl (by decide) ?_
      exact aw_ri dX12_whyNoPlace_8 rfl rfl (Nat.le_of_ble_eq_true rfl) (Nat.le_of_ble_eq_true rfl) (Or.inr (Or.inl ⟨c13, c14, rfl, rfl⟩))
    · refine aw_if_ne (tgt := 9) (pc' := 7) dX12_whyNoPlace_4 (by decide) rfl (fun _ => ?_) (fun c => absurd c (by decide))
      refine aw_aload_n (pc' := 10) dX12_whyNoPlace_9 rfl rfl rfl ?_
      refine aw_get clsAll (pc' := 13) dX12_whyNoPlace_10 rfl fl_RX12_208 hm.1 rfl ?_
      refine aw_iload_n (pc' := 14) dX12_whyNoPlace_13 rfl rfl ?_
      refine aw_iald (v := (-1)) (pc' := 15) dX12_whyNoPlace_14 rfl ((hm.2 120 (by decide) (by decide)).trans h0_120) (ix_ (hi := 5) (b := 5) rfl (by decide) c15 c16) rfl ?_
      refine aw_iconst (v := (-1)) (pc' := 16) dX12_whyNoPlace_15 rfl (by decide) ?_
      refine aw_icmp_ne (tgt := 22) (pc' := 19) dX12_whyNoPlace_16 (by decide) rfl (fun c => absurd (by decide) c) (fun _ => ?_)
      refine aw_bipush (v := (-11)) (pc' := 21) dX12_whyNoPlace_19 rfl (by decide) ?_
      exact aw_ri dX12_whyNoPlace_21 rfl rfl (Nat.le_of_ble_eq_true rfl) (Nat.le_of_ble_eq_true rfl) (Or.inr (Or.inr ⟨c15, c16, rfl, rfl⟩))
  refine aw_callVi (M' := mX12_whyNoPlace) (nc' := 0) (ns' := 0) (pc' := 6) dX12_element_3 rfl ml_RX12_494 kX12_whyNoPlace cc1 hm.1 rfl rfl rfl (Nat.le_of_ble_eq_true rfl) (rok rfl) rfl rfl (fun r23 h23 q23 => ?_)
  rcases q23 with ⟨c18, rfl, rfl⟩ | ⟨c19, c20, rfl, rfl⟩ | ⟨c21, c22, rfl, rfl⟩
  · refine aw_zge (tgt := 13) (pc' := 9) dX12_element_6 (by decide) rfl (fun c => absurd (by decide) c) (fun _ => ?_)
    refine aw_ldc2 (pc' := 12) dX12_element_9 rfl ct_RX12_501 ?_
    exact aw_rl dX12_element_12 rfl (Nat.le_of_ble_eq_true rfl) (Nat.le_of_ble_eq_true rfl) (by first | (simp [sp_element, cnd, okC, okS, okW_iff, okN_iff, inR, c18]; done) | (simp_all [sp_element, cnd, okC, okS, okW_iff, okN_iff, inR]; done) | skip)
  · refine aw_zge (tgt := 13) (pc' := 9) dX12_element_6 (by decide) rfl (fun c => absurd (by decide) c) (fun _ => ?_)
    refine aw_ldc2 (pc' := 12) dX12_element_9 rfl ct_RX12_501 ?_
    exact aw_rl dX12_element_12 rfl (Nat.le_of_ble_eq_true rfl) (Nat.le_of_ble_eq_true rfl) (by first | (simp [sp_element, cnd, okC, okS, okW_iff, okN_iff, inR, c19, c20]; done) | (simp_all [sp_element, cnd, okC, okS, okW_iff, okN_iff, inR]; done) | skip)
  · refine aw_zge (tgt := 13) (pc' := 9) dX12_element_6 (by decide) rfl (fun c => absurd (by decide) c) (fun _ => ?_)
    refine aw_ldc2 (pc' := 12) dX12_element_9 rfl ct_RX12_501 ?_
    exact aw_rl dX12_element_12 rfl (Nat.le_of_ble_eq_true rfl) (Nat.le_of_ble_eq_true rfl) (by first | (simp [sp_element, cnd, okC, okS, okW_iff, okN_iff, inR, c21, c22]; done) | (simp_all [sp_element, cnd, okC, okS, okW_iff, okN_iff, inR]; done) | skip)
set_option maxRecDepth 4000 in
theorem m_shift (h : List aE) (hm : Fm 0 h) (s : Int32) (i : Int32) (t : Int32) (j : Int32) (n : Int32) : AM mX12_shift 2 [.ref 67, .int s, .int i, .int t, .int j, .int n] h 0 0 (PI fun r h' => r = sp_shift s i t j n) := by
  refine am_of (lv := [some (.ref 67), some (.int s), some (.int i), some (.int t), some (.int j), some (.int n), none]) rfl (Nat.le_of_ble_eq_true rfl) rfl ?_
  refine aw_iload_n (pc' := 1) dX12_shift_0 rfl rfl ?_
  have cc1 : AM mX12_isShelf 1 [.int s] h 0 0 (PI fun r h' => (s < 0 ∧ 0 = r ∧ h = h') ∨ (¬ (s < 0) ∧ 5 < s ∧ 0 = r ∧ h = h') ∨ (¬ (s < 0) ∧ ¬ (5 < s) ∧ 1 = r ∧ h = h')) := by
    refine am_of (lv := [some (.int s)]) rfl (Nat.le_of_ble_eq_true rfl) rfl ?_
    refine aw_iload_n (pc' := 1) dX12_isShelf_0 rfl rfl ?_
    refine aw_iconst (v := 0) (pc' := 2) dX12_isShelf_1 rfl (by decide) ?_
    refine aw_iconst (v := 5) (pc' := 3) dX12_isShelf_2 rfl (by decide) ?_
    have cc2 : AM mX12_in 0 [.int s, .int 0, .int 5] h 0 0 (PI fun r h' => (s < 0 ∧ 0 = r ∧ h = h') ∨ (¬ (s < 0) ∧ 5 < s ∧ 0 = r ∧ h = h') ∨ (¬ (s < 0) ∧ ¬ (5 < s) ∧ 1 = r ∧ h = h')) := by
      refine am_of (lv := [some (.int s), some (.int 0), some (.int 5)]) rfl (Nat.le_of_ble_eq_true rfl) rfl ?_
      refine aw_iload_n (pc' := 1) dX12_in_0 rfl rfl ?_
      refine aw_iload_n (pc' := 2) dX12_in_1 rfl rfl ?_
      refine aw_clt (tgt := 14) (pc' := 5) dX12_in_2 (by decide) rfl (fun c3 => ?_) (fun c3 => ?_)
      · refine aw_iconst (v := 0) (pc' := 15) dX12_in_14 rfl (by decide) ?_
        exact aw_ri dX12_in_15 rfl (by decide) (Nat.le_of_ble_eq_true rfl) (Nat.le_of_ble_eq_true rfl) (Or.inl ⟨c3, rfl, rfl⟩)
      · refine aw_iload_n (pc' := 6) dX12_in_5 rfl rfl ?_
        refine aw_iload_n (pc' := 7) dX12_in_6 rfl rfl ?_
        refine aw_cgt (tgt := 14) (pc' := 10) dX12_in_7 (by decide) rfl (fun c4 => ?_) (fun c4 => ?_)
        · refine aw_iconst (v := 0) (pc' := 15) dX12_in_14 rfl (by decide) ?_
          exact aw_ri dX12_in_15 rfl (by decide) (Nat.le_of_ble_eq_true rfl) (Nat.le_of_ble_eq_true rfl) (Or.inr (Or.inl ⟨c3, c4, rfl, rfl⟩))
        · refine aw_iconst (v := 1) (pc' := 11) dX12_in_10 rfl (by decide) ?_
          refine aw_goto (tgt := 15) dX12_in_11 (by decide) ?_
          exact aw_ri dX12_in_15 rfl (by decide) (Nat.le_of_ble_eq_true rfl) (Nat.le_of_ble_eq_true rfl) (Or.inr (Or.inr ⟨c3, c4, rfl, rfl⟩))
    refine aw_callSi (M' := mX12_in) (nc' := 0) (ns' := 0) (pc' := 6) dX12_isShelf_3 rfl ml_RX12_230 kX12_in cc2 rfl rfl (Nat.le_of_ble_eq_true rfl) (rok rfl) rfl rfl (fun r10 h10 q10 => ?_)
    rcases q10 with ⟨c5, rfl, rfl⟩ | ⟨c6, c7, rfl, rfl⟩ | ⟨c8, c9, rfl, rfl⟩
    · exact aw_ri dX12_isShelf_6 rfl (by decide) (Nat.le_of_ble_eq_true rfl) (Nat.le_of_ble_eq_true rfl) (Or.inl ⟨c5, rfl, rfl⟩)
    · exact aw_ri dX12_isShelf_6 rfl (by decide) (Nat.le_of_ble_eq_true rfl) (Nat.le_of_ble_eq_true rfl) (Or.inr (Or.inl ⟨c6, c7, rfl, rfl⟩))
    · exact aw_ri dX12_isShelf_6 rfl (by decide) (Nat.le_of_ble_eq_true rfl) (Nat.le_of_ble_eq_true rfl) (Or.inr (Or.inr ⟨c8, c9, rfl, rfl⟩))
  refine aw_callSi (M' := mX12_isShelf) (nc' := 0) (ns' := 0) (pc' := 4) dX12_shift_1 rfl ml_RX12_288 kX12_isShelf cc1 rfl rfl (Nat.le_of_ble_eq_true rfl) (rok rfl) rfl rfl (fun r16 h16 q16 => ?_)
  rcases q16 with ⟨c11, rfl, rfl⟩ | ⟨c12, c13, rfl, rfl⟩ | ⟨c14, c15, rfl, rfl⟩
  · refine aw_if_eq (tgt := 14) (pc' := 7) dX12_shift_4 (by decide) rfl (fun _ => ?_) (fun c => absurd (by decide) c)
    refine aw_iconst (v := (-1)) (pc' := 15) dX12_shift_14 rfl (by decide) ?_
    exact aw_ri dX12_shift_15 rfl rfl (Nat.le_of_ble_eq_true rfl) (Nat.le_of_ble_eq_true rfl) (by first | (simp [sp_shift, cnd, okC, okS, okW_iff, okN_iff, inR, c11]; done) | (simp_all [sp_shift, cnd, okC, okS, okW_iff, okN_iff, inR]; done) | skip)
  · refine aw_if_eq (tgt := 14) (pc' := 7) dX12_shift_4 (by decide) rfl (fun _ => ?_) (fun c => absurd (by decide) c)
    refine aw_iconst (v := (-1)) (pc' := 15) dX12_shift_14 rfl (by decide) ?_
    exact aw_ri dX12_shift_15 rfl rfl (Nat.le_of_ble_eq_true rfl) (Nat.le_of_ble_eq_true rfl) (by first | (simp [sp_shift, cnd, okC, okS, okW_iff, okN_iff, inR, c12, c13]; done) | (simp_all [sp_shift, cnd, okC, okS, okW_iff, okN_iff, inR]; done) | skip)
  · refine aw_if_eq (tgt := 14) (pc' := 7) dX12_shift_4 (by decide) rfl (fun c => absurd c (by decide)) (fun _ => ?_)
    refine aw_iload_n (pc' := 8) dX12_shift_7 rfl rfl ?_
    have cc17 : AM mX12_isShelf 1 [.int t] h 0 0 (PI fun r h' => (t < 0 ∧ 0 = r ∧ h = h') ∨ (¬ (t < 0) ∧ 5 < t ∧ 0 = r ∧ h = h') ∨ (¬ (t < 0) ∧ ¬ (5 < t) ∧ 1 = r ∧ h = h')) := by
      refine am_of (lv := [some (.int t)]) rfl (Nat.le_of_ble_eq_true rfl) rfl ?_
      refine aw_iload_n (pc' := 1) dX12_isShelf_0 rfl rfl ?_
      refine aw_iconst (v := 0) (pc' := 2) dX12_isShelf_1 rfl (by decide) ?_
      refine aw_iconst (v := 5) (pc' := 3) dX12_isShelf_2 rfl (by decide) ?_
      have cc18 : AM mX12_in 0 [.int t, .int 0, .int 5] h 0 0 (PI fun r h' => (t < 0 ∧ 0 = r ∧ h = h') ∨ (¬ (t < 0) ∧ 5 < t ∧ 0 = r ∧ h = h') ∨ (¬ (t < 0) ∧ ¬ (5 < t) ∧ 1 = r ∧ h = h')) := by
        refine am_of (lv := [some (.int t), some (.int 0), some (.int 5)]) rfl (Nat.le_of_ble_eq_true rfl) rfl ?_
        refine aw_iload_n (pc' := 1) dX12_in_0 rfl rfl ?_
        refine aw_iload_n (pc' := 2) dX12_in_1 rfl rfl ?_
        refine aw_clt (tgt := 14) (pc' := 5) dX12_in_2 (by decide) rfl (fun c19 => ?_) (fun c19 => ?_)
        · refine aw_iconst (v := 0) (pc' := 15) dX12_in_14 rfl (by decide) ?_
          exact aw_ri dX12_in_15 rfl (by decide) (Nat.le_of_ble_eq_true rfl) (Nat.le_of_ble_eq_true rfl) (Or.inl ⟨c19, rfl, rfl⟩)
        · refine aw_iload_n (pc' := 6) dX12_in_5 rfl rfl ?_
          refine aw_iload_n (pc' := 7) dX12_in_6 rfl rfl ?_
          refine aw_cgt (tgt := 14) (pc' := 10) dX12_in_7 (by decide) rfl (fun c20 => ?_) (fun c20 => ?_)
          · refine aw_iconst (v := 0) (pc' := 15) dX12_in_14 rfl (by decide) ?_
            exact aw_ri dX12_in_15 rfl (by decide) (Nat.le_of_ble_eq_true rfl) (Nat.le_of_ble_eq_true rfl) (Or.inr (Or.inl ⟨c19, c20, rfl, rfl⟩))
          · refine aw_iconst (v := 1) (pc' := 11) dX12_in_10 rfl (by decide) ?_
            refine aw_goto (tgt := 15) dX12_in_11 (by decide) ?_
            exact aw_ri dX12_in_15 rfl (by decide) (Nat.le_of_ble_eq_true rfl) (Nat.le_of_ble_eq_true rfl) (Or.inr (Or.inr ⟨c19, c20, rfl, rfl⟩))
      refine aw_callSi (M' := mX12_in) (nc' := 0) (ns' := 0) (pc' := 6) dX12_isShelf_3 rfl ml_RX12_230 kX12_in cc18 rfl rfl (Nat.le_of_ble_eq_true rfl) (rok rfl) rfl rfl (fun r26 h26 q26 => ?_)
      rcases q26 with ⟨c21, rfl, rfl⟩ | ⟨c22, c23, rfl, rfl⟩ | ⟨c24, c25, rfl, rfl⟩
      · exact aw_ri dX12_isShelf_6 rfl (by decide) (Nat.le_of_ble_eq_true rfl) (Nat.le_of_ble_eq_true rfl) (Or.inl ⟨c21, rfl, rfl⟩)
      · exact aw_ri dX12_isShelf_6 rfl (by decide) (Nat.le_of_ble_eq_true rfl) (Nat.le_of_ble_eq_true rfl) (Or.inr (Or.inl ⟨c22, c23, rfl, rfl⟩))
      · exact aw_ri dX12_isShelf_6 rfl (by decide) (Nat.le_of_ble_eq_true rfl) (Nat.le_of_ble_eq_true rfl) (Or.inr (Or.inr ⟨c24, c25, rfl, rfl⟩))
    refine aw_callSi (M' := mX12_isShelf) (nc' := 0) (ns' := 0) (pc' := 11) dX12_shift_8 rfl ml_RX12_288 kX12_isShelf cc17 rfl rfl (Nat.le_of_ble_eq_true rfl) (rok rfl) rfl rfl (fun r32 h32 q32 => ?_)
    rcases q32 with ⟨c27, rfl, rfl⟩ | ⟨c28, c29, rfl, rfl⟩ | ⟨c30, c31, rfl, rfl⟩
    · refine aw_if_ne (tgt := 16) (pc' := 14) dX12_shift_11 (by decide) rfl (fun c => absurd (by decide) c) (fun _ => ?_)
      refine aw_iconst (v := (-1)) (pc' := 15) dX12_shift_14 rfl (by decide) ?_
      exact aw_ri dX12_shift_15 rfl rfl (Nat.le_of_ble_eq_true rfl) (Nat.le_of_ble_eq_true rfl) (by first | (simp [sp_shift, cnd, okC, okS, okW_iff, okN_iff, inR, c14, c15, c27]; done) | (simp_all [sp_shift, cnd, okC, okS, okW_iff, okN_iff, inR]; done) | skip)
    · refine aw_if_ne (tgt := 16) (pc' := 14) dX12_shift_11 (by decide) rfl (fun c => absurd (by decide) c) (fun _ => ?_)
      refine aw_iconst (v := (-1)) (pc' := 15) dX12_shift_14 rfl (by decide) ?_
      exact aw_ri dX12_shift_15 rfl rfl (Nat.le_of_ble_eq_true rfl) (Nat.le_of_ble_eq_true rfl) (by first | (simp [sp_shift, cnd, okC, okS, okW_iff, okN_iff, inR, c14, c15, c28, c29]; done) | (simp_all [sp_shift, cnd, okC, okS, okW_iff, okN_iff, inR]; done) | skip)
    · refine aw_if_ne (tgt := 16) (pc' := 14) dX12_shift_11 (by decide) rfl (fun _ => ?_) (fun c => absurd c (by decide))
      refine aw_aload_n (pc' := 17) dX12_shift_16 rfl rfl rfl ?_
      refine aw_get clsAll (pc' := 20) dX12_shift_17 rfl fl_RX12_208 hm.1 rfl ?_
      refine aw_iload_n (pc' := 21) dX12_shift_20 rfl rfl ?_
      refine aw_iald (v := (-1)) (pc' := 22) dX12_shift_21 rfl ((hm.2 120 (by decide) (by decide)).trans h0_120) (ix_ (hi := 5) (b := 5) rfl (by decide) c14 c15) rfl ?_
      refine aw_iconst (v := (-1)) (pc' := 23) dX12_shift_22 rfl (by decide) ?_
      refine aw_icmp_eq (tgt := 36) (pc' := 26) dX12_shift_23 (by decide) rfl (fun _ => ?_) (fun c => absurd (by decide) c)
      refine aw_bipush (v := (-11)) (pc' := 38) dX12_shift_36 rfl (by decide) ?_
      exact aw_ri dX12_shift_38 rfl rfl (Nat.le_of_ble_eq_true rfl) (Nat.le_of_ble_eq_true rfl) (by first | (simp [sp_shift, cnd, okC, okS, okW_iff, okN_iff, inR, c14, c15, c30, c31]; done) | (simp_all [sp_shift, cnd, okC, okS, okW_iff, okN_iff, inR]; done) | skip)
