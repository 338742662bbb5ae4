set_option maxRecDepth 4000 in
theorem x_hard (h : List aE) (hx : Fx 0 h) (hlen : h.length = 126) (c : Int32) (v : Int32) : AM mX11_hard 2 [.ref 8, .int c, .int v] h 0 0 (PI fun r h' => r = sp_hard c v ∧ Sm h h') := by
  refine am_of (lv := [some (.ref 8), some (.int c), some (.int v), none, none]) rfl (Nat.le_of_ble_eq_true rfl) rfl ?_
  refine aw_iload_n (pc' := 1) dX11_hard_0 rfl rfl ?_
  have cc1 : AM mX11_placeOf 1 [.int c] h 0 0 (PI fun r h' => (c < 0 ∧ (-1) = r ∧ h = h') ∨ (¬ (c < 0) ∧ ¬ ((c / 100) < 32) ∧ (-1) = r ∧ h = h') ∨ (¬ (c < 0) ∧ (c / 100) < 32 ∧ (c % 100) < 1 ∧ (-1) = r ∧ h = h') ∨ (¬ (c < 0) ∧ (c / 100) < 32 ∧ ¬ ((c % 100) < 1) ∧ 60 < (c % 100) ∧ (-1) = r ∧ h = h') ∨ (¬ (c < 0) ∧ (c / 100) < 32 ∧ ¬ ((c % 100) < 1) ∧ ¬ (60 < (c % 100)) ∧ ((((c / 100) * 60) + (c % 100)) - 1) = r ∧ h = h')) := by
    refine am_of (lv := [some (.int c)]) rfl (Nat.le_of_ble_eq_true rfl) rfl ?_
    refine aw_iload_n (pc' := 1) dX11_placeOf_0 rfl rfl ?_
    refine aw_zlt (tgt := 23) (pc' := 4) dX11_placeOf_1 (by decide) rfl (fun c2 => ?_) (fun c2 => ?_)
    · refine aw_iconst (v := (-1)) (pc' := 24) dX11_placeOf_23 rfl (by decide) ?_
      exact aw_ri dX11_placeOf_24 rfl rfl (Nat.le_of_ble_eq_true rfl) (Nat.le_of_ble_eq_true rfl) (Or.inl ⟨c2, rfl, rfl⟩)
    · refine aw_iload_n (pc' := 5) dX11_placeOf_4 rfl rfl ?_
      refine aw_bipush (v := 100) (pc' := 7) dX11_placeOf_5 rfl (by decide) ?_
      refine aw_idiv (pc' := 8) dX11_placeOf_7 rfl (by decide) ?_
      refine aw_bipush (v := 32) (pc' := 10) dX11_placeOf_8 rfl (by decide) ?_
      refine aw_cge (tgt := 23) (pc' := 13) dX11_placeOf_10 (by decide) rfl (fun c3 => ?_) (fun c3 => ?_)
      · refine aw_iconst (v := (-1)) (pc' := 24) dX11_placeOf_23 rfl (by decide) ?_
        exact aw_ri dX11_placeOf_24 rfl rfl (Nat.le_of_ble_eq_true rfl) (Nat.le_of_ble_eq_true rfl) (Or.inr (Or.inl ⟨c2, c3, rfl, rfl⟩))
      · refine aw_iload_n (pc' := 14) dX11_placeOf_13 rfl rfl ?_
        refine aw_bipush (v := 100) (pc' := 16) dX11_placeOf_14 rfl (by decide) ?_
        refine aw_irem (pc' := 17) dX11_placeOf_16 rfl (by decide) ?_
        have cc4 : AM mX11_isYard 0 [.int (c % 100)] h 0 0 (PI fun r h' => ((c % 100) < 1 ∧ 0 = r ∧ h = h') ∨ (¬ ((c % 100) < 1) ∧ 60 < (c % 100) ∧ 0 = r ∧ h = h') ∨ (¬ ((c % 100) < 1) ∧ ¬ (60 < (c % 100)) ∧ 1 = r ∧ h = h')) := by
          refine am_of (lv := [some (.int (c % 100))]) rfl (Nat.le_of_ble_eq_true rfl) rfl ?_
          refine aw_iload_n (pc' := 1) dX11_isYard_0 rfl rfl ?_
          refine aw_iconst (v := 1) (pc' := 2) dX11_isYard_1 rfl (by decide) ?_
          refine aw_clt (tgt := 15) (pc' := 5) dX11_isYard_2 (by decide) rfl (fun c5 => ?_) (fun c5 => ?_)
          · refine aw_iconst (v := 0) (pc' := 16) dX11_isYard_15 rfl (by decide) ?_
            exact aw_ri dX11_isYard_16 rfl (by decide) (Nat.le_of_ble_eq_true rfl) (Nat.le_of_ble_eq_true rfl) (Or.inl ⟨c5, rfl, rfl⟩)
          · refine aw_iload_n (pc' := 6) dX11_isYard_5 rfl rfl ?_
            refine aw_bipush (v := 60) (pc' := 8) dX11_isYard_6 rfl (by decide) ?_
            refine aw_cgt (tgt := 15) (pc' := 11) dX11_isYard_8 (by decide) rfl (fun c6 => ?_) (fun c6 => ?_)
            · refine aw_iconst (v := 0) (pc' := 16) dX11_isYard_15 rfl (by decide) ?_
              exact aw_ri dX11_isYard_16 rfl (by decide) (Nat.le_of_ble_eq_true rfl) (Nat.le_of_ble_eq_true rfl) (Or.inr (Or.inl ⟨c5, c6, rfl, rfl⟩))
            · refine aw_iconst (v := 1) (pc' := 12) dX11_isYard_11 rfl (by decide) ?_
              refine aw_goto (tgt := 16) dX11_isYard_12 (by decide) ?_
              exact aw_ri dX11_isYard_16 rfl (by decide) (Nat.le_of_ble_eq_true rfl) (Nat.le_of_ble_eq_true rfl) (Or.inr (Or.inr ⟨c5, c6, rfl, rfl⟩))
        refine aw_callSi (M' := mX11_isYard) (nc' := 0) (ns' := 0) (pc' := 20) dX11_placeOf_17 rfl ml_RX11_122 kX11_isYard cc4 rfl rfl (Nat.le_of_ble_eq_true rfl) (rok rfl) rfl rfl (fun r12 h12 q12 => ?_)
        rcases q12 with ⟨c7, rfl, rfl⟩ | ⟨c8, c9, rfl, rfl⟩ | ⟨c10, c11, rfl, rfl⟩
        · refine aw_if_ne (tgt := 25) (pc' := 23) dX11_placeOf_20 (by decide) rfl (fun c => absurd (by decide) c) (fun _ => ?_)
          refine aw_iconst (v := (-1)) (pc' := 24) dX11_placeOf_23 rfl (by decide) ?_
          exact aw_ri dX11_placeOf_24 rfl rfl (Nat.le_of_ble_eq_true rfl) (Nat.le_of_ble_eq_true rfl) (Or.inr (Or.inr (Or.inl ⟨c2, c3, c7, rfl, rfl⟩)))
        · refine aw_if_ne (tgt := 25) (pc' := 23) dX11_placeOf_20 (by decide) rfl (fun c => absurd (by decide) c) (fun _ => ?_)
          refine aw_iconst (v := (-1)) (pc' := 24) dX11_placeOf_23 rfl (by decide) ?_
          exact aw_ri dX11_placeOf_24 rfl rfl (Nat.le_of_ble_eq_true rfl) (Nat.le_of_ble_eq_true rfl) (Or.inr (Or.inr (Or.inr (Or.inl ⟨c2, c3, c8, c9, rfl, rfl⟩))))
        · refine aw_if_ne (tgt := 25) (pc' := 23) dX11_placeOf_20 (by decide) rfl (fun _ => ?_) (fun c => absurd c (by decide))
          refine aw_iload_n (pc' := 26) dX11_placeOf_25 rfl rfl ?_
          refine aw_bipush (v := 100) (pc' := 28) dX11_placeOf_26 rfl (by decide) ?_
          refine aw_idiv (pc' := 29) dX11_placeOf_28 rfl (by decide) ?_
          refine aw_bipush (v := 60) (pc' := 31) dX11_placeOf_29 rfl (by decide) ?_
          refine aw_imul (pc' := 32) dX11_placeOf_31 rfl ?_
          refine aw_iload_n (pc' := 33) dX11_placeOf_32 rfl rfl ?_
          refine aw_bipush (v := 100) (pc' := 35) dX11_placeOf_33 rfl (by decide) ?_
          refine aw_irem (pc' := 36) dX11_placeOf_35 rfl (by decide) ?_
          refine aw_iadd (pc' := 37) dX11_placeOf_36 rfl ?_
          refine aw_iconst (v := 1) (pc' := 38) dX11_placeOf_37 rfl (by decide) ?_
          refine aw_isub (pc' := 39) dX11_placeOf_38 rfl ?_
          exact aw_ri dX11_placeOf_39 rfl rfl (Nat.le_of_ble_eq_true rfl) (Nat.le_of_ble_eq_true rfl) (Or.inr (Or.inr (Or.inr (Or.inr ⟨c2, c3, c10, c11, rfl, rfl⟩))))
  refine aw_callSi (M' := mX11_placeOf) (nc' := 0) (ns' := 0) (pc' := 4) dX11_hard_1 rfl ml_RX11_101 kX11_placeOf cc1 rfl rfl (Nat.le_of_ble_eq_true rfl) (rok rfl) rfl rfl (fun r27 h27 q27 => ?_)
  rcases q27 with ⟨c13, rfl, rfl⟩ | ⟨c14, c15, rfl, rfl⟩ | ⟨c16, c17, c18, rfl, rfl⟩ | ⟨c19, c20, c21, c22, rfl, rfl⟩ | ⟨c23, c24, c25, c26, rfl, rfl⟩
  · refine aw_istore_n (lv' := [_, _, _, _, _]) (pc' := 5) dX11_hard_4 rfl (Nat.le_of_ble_eq_true rfl) rfl ?_
    refine aw_iload_n (pc' := 6) dX11_hard_5 rfl rfl ?_
    refine aw_zlt (tgt := 20) (pc' := 9) dX11_hard_6 (by decide) rfl (fun _ => ?_) (fun c => absurd (by decide) c)
    refine aw_iconst (v := (-1)) (pc' := 21) dX11_hard_20 rfl (by decide) ?_
    exact aw_ri dX11_hard_21 rfl rfl (Nat.le_of_ble_eq_true rfl) (Nat.le_of_ble_eq_true rfl) ⟨(by first | (simp [sp_hard, cnd, okC, okS, okW, okN, inR, n2_, n3_, n5_, n31_, c13]; done) | (simp_all [sp_hard, cnd, okC, okS, okW, okN, inR, n2_, n3_, n5_, n31_]; done) | skip), sm_rf⟩
  · refine aw_istore_n (lv' := [_, _, _, _, _]) (pc' := 5) dX11_hard_4 rfl (Nat.le_of_ble_eq_true rfl) rfl ?_
    refine aw_iload_n (pc' := 6) dX11_hard_5 rfl rfl ?_
    refine aw_zlt (tgt := 20) (pc' := 9) dX11_hard_6 (by decide) rfl (fun _ => ?_) (fun c => absurd (by decide) c)
    refine aw_iconst (v := (-1)) (pc' := 21) dX11_hard_20 rfl (by decide) ?_
    exact aw_ri dX11_hard_21 rfl rfl (Nat.le_of_ble_eq_true rfl) (Nat.le_of_ble_eq_true rfl) ⟨(by first | (simp [sp_hard, cnd, okC, okS, okW, okN, inR, n2_, n3_, n5_, n31_, c14, c15]; done) | (simp_all [sp_hard, cnd, okC, okS, okW, okN, inR, n2_, n3_, n5_, n31_]; done) | skip), sm_rf⟩
  · refine aw_istore_n (lv' := [_, _, _, _, _]) (pc' := 5) dX11_hard_4 rfl (Nat.le_of_ble_eq_true rfl) rfl ?_
    refine aw_iload_n (pc' := 6) dX11_hard_5 rfl rfl ?_
    refine aw_zlt (tgt := 20) (pc' := 9) dX11_hard_6 (by decide) rfl (fun _ => ?_) (fun c => absurd (by decide) c)
    refine aw_iconst (v := (-1)) (pc' := 21) dX11_hard_20 rfl (by decide) ?_
    exact aw_ri dX11_hard_21 rfl rfl (Nat.le_of_ble_eq_true rfl) (Nat.le_of_ble_eq_true rfl) ⟨(by first | (simp [sp_hard, cnd, okC, okS, okW, okN, inR, n2_, n3_, n5_, n31_, c16, c17, c18]; done) | (simp_all [sp_hard, cnd, okC, okS, okW, okN, inR, n2_, n3_, n5_, n31_]; done) | skip), sm_rf⟩
  · refine aw_istore_n (lv' := [_, _, _, _, _]) (pc' := 5) dX11_hard_4 rfl (Nat.le_of_ble_eq_true rfl) rfl ?_
    refine aw_iload_n (pc' := 6) dX11_hard_5 rfl rfl ?_
    refine aw_zlt (tgt := 20) (pc' := 9) dX11_hard_6 (by decide) rfl (fun _ => ?_) (fun c => absurd (by decide) c)
    refine aw_iconst (v := (-1)) (pc' := 21) dX11_hard_20 rfl (by decide) ?_
    exact aw_ri dX11_hard_21 rfl rfl (Nat.le_of_ble_eq_true rfl) (Nat.le_of_ble_eq_true rfl) ⟨(by first | (simp [sp_hard, cnd, okC, okS, okW, okN, inR, n2_, n3_, n5_, n31_, c19, c20, c21, c22]; done) | (simp_all [sp_hard, cnd, okC, okS, okW, okN, inR, n2_, n3_, n5_, n31_]; done) | skip), sm_rf⟩
  · refine aw_istore_n (lv' := [_, _, _, _, _]) (pc' := 5) dX11_hard_4 rfl (Nat.le_of_ble_eq_true rfl) rfl ?_
    refine aw_iload_n (pc' := 6) dX11_hard_5 rfl rfl ?_
    refine aw_zlt (tgt := 20) (pc' := 9) dX11_hard_6 (by decide) rfl (fun c => absurd c (pl_nn c23 c24 c25 c26)) (fun _ => ?_)
    refine aw_iload_n (pc' := 10) dX11_hard_9 rfl rfl ?_
    refine aw_iconst (v := 1) (pc' := 11) dX11_hard_10 rfl (by decide) ?_
    refine aw_clt (tgt := 20) (pc' := 14) dX11_hard_11 (by decide) rfl (fun c28 => ?_) (fun c28 => ?_)
    · refine aw_iconst (v := (-1)) (pc' := 21) dX11_hard_20 rfl (by decide) ?_
      exact aw_ri dX11_hard_21 rfl rfl (Nat.le_of_ble_eq_true rfl) (Nat.le_of_ble_eq_true rfl) ⟨(by first | (simp [sp_hard, cnd, okC, okS, okW, okN, inR, n2_, n3_, n5_, n31_, c23, c24, c25, c26, c28]; done) | (simp_all [sp_hard, cnd, okC, okS, okW, okN, inR, n2_, n3_, n5_, n31_]; done) | skip), sm_rf⟩
    · refine aw_iload_n (pc' := 15) dX11_hard_14 rfl rfl ?_
      refine aw_bipush (v := 9) (pc' := 17) dX11_hard_15 rfl (by decide) ?_
      refine aw_cle (tgt := 22) (pc' := 20) dX11_hard_17 (by decide) rfl (fun c29 => ?_) (fun c29 => ?_)
      · refine aw_aload_n (pc' := 23) dX11_hard_22 rfl rfl rfl ?_
        refine aw_get clsAll (pc' := 26) dX11_hard_23 rfl fl_RX11_10 hx.1 rfl ?_
        refine aw_get clsAll (pc' := 29) dX11_hard_26 rfl fl_RX11_105 ((hx.2 1 (by decide) (by decide)).trans h0_1) rfl ?_
        refine aw_iload_n (pc' := 30) dX11_hard_29 rfl rfl ?_
        refine aw_iald (v := 3) (pc' := 31) dX11_hard_30 rfl ((hx.2 2 (by decide) (by decide)).trans h0_2) (pl_x c23 c24 c25 c26) rfl ?_
        refine aw_istore (lv' := [_, _, _, _, _]) (pc' := 33) dX11_hard_31 rfl (Nat.le_of_ble_eq_true rfl) rfl ?_
        refine aw_aload_n (pc' := 34) dX11_hard_33 rfl rfl rfl ?_
        refine aw_get clsAll (pc' := 37) dX11_hard_34 rfl fl_RX11_10 hx.1 rfl ?_
        refine aw_get clsAll (pc' := 40) dX11_hard_37 rfl fl_RX11_105 ((hx.2 1 (by decide) (by decide)).trans h0_1) rfl ?_
        refine aw_iload_n (pc' := 41) dX11_hard_40 rfl rfl ?_
        refine aw_iload_n (pc' := 42) dX11_hard_41 rfl rfl ?_
        refine aw_iastG (pc' := 43) dX11_hard_42 rfl ((hx.2 2 (by decide) (by decide)).trans h0_2) (pl_x c23 c24 c25 c26) (fun h30 e30 => ?_)
        refine aw_iload (pc' := 45) dX11_hard_43 rfl rfl ?_
        exact aw_ri dX11_hard_45 rfl rfl (Nat.le_of_ble_eq_true rfl) (Nat.le_of_ble_eq_true rfl) ⟨(by first | (simp [sp_hard, cnd, okC, okS, okW, okN, inR, n2_, n3_, n5_, n31_, c23, c24, c25, c26, c28, c29]; done) | (simp_all [sp_hard, cnd, okC, okS, okW, okN, inR, n2_, n3_, n5_, n31_]; done) | skip), (sm_set e30 (by decide) sm_rf)⟩
      · refine aw_iconst (v := (-1)) (pc' := 21) dX11_hard_20 rfl (by decide) ?_
        exact aw_ri dX11_hard_21 rfl rfl (Nat.le_of_ble_eq_true rfl) (Nat.le_of_ble_eq_true rfl) ⟨(by first | (simp [sp_hard, cnd, okC, okS, okW, okN, inR, n2_, n3_, n5_, n31_, c23, c24, c25, c26, c28, c29]; done) | (simp_all [sp_hard, cnd, okC, okS, okW, okN, inR, n2_, n3_, n5_, n31_]; done) | skip), sm_rf⟩
set_option maxRecDepth 4000 in
theorem x_open (h : List aE) (hx : Fx 0 h) (hlen : h.length = 126) (c : Int32) (v : Int32) : AM mX11_open 2 [.ref 8, .int c, .int v] h 0 0 (PI fun r h' => r = sp_open c v ∧ Sm h h') := by
  refine am_of (lv := [some (.ref 8), some (.int c), some (.int v), none, none]) rfl (Nat.le_of_ble_eq_true rfl) rfl ?_
  refine aw_iload_n (pc' := 1) dX11_open_0 rfl rfl ?_
  have cc1 : AM mX11_placeOf 1 [.int c] h 0 0 (PI fun r h' => (c < 0 ∧ (-1) = r ∧ h = h') ∨ (¬ (c < 0) ∧ ¬ ((c / 100) < 32) ∧ (-1) = r ∧ h = h') ∨ (¬ (c < 0) ∧ (c / 100) < 32 ∧ (c % 100) < 1 ∧ (-1) = r ∧ h = h') ∨ (¬ (c < 0) ∧ (c / 100) < 32 ∧ ¬ ((c % 100) < 1) ∧ 60 < (c % 100) ∧ (-1) = r ∧ h = h') ∨ (¬ (c < 0) ∧ (c / 100) < 32 ∧ ¬ ((c % 100) < 1) ∧ ¬ (60 < (c % 100)) ∧ ((((c / 100) * 60) + (c % 100)) - 1) = r ∧ h = h')) := by
    refine am_of (lv := [some (.int c)]) rfl (Nat.le_of_ble_eq_true rfl) rfl ?_
    refine aw_iload_n (pc' := 1) dX11_placeOf_0 rfl rfl ?_
    refine aw_zlt (tgt := 23) (pc' := 4) dX11_placeOf_1 (by decide) rfl (fun c2 => ?_) (fun c2 => ?_)
    · refine aw_iconst (v := (-1)) (pc' := 24) dX11_placeOf_23 rfl (by decide) ?_
      exact aw_ri dX11_placeOf_24 rfl rfl (Nat.le_of_ble_eq_true rfl) (Nat.le_of_ble_eq_true rfl) (Or.inl ⟨c2, rfl, rfl⟩)
    · refine aw_iload_n (pc' := 5) dX11_placeOf_4 rfl rfl ?_
      refine aw_bipush (v := 100) (pc' := 7) dX11_placeOf_5 rfl (by decide) ?_
      refine aw_idiv (pc' := 8) dX11_placeOf_7 rfl (by decide) ?_
      refine aw_bipush (v := 32) (pc' := 10) dX11_placeOf_8 rfl (by decide) ?_
      refine aw_cge (tgt := 23) (pc' := 13) dX11_placeOf_10 (by decide) rfl (fun c3 => ?_) (fun c3 => ?_)
      · refine aw_iconst (v := (-1)) (pc' := 24) dX11_placeOf_23 rfl (by decide) ?_
        exact aw_ri dX11_placeOf_24 rfl rfl (Nat.le_of_ble_eq_true rfl) (Nat.le_of_ble_eq_true rfl) (Or.inr (Or.inl ⟨c2, c3, rfl, rfl⟩))
      · refine aw_iload_n (pc' := 14) dX11_placeOf_13 rfl rfl ?_
        refine aw_bipush (v := 100) (pc' := 16) dX11_placeOf_14 rfl (by decide) ?_
        refine aw_irem (pc' := 17) dX11_placeOf_16 rfl (by decide) ?_
        have cc4 : AM mX11_isYard 0 [.int (c % 100)] h 0 0 (PI fun r h' => ((c % 100) < 1 ∧ 0 = r ∧ h = h') ∨ (¬ ((c % 100) < 1) ∧ 60 < (c % 100) ∧ 0 = r ∧ h = h') ∨ (¬ ((c % 100) < 1) ∧ ¬ (60 < (c % 100)) ∧ 1 = r ∧ h = h')) := by
          refine am_of (lv := [some (.int (c % 100))]) rfl (Nat.le_of_ble_eq_true rfl) rfl ?_
          refine aw_iload_n (pc' := 1) dX11_isYard_0 rfl rfl ?_
          refine aw_iconst (v := 1) (pc' := 2) dX11_isYard_1 rfl (by decide) ?_
          refine aw_clt (tgt := 15) (pc' := 5) dX11_isYard_2 (by decide) rfl (fun c5 => ?_) (fun c5 => ?_)
          · refine aw_iconst (v := 0) (pc' := 16) dX11_isYard_15 rfl (by decide) ?_
            exact aw_ri dX11_isYard_16 rfl (by decide) (Nat.le_of_ble_eq_true rfl) (Nat.le_of_ble_eq_true rfl) (Or.inl ⟨c5, rfl, rfl⟩)
          · refine aw_iload_n (pc' := 6) dX11_isYard_5 rfl rfl ?_
            refine aw_bipush (v := 60) (pc' := 8) dX11_isYard_6 rfl (by decide) ?_
            refine aw_cgt (tgt := 15) (pc' := 11) dX11_isYard_8 (by decide) rfl (fun c6 => ?_) (fun c6 => ?_)
            · refine aw_iconst (v := 0) (pc' := 16) dX11_isYard_15 rfl (by decide) ?_
              exact aw_ri dX11_isYard_16 rfl (by decide) (Nat.le_of_ble_eq_true rfl) (Nat.le_of_ble_eq_true rfl) (Or.inr (Or.inl ⟨c5, c6, rfl, rfl⟩))
            · refine aw_iconst (v := 1) (pc' := 12) dX11_isYard_11 rfl (by decide) ?_
              refine aw_goto (tgt := 16) dX11_isYard_12 (by decide) ?_
              exact aw_ri dX11_isYard_16 rfl (by decide) (Nat.le_of_ble_eq_true rfl) (Nat.le_of_ble_eq_true rfl) (Or.inr (Or.inr ⟨c5, c6, rfl, rfl⟩))
        refine aw_callSi (M' := mX11_isYard) (nc' := 0) (ns' := 0) (pc' := 20) dX11_placeOf_17 rfl ml_RX11_122 kX11_isYard cc4 rfl rfl (Nat.le_of_ble_eq_true rfl) (rok rfl) rfl rfl (fun r12 h12 q12 => ?_)
        rcases q12 with ⟨c7, rfl, rfl⟩ | ⟨c8, c9, rfl, rfl⟩ | ⟨c10, c11, rfl, rfl⟩
        · refine aw_if_ne (tgt := 25) (pc' := 23) dX11_placeOf_20 (by decide) rfl (fun c => absurd (by decide) c) (fun _ => ?_)
          refine aw_iconst (v := (-1)) (pc' := 24) dX11_placeOf_23 rfl (by decide) ?_
          exact aw_ri dX11_placeOf_24 rfl rfl (Nat.le_of_ble_eq_true rfl) (Nat.le_of_ble_eq_true rfl) (Or.inr (Or.inr (Or.inl ⟨c2, c3, c7, rfl, rfl⟩)))
        · refine aw_if_ne (tgt := 25) (pc' := 23) dX11_placeOf_20 (by decide) rfl (fun c => absurd (by decide) c) (fun _ => ?_)
          refine aw_iconst (v := (-1)) (pc' := 24) dX11_placeOf_23 rfl (by decide) ?_
          exact aw_ri dX11_placeOf_24 rfl rfl (Nat.le_of_ble_eq_true rfl) (Nat.le_of_ble_eq_true rfl) (Or.inr (Or.inr (Or.inr (Or.inl ⟨c2, c3, c8, c9, rfl, rfl⟩))))
        · refine aw_if_ne (tgt := 25) (pc' := 23) dX11_placeOf_20 (by decide) rfl (fun _ => ?_) (fun c => absurd c (by decide))
          refine aw_iload_n (pc' := 26) dX11_placeOf_25 rfl rfl ?_
          refine aw_bipush (v := 100) (pc' := 28) dX11_placeOf_26 rfl (by decide) ?_
          refine aw_idiv (pc' := 29) dX11_placeOf_28 rfl (by decide) ?_
          refine aw_bipush (v := 60) (pc' := 31) dX11_placeOf_29 rfl (by decide) ?_
          refine aw_imul (pc' := 32) dX11_placeOf_31 rfl ?_
          refine aw_iload_n (pc' := 33) dX11_placeOf_32 rfl rfl ?_
          refine aw_bipush (v := 100) (pc' := 35) dX11_placeOf_33 rfl (by decide) ?_
          refine aw_irem (pc' := 36) dX11_placeOf_35 rfl (by decide) ?_
          refine aw_iadd (pc' := 37) dX11_placeOf_36 rfl ?_
          refine aw_iconst (v := 1) (pc' := 38) dX11_placeOf_37 rfl (by decide) ?_
          refine aw_isub (pc' := 39) dX11_placeOf_38 rfl ?_
          exact aw_ri dX11_placeOf_39 rfl rfl (Nat.le_of_ble_eq_true rfl) (Nat.le_of_ble_eq_true rfl) (Or.inr (Or.inr (Or.inr (Or.inr ⟨c2, c3, c10, c11, rfl, rfl⟩))))
  refine aw_callSi (M' := mX11_placeOf) (nc' := 0) (ns' := 0) (pc' := 4) dX11_open_1 rfl ml_RX11_101 kX11_placeOf cc1 rfl rfl (Nat.le_of_ble_eq_true rfl) (rok rfl) rfl rfl (fun r27 h27 q27 => ?_)
  rcases q27 with ⟨c13, rfl, rfl⟩ | ⟨c14, c15, rfl, rfl⟩ | ⟨c16, c17, c18, rfl, rfl⟩ | ⟨c19, c20, c21, c22, rfl, rfl⟩ | ⟨c23, c24, c25, c26, rfl, rfl⟩
  · refine aw_istore_n (lv' := [_, _, _, _, _]) (pc' := 5) dX11_open_4 rfl (Nat.le_of_ble_eq_true rfl) rfl ?_
    refine aw_iload_n (pc' := 6) dX11_open_5 rfl rfl ?_
    refine aw_zlt (tgt := 18) (pc' := 9) dX11_open_6 (by decide) rfl (fun _ => ?_) (fun c => absurd (by decide) c)
    refine aw_iconst (v := (-1)) (pc' := 19) dX11_open_18 rfl (by decide) ?_
    exact aw_ri dX11_open_19 rfl rfl (Nat.le_of_ble_eq_true rfl) (Nat.le_of_ble_eq_true rfl) ⟨(by first | (simp [sp_open, cnd, okC, okS, okW, okN, inR, n2_, n3_, n5_, n31_, c13]; done) | (simp_all [sp_open, cnd, okC, okS, okW, okN, inR, n2_, n3_, n5_, n31_]; done) | skip), sm_rf⟩
  · refine aw_istore_n (lv' := [_, _, _, _, _]) (pc' := 5) dX11_open_4 rfl (Nat.le_of_ble_eq_true rfl) rfl ?_
    refine aw_iload_n (pc' := 6) dX11_open_5 rfl rfl ?_
    refine aw_zlt (tgt := 18) (pc' := 9) dX11_open_6 (by decide) rfl (fun _ => ?_) (fun c => absurd (by decide) c)
    refine aw_iconst (v := (-1)) (pc' := 19) dX11_open_18 rfl (by decide) ?_
    exact aw_ri dX11_open_19 rfl rfl (Nat.le_of_ble_eq_true rfl) (Nat.le_of_ble_eq_true rfl) ⟨(by first | (simp [sp_open, cnd, okC, okS, okW, okN, inR, n2_, n3_, n5_, n31_, c14, c15]; done) | (simp_all [sp_open, cnd, okC, okS, okW, okN, inR, n2_, n3_, n5_, n31_]; done) | skip), sm_rf⟩
  · refine aw_istore_n (lv' := [_, _, _, _, _]) (pc' := 5) dX11_open_4 rfl (Nat.le_of_ble_eq_true rfl) rfl ?_
    refine aw_iload_n (pc' := 6) dX11_open_5 rfl rfl ?_
    refine aw_zlt (tgt := 18) (pc' := 9) dX11_open_6 (by decide) rfl (fun _ => ?_) (fun c => absurd (by decide) c)
    refine aw_iconst (v := (-1)) (pc' := 19) dX11_open_18 rfl (by decide) ?_
    exact aw_ri dX11_open_19 rfl rfl (Nat.le_of_ble_eq_true rfl) (Nat.le_of_ble_eq_true rfl) ⟨(by first | (simp [sp_open, cnd, okC, okS, okW, okN, inR, n2_, n3_, n5_, n31_, c16, c17, c18]; done) | (simp_all [sp_open, cnd, okC, okS, okW, okN, inR, n2_, n3_, n5_, n31_]; done) | skip), sm_rf⟩
  · refine aw_istore_n (lv' := [_, _, _, _, _]) (pc' := 5) dX11_open_4 rfl (Nat.le_of_ble_eq_true rfl) rfl ?_
    refine aw_iload_n (pc' := 6) dX11_open_5 rfl rfl ?_
    refine aw_zlt (tgt := 18) (pc' := 9) dX11_open_6 (by decide) rfl (fun _ => ?_) (fun c => absurd (by decide) c)
    refine aw_iconst (v := (-1)) (pc' := 19) dX11_open_18 rfl (by decide) ?_
    exact aw_ri dX11_open_19 rfl rfl (Nat.le_of_ble_eq_true rfl) (Nat.le_of_ble_eq_true rfl) ⟨(by first | (simp [sp_open, cnd, okC, okS, okW, okN, inR, n2_, n3_, n5_, n31_, c19, c20, c21, c22]; done) | (simp_all [sp_open, cnd, okC, okS, okW, okN, inR, n2_, n3_, n5_, n31_]; done) | skip), sm_rf⟩
  · refine aw_istore_n (lv' := [_, _, _, _, _]) (pc' := 5) dX11_open_4 rfl (Nat.le_of_ble_eq_true rfl) rfl ?_
    refine aw_iload_n (pc' := 6) dX11_open_5 rfl rfl ?_
    refine aw_zlt (tgt := 18) (pc' := 9) dX11_open_6 (by decide) rfl (fun c => absurd c (pl_nn c23 c24 c25 c26)) (fun _ => ?_)
    refine aw_iload_n (pc' := 10) dX11_open_9 rfl rfl ?_
    refine aw_zlt (tgt := 18) (pc' := 13) dX11_open_10 (by decide) rfl (fun c28 => ?_) (fun c28 => ?_)
    · refine aw_iconst (v := (-1)) (pc' := 19) dX11_open_18 rfl (by decide) ?_
      exact aw_ri dX11_open_19 rfl rfl (Nat.le_of_ble_eq_true rfl) (Nat.le_of_ble_eq_true rfl) ⟨(by first | (simp [sp_open, cnd, okC, okS, okW, okN, inR, n2_, n3_, n5_, n31_, c23, c24, c25, c26, c28]; done) | (simp_all [sp_open, cnd, okC, okS, okW, okN, inR, n2_, n3_, n5_, n31_]; done) | skip), sm_rf⟩
    · refine aw_iload_n (pc' := 14) dX11_open_13 rfl rfl ?_
      refine aw_iconst (v := 1) (pc' := 15) dX11_open_14 rfl (by decide) ?_
      refine aw_cle (tgt := 20) (pc' := 18) dX11_open_15 (by decide) rfl (fun c29 => ?_) (fun c29 => ?_)
      · refine aw_aload_n (pc' := 21) dX11_open_20 rfl rfl rfl ?_
        refine aw_get clsAll (pc' := 24) dX11_open_21 rfl fl_RX11_10 hx.1 rfl ?_
        refine aw_get clsAll (pc' := 27) dX11_open_24 rfl fl_RX11_108 ((hx.2 1 (by decide) (by decide)).trans h0_1) rfl ?_
        refine aw_iload_n (pc' := 28) dX11_open_27 rfl rfl ?_
        refine aw_iald (v := 0) (pc' := 29) dX11_open_28 rfl ((hx.2 3 (by decide) (by decide)).trans h0_3) (pl_x c23 c24 c25 c26) rfl ?_
        refine aw_istore (lv' := [_, _, _, _, _]) (pc' := 31) dX11_open_29 rfl (Nat.le_of_ble_eq_true rfl) rfl ?_
        refine aw_aload_n (pc' := 32) dX11_open_31 rfl rfl rfl ?_
        refine aw_get clsAll (pc' := 35) dX11_open_32 rfl fl_RX11_10 hx.1 rfl ?_
        refine aw_get clsAll (pc' := 38) dX11_open_35 rfl fl_RX11_108 ((hx.2 1 (by decide) (by decide)).trans h0_1) rfl ?_
        refine aw_iload_n (pc' := 39) dX11_open_38 rfl rfl ?_
        refine aw_iload_n (pc' := 40) dX11_open_39 rfl rfl ?_
        refine aw_iastG (pc' := 41) dX11_open_40 rfl ((hx.2 3 (by decide) (by decide)).trans h0_3) (pl_x c23 c24 c25 c26) (fun h30 e30 => ?_)
        refine aw_iload (pc' := 43) dX11_open_41 rfl rfl ?_
        exact aw_ri dX11_open_43 rfl rfl (Nat.le_of_ble_eq_true rfl) (Nat.le_of_ble_eq_true rfl) ⟨(by first | (simp [sp_open, cnd, okC, okS, okW, okN, inR, n2_, n3_, n5_, n31_, c23, c24, c25, c26, c28, c29]; done) | (simp_all [sp_open, cnd, okC, okS, okW, okN, inR, n2_, n3_, n5_, n31_]; done) | skip), (sm_set e30 (by decide) sm_rf)⟩
      · refine aw_iconst (v := (-1)) (pc' := 19) dX11_open_18 rfl (by decide) ?_
        exact aw_ri dX11_open_19 rfl rfl (Nat.le_of_ble_eq_true rfl) (Nat.le_of_ble_eq_true rfl) ⟨(by first | (simp [sp_open, cnd, okC, okS, okW, okN, inR, n2_, n3_, n5_, n31_, c23, c24, c25, c26, c28, c29]; done) | (simp_all [sp_open, cnd, okC, okS, okW, okN, inR, n2_, n3_, n5_, n31_]; done) | skip), sm_rf⟩
set_option maxRecDepth 4000 in
theorem x_ofCell (h : List aE) (hx : Fx 0 h) (hlen : h.length = 126) (c : Int32) (v : Int32) : AM mX11_ofCell 2 [.ref 8, .int c, .int v] h 0 0 (PI fun r h' => r = sp_ofCell c v ∧ Sm h h') := by
  refine am_of (lv := [some (.ref 8), some (.int c), some (.int v), none]) rfl (Nat.le_of_ble_eq_true rfl) rfl ?_
  refine aw_iload_n (pc' := 1) dX11_ofCell_0 rfl rfl ?_
  have cc1 : AM mX11_placeOf 1 [.int c] h 0 0 (PI fun r h' => (c < 0 ∧ (-1) = r ∧ h = h') ∨ (¬ (c < 0) ∧ ¬ ((c / 100) < 32) ∧ (-1) = r ∧ h = h') ∨ (¬ (c < 0) ∧ (c / 100) < 32 ∧ (c % 100) < 1 ∧ (-1) = r ∧ h = h') ∨ (¬ (c < 0) ∧ (c / 100) < 32 ∧ ¬ ((c % 100) < 1) ∧ 60 < (c % 100) ∧ (-1) = r ∧ h = h') ∨ (¬ (c < 0) ∧ (c / 100) < 32 ∧ ¬ ((c % 100) < 1) ∧ ¬ (60 < (c % 100)) ∧ ((((c / 100) * 60) + (c % 100)) - 1) = r ∧ h = h')) := by
    refine am_of (lv := [some (.int c)]) rfl (Nat.le_of_ble_eq_true rfl) rfl ?_
    refine aw_iload_n (pc' := 1) dX11_placeOf_0 rfl rfl ?_
    refine aw_zlt (tgt := 23) (pc' := 4) dX11_placeOf_1 (by decide) rfl (fun c2 => ?_) (fun c2 => ?_)
    · refine aw_iconst (v := (-1)) (pc' := 24) dX11_placeOf_23 rfl (by decide) ?_
      exact aw_ri dX11_placeOf_24 rfl rfl (Nat.le_of_ble_eq_true rfl) (Nat.le_of_ble_eq_true rfl) (Or.inl ⟨c2, rfl, rfl⟩)
    · refine aw_iload_n (pc' := 5) dX11_placeOf_4 rfl rfl ?_
      refine aw_bipush (v := 100) (pc' := 7) dX11_placeOf_5 rfl (by decide) ?_
      refine aw_idiv (pc' := 8) dX11_placeOf_7 rfl (by decide) ?_
      refine aw_bipush (v := 32) (pc' := 10) dX11_placeOf_8 rfl (by decide) ?_
      refine aw_cge (tgt := 23) (pc' := 13) dX11_placeOf_10 (by decide) rfl (fun c3 => ?_) (fun c3 => ?_)
      · refine aw_iconst (v := (-1)) (pc' := 24) dX11_placeOf_23 rfl (by decide) ?_
        exact aw_ri dX11_placeOf_24 rfl rfl (Nat.le_of_ble_eq_true rfl) (Nat.le_of_ble_eq_true rfl) (Or.inr (Or.inl ⟨c2, c3, rfl, rfl⟩))
      · refine aw_iload_n (pc' := 14) dX11_placeOf_13 rfl rfl ?_
        refine aw_bipush (v := 100) (pc' := 16) dX11_placeOf_14 rfl (by decide) ?_
        refine aw_irem (pc' := 17) dX11_placeOf_16 rfl (by decide) ?_
        have cc4 : AM mX11_isYard 0 [.int (c % 100)] h 0 0 (PI fun r h' => ((c % 100) < 1 ∧ 0 = r ∧ h = h') ∨ (¬ ((c % 100) < 1) ∧ 60 < (c % 100) ∧ 0 = r ∧ h = h') ∨ (¬ ((c % 100) < 1) ∧ ¬ (60 < (c % 100)) ∧ 1 = r ∧ h = h')) := by
          refine am_of (lv := [some (.int (c % 100))]) rfl (Nat.le_of_ble_eq_true rfl) rfl ?_
          refine aw_iload_n (pc' := 1) dX11_isYard_0 rfl rfl ?_
          refine aw_iconst (v := 1) (pc' := 2) dX11_isYard_1 rfl (by decide) ?_
          refine aw_clt (tgt := 15) (pc' := 5) dX11_isYard_2 (by decide) rfl (fun c5 => ?_) (fun c5 => ?_)
          · refine aw_iconst (v := 0) (pc' := 16) dX11_isYard_15 rfl (by decide) ?_
            exact aw_ri dX11_isYard_16 rfl (by decide) (Nat.le_of_ble_eq_true rfl) (Nat.le_of_ble_eq_true rfl) (Or.inl ⟨c5, rfl, rfl⟩)
          · refine aw_iload_n (pc' := 6) dX11_isYard_5 rfl rfl ?_
            refine aw_bipush (v := 60) (pc' := 8) dX11_isYard_6 rfl (by decide) ?_
            refine aw_cgt (tgt := 15) (pc' := 11) dX11_isYard_8 (by decide) rfl (fun c6 => ?_) (fun c6 => ?_)
            · refine aw_iconst (v := 0) (pc' := 16) dX11_isYard_15 rfl (by decide) ?_
              exact aw_ri dX11_isYard_16 rfl (by decide) (Nat.le_of_ble_eq_true rfl) (Nat.le_of_ble_eq_true rfl) (Or.inr (Or.inl ⟨c5, c6, rfl, rfl⟩))
            · refine aw_iconst (v := 1) (pc' := 12) dX11_isYard_11 rfl (by decide) ?_
              refine aw_goto (tgt := 16) dX11_isYard_12 (by decide) ?_
              exact aw_ri dX11_isYard_16 rfl (by decide) (Nat.le_of_ble_eq_true rfl) (Nat.le_of_ble_eq_true rfl) (Or.inr (Or.inr ⟨c5, c6, rfl, rfl⟩))
        refine aw_callSi (M' := mX11_isYard) (nc' := 0) (ns' := 0) (pc' := 20) dX11_placeOf_17 rfl ml_RX11_122 kX11_isYard cc4 rfl rfl (Nat.le_of_ble_eq_true rfl) (rok rfl) rfl rfl (fun r12 h12 q12 => ?_)
        rcases q12 with ⟨c7, rfl, rfl⟩ | ⟨c8, c9, rfl, rfl⟩ | ⟨c10, c11, rfl, rfl⟩
        · refine aw_if_ne (tgt := 25) (pc' := 23) dX11_placeOf_20 (by decide) rfl (fun c => absurd (by decide) c) (fun _ => ?_)
          refine aw_iconst (v := (-1)) (pc' := 24) dX11_placeOf_23 rfl (by decide) ?_
          exact aw_ri dX11_placeOf_24 rfl rfl (Nat.le_of_ble_eq_true rfl) (Nat.le_of_ble_eq_true rfl) (Or.inr (Or.inr (Or.inl ⟨c2, c3, c7, rfl, rfl⟩)))
        · refine aw_if_ne (tgt := 25) (pc' := 23) dX11_placeOf_20 (by decide) rfl (fun c => absurd (by decide) c) (fun _ => ?_)
          refine aw_iconst (v := (-1)) (pc' := 24) dX11_placeOf_23 rfl (by decide) ?_
          exact aw_ri dX11_placeOf_24 rfl rfl (Nat.le_of_ble_eq_true rfl) (Nat.le_of_ble_eq_true rfl) (Or.inr (Or.inr (Or.inr (Or.inl ⟨c2, c3, c8, c9, rfl, rfl⟩))))
        · refine aw_if_ne (tgt := 25) (pc' := 23) dX11_placeOf_20 (by decide) rfl (fun _ => ?_) (fun c => absurd c (by decide))
          refine aw_iload_n (pc' := 26) dX11_placeOf_25 rfl rfl ?_
          refine aw_bipush (v := 100) (pc' := 28) dX11_placeOf_26 rfl (by decide) ?_
          refine aw_idiv (pc' := 29) dX11_placeOf_28 rfl (by decide) ?_
          refine aw_bipush (v := 60) (pc' := 31) dX11_placeOf_29 rfl (by decide) ?_
          refine aw_imul (pc' := 32) dX11_placeOf_31 rfl ?_
          refine aw_iload_n (pc' := 33) dX11_placeOf_32 rfl rfl ?_
          refine aw_bipush (v := 100) (pc' := 35) dX11_placeOf_33 rfl (by decide) ?_
          refine aw_irem (pc' := 36) dX11_placeOf_35 rfl (by decide) ?_
          refine aw_iadd (pc' := 37) dX11_placeOf_36 rfl ?_
          refine aw_iconst (v := 1) (pc' := 38) dX11_placeOf_37 rfl (by decide) ?_
          refine aw_isub (pc' := 39) dX11_placeOf_38 rfl ?_
          exact aw_ri dX11_placeOf_39 rfl rfl (Nat.le_of_ble_eq_true rfl) (Nat.le_of_ble_eq_true rfl) (Or.inr (Or.inr (Or.inr (Or.inr ⟨c2, c3, c10, c11, rfl, rfl⟩))))
  refine aw_callSi (M' := mX11_placeOf) (nc' := 0) (ns' := 0) (pc' := 4) dX11_ofCell_1 rfl ml_RX11_101 kX11_placeOf cc1 rfl rfl (Nat.le_of_ble_eq_true rfl) (rok rfl) rfl rfl (fun r27 h27 q27 => ?_)
  rcases q27 with ⟨c13, rfl, rfl⟩ | ⟨c14, c15, rfl, rfl⟩ | ⟨c16, c17, c18, rfl, rfl⟩ | ⟨c19, c20, c21, c22, rfl, rfl⟩ | ⟨c23, c24, c25, c26, rfl, rfl⟩
  · refine aw_istore_n (lv' := [_, _, _, _]) (pc' := 5) dX11_ofCell_4 rfl (Nat.le_of_ble_eq_true rfl) rfl ?_
    refine aw_iload_n (pc' := 6) dX11_ofCell_5 rfl rfl ?_
    refine aw_zlt (tgt := 18) (pc' := 9) dX11_ofCell_6 (by decide) rfl (fun _ => ?_) (fun c => absurd (by decide) c)
    refine aw_iconst (v := (-1)) (pc' := 19) dX11_ofCell_18 rfl (by decide) ?_
    exact aw_ri dX11_ofCell_19 rfl rfl (Nat.le_of_ble_eq_true rfl) (Nat.le_of_ble_eq_true rfl) ⟨(by first | (simp [sp_ofCell, cnd, okC, okS, okW, okN, inR, n2_, n3_, n5_, n31_, c13]; done) | (simp_all [sp_ofCell, cnd, okC, okS, okW, okN, inR, n2_, n3_, n5_, n31_]; done) | skip), sm_rf⟩
  · refine aw_istore_n (lv' := [_, _, _, _]) (pc' := 5) dX11_ofCell_4 rfl (Nat.le_of_ble_eq_true rfl) rfl ?_
    refine aw_iload_n (pc' := 6) dX11_ofCell_5 rfl rfl ?_
    refine aw_zlt (tgt := 18) (pc' := 9) dX11_ofCell_6 (by decide) rfl (fun _ => ?_) (fun c => absurd (by decide) c)
    refine aw_iconst (v := (-1)) (pc' := 19) dX11_ofCell_18 rfl (by decide) ?_
    exact aw_ri dX11_ofCell_19 rfl rfl (Nat.le_of_ble_eq_true rfl) (Nat.le_of_ble_eq_true rfl) ⟨(by first | (simp [sp_ofCell, cnd, okC, okS, okW, okN, inR, n2_, n3_, n5_, n31_, c14, c15]; done) | (simp_all [sp_ofCell, cnd, okC, okS, okW, okN, inR, n2_, n3_, n5_, n31_]; done) | skip), sm_rf⟩
  · refine aw_istore_n (lv' := [_, _, _, _]) (pc' := 5) dX11_ofCell_4 rfl (Nat.le_of_ble_eq_true rfl) rfl ?_
    refine aw_iload_n (pc' := 6) dX11_ofCell_5 rfl rfl ?_
    refine aw_zlt (tgt := 18) (pc' := 9) dX11_ofCell_6 (by decide) rfl (fun _ => ?_) (fun c => absurd (by decide) c)
    refine aw_iconst (v := (-1)) (pc' := 19) dX11_ofCell_18 rfl (by decide) ?_
    exact aw_ri dX11_ofCell_19 rfl rfl (Nat.le_of_ble_eq_true rfl) (Nat.le_of_ble_eq_true rfl) ⟨(by first | (simp [sp_ofCell, cnd, okC, okS, okW, okN, inR, n2_, n3_, n5_, n31_, c16, c17, c18]; done) | (simp_all [sp_ofCell, cnd, okC, okS, okW, okN, inR, n2_, n3_, n5_, n31_]; done) | skip), sm_rf⟩
  · refine aw_istore_n (lv' := [_, _, _, _]) (pc' := 5) dX11_ofCell_4 rfl (Nat.le_of_ble_eq_true rfl) rfl ?_
    refine aw_iload_n (pc' := 6) dX11_ofCell_5 rfl rfl ?_
    refine aw_zlt (tgt := 18) (pc' := 9) dX11_ofCell_6 (by decide) rfl (fun _ => ?_) (fun c => absurd (by decide) c)
    refine aw_iconst (v := (-1)) (pc' := 19) dX11_ofCell_18 rfl (by decide) ?_
    exact aw_ri dX11_ofCell_19 rfl rfl (Nat.le_of_ble_eq_true rfl) (Nat.le_of_ble_eq_true rfl) ⟨(by first | (simp [sp_ofCell, cnd, okC, okS, okW, okN, inR, n2_, n3_, n5_, n31_, c19, c20, c21, c22]; done) | (simp_all [sp_ofCell, cnd, okC, okS, okW, okN, inR, n2_, n3_, n5_, n31_]; done) | skip), sm_rf⟩
  · refine aw_istore_n (lv' := [_, _, _, _]) (pc' := 5) dX11_ofCell_4 rfl (Nat.le_of_ble_eq_true rfl) rfl ?_
    refine aw_iload_n (pc' := 6) dX11_ofCell_5 rfl rfl ?_
    refine aw_zlt (tgt := 18) (pc' := 9) dX11_ofCell_6 (by decide) rfl (fun c => absurd c (pl_nn c23 c24 c25 c26)) (fun _ => ?_)
    refine aw_iload_n (pc' := 10) dX11_ofCell_9 rfl rfl ?_
    refine aw_zlt (tgt := 18) (pc' := 13) dX11_ofCell_10 (by decide) rfl (fun c28 => ?_) (fun c28 => ?_)
    · refine aw_iconst (v := (-1)) (pc' := 19) dX11_ofCell_18 rfl (by decide) ?_
      exact aw_ri dX11_ofCell_19 rfl rfl (Nat.le_of_ble_eq_true rfl) (Nat.le_of_ble_eq_true rfl) ⟨(by first | (simp [sp_ofCell, cnd, okC, okS, okW, okN, inR, n2_, n3_, n5_, n31_, c23, c24, c25, c26, c28]; done) | (simp_all [sp_ofCell, cnd, okC, okS, okW, okN, inR, n2_, n3_, n5_, n31_]; done) | skip), sm_rf⟩
    · refine aw_iload_n (pc' := 14) dX11_ofCell_13 rfl rfl ?_
      refine aw_iconst (v := 1) (pc' := 15) dX11_ofCell_14 rfl (by decide) ?_
      refine aw_cle (tgt := 20) (pc' := 18) dX11_ofCell_15 (by decide) rfl (fun c29 => ?_) (fun c29 => ?_)
      · refine aw_iload_n (pc' := 21) dX11_ofCell_20 rfl rfl ?_
        refine aw_if_ne (tgt := 36) (pc' := 24) dX11_ofCell_21 (by decide) rfl (fun c30 => ?_) (fun c30 => ?_)
        · refine aw_aload_n (pc' := 37) dX11_ofCell_36 rfl rfl rfl ?_
          refine aw_get clsAll (pc' := 40) dX11_ofCell_37 rfl fl_RX11_10 hx.1 rfl ?_
          refine aw_get clsAll (pc' := 43) dX11_ofCell_40 rfl fl_RX11_108 ((hx.2 1 (by decide) (by decide)).trans h0_1) rfl ?_
          refine aw_iload_n (pc' := 44) dX11_ofCell_43 rfl rfl ?_
          refine aw_iald (v := 0) (pc' := 45) dX11_ofCell_44 rfl ((hx.2 3 (by decide) (by decide)).trans h0_3) (pl_x c23 c24 c25 c26) rfl ?_
          exact aw_ri dX11_ofCell_45 rfl rfl (Nat.le_of_ble_eq_true rfl) (Nat.le_of_ble_eq_true rfl) ⟨(by first | (simp [sp_ofCell, cnd, okC, okS, okW, okN, inR, n2_, n3_, n5_, n31_, c23, c24, c25, c26, c28, c29, c30]; done) | (simp_all [sp_ofCell, cnd, okC, okS, okW, okN, inR, n2_, n3_, n5_, n31_]; done) | skip), sm_rf⟩
        · refine aw_aload_n (pc' := 25) dX11_ofCell_24 rfl rfl rfl ?_
          refine aw_get clsAll (pc' := 28) dX11_ofCell_25 rfl fl_RX11_10 hx.1 rfl ?_
          refine aw_get clsAll (pc' := 31) dX11_ofCell_28 rfl fl_RX11_105 ((hx.2 1 (by decide) (by decide)).trans h0_1) rfl ?_
          refine aw_iload_n (pc' := 32) dX11_ofCell_31 rfl rfl ?_
          refine aw_iald (v := 3) (pc' := 33) dX11_ofCell_32 rfl ((hx.2 2 (by decide) (by decide)).trans h0_2) (pl_x c23 c24 c25 c26) rfl ?_
          refine aw_goto (tgt := 45) dX11_ofCell_33 (by decide) ?_
          exact aw_ri dX11_ofCell_45 rfl rfl (Nat.le_of_ble_eq_true rfl) (Nat.le_of_ble_eq_true rfl) ⟨(by first | (simp [sp_ofCell, cnd, okC, okS, okW, okN, inR, n2_, n3_, n5_, n31_, c23, c24, c25, c26, c28, c29, c30]; done) | (simp_all [sp_ofCell, cnd, okC, okS, okW, okN, inR, n2_, n3_, n5_, n31_]; done) | skip), sm_rf⟩
      · refine aw_iconst (v := (-1)) (pc' := 19) dX11_ofCell_18 rfl (by decide) ?_
        exact aw_ri dX11_ofCell_19 rfl rfl (Nat.le_of_ble_eq_true rfl) (Nat.le_of_ble_eq_true rfl) ⟨(by first | (simp [sp_ofCell, cnd, okC, okS, okW, okN, inR, n2_, n3_, n5_, n31_, c23, c24, c25, c26, c28, c29]; done) | (simp_all [sp_ofCell, cnd, okC, okS, okW, okN, inR, n2_, n3_, n5_, n31_]; done) | skip), sm_rf⟩
set_option maxRecDepth 4000 in
theorem x_body (h : List aE) (hx : Fx 0 h) (hlen : h.length = 126) (k : Int32) : AM mX11_body 1 [.ref 8, .int k] h 0 0 (PI fun r h' => r = sp_body k ∧ Sm h h') := by
  refine am_of (lv := [some (.ref 8), some (.int k)]) rfl (Nat.le_of_ble_eq_true rfl) rfl ?_
  refine aw_iload_n (pc' := 1) dX11_body_0 rfl rfl ?_
  refine aw_if_eq (tgt := 11) (pc' := 4) dX11_body_1 (by decide) rfl (fun c1 => ?_) (fun c1 => ?_)
  · refine aw_aload_n (pc' := 12) dX11_body_11 rfl rfl rfl ?_
    refine aw_get clsAll (pc' := 15) dX11_body_12 rfl fl_RX11_28 hx.1 rfl ?_
    refine aw_iload_n (pc' := 16) dX11_body_15 rfl rfl ?_
    have cc2 : AM mX0_added 0 [.ref 23, .int k] h 0 0 (PI fun r h' => (0 = r ∧ ∃ h5 : List aE, h.set 16 (.inl (0, 120, .inl (upd (fun _ => 0) (0 : Int32).toNatClampNeg k))) = h5 ∧ ∃ h6 : List aE, h5.set 15 (.inr (0, [.ref 24, .ref 25, .ref 14, .int 1, .int 0, .int (-1), .int 0, .int 0, .int 0, .int 0, .ref 26, .int 0])) = h6 ∧ h6 = h')) := by
      refine am_of (lv := [some (.ref 23), some (.int k)]) rfl (Nat.le_of_ble_eq_true rfl) rfl ?_
      refine aw_aload_n (pc' := 1) dX0_added_0 rfl rfl rfl ?_
      refine aw_get clsAll (pc' := 4) dX0_added_1 rfl fl_RX0_32 ((hx.2 15 (by decide) (by decide)).trans h0_15) rfl ?_
      refine aw_bipush (v := 120) (pc' := 6) dX0_added_4 rfl (by decide) ?_
      refine aw_clt (tgt := 12) (pc' := 9) dX0_added_6 (by decide) rfl (fun _ => ?_) (fun c => absurd (by decide) c)
      refine aw_aload_n (pc' := 13) dX0_added_12 rfl rfl rfl ?_
      refine aw_get clsAll (pc' := 16) dX0_added_13 rfl fl_RX0_9 ((hx.2 15 (by decide) (by decide)).trans h0_15) rfl ?_
      refine aw_aload_n (pc' := 17) dX0_added_16 rfl rfl rfl ?_
      refine aw_get clsAll (pc' := 20) dX0_added_17 rfl fl_RX0_32 ((hx.2 15 (by decide) (by decide)).trans h0_15) rfl ?_
      refine aw_iload_n (pc' := 21) dX0_added_20 rfl rfl ?_
      refine aw_iastG (pc' := 22) dX0_added_21 rfl ((hx.2 16 (by decide) (by decide)).trans h0_16) (vpc (by decide)) (fun h3 e3 => ?_)
      refine aw_aload_n (pc' := 23) dX0_added_22 rfl rfl rfl ?_
      refine aw_dup (pc' := 24) dX0_added_23 rfl rfl ?_
      refine aw_get clsAll (pc' := 27) dX0_added_24 rfl fl_RX0_32 (gsn e3 (by decide) ((hx.2 15 (by decide) (by decide)).trans h0_15)) rfl ?_
      refine aw_iconst (v := 1) (pc' := 28) dX0_added_27 rfl (by decide) ?_
      refine aw_iadd (pc' := 29) dX0_added_28 rfl ?_
      refine aw_topi (v := 1) (by decide) ?_
      refine aw_putG clsAll (pc' := 32) dX0_added_29 rfl fl_RX0_32 (gsn e3 (by decide) ((hx.2 15 (by decide) (by decide)).trans h0_15)) (Nat.le_of_ble_eq_true rfl) rfl (fun h4 e4 => ?_)
      refine aw_aload_n (pc' := 33) dX0_added_32 rfl rfl rfl ?_
      refine aw_get clsAll (pc' := 36) dX0_added_33 rfl fl_RX0_32 (gss e4 (gsn e3 (by decide) ((hx.2 15 (by decide) (by decide)).trans h0_15))) rfl ?_
      refine aw_iconst (v := 1) (pc' := 37) dX0_added_36 rfl (by decide) ?_
      refine aw_isub (pc' := 38) dX0_added_37 rfl ?_
      refine aw_topi (v := 0) (by decide) ?_
      exact aw_ri dX0_added_38 rfl rfl (Nat.le_of_ble_eq_true rfl) (Nat.le_of_ble_eq_true rfl) ⟨rfl, h3, e3, h4, e4, rfl⟩
    refine aw_callVi (M' := mX0_added) (nc' := 0) (ns' := 0) (pc' := 19) dX11_body_16 rfl ml_RX11_111 kX0_added cc2 ((hx.2 15 (by decide) (by decide)).trans h0_15) rfl rfl rfl (Nat.le_of_ble_eq_true rfl) (rok rfl) rfl rfl (fun r7 h7 q7 => ?_)
    obtain ⟨rfl, h5, e5, h6, e6, rfl⟩ := q7
    exact aw_ri dX11_body_19 rfl rfl (Nat.le_of_ble_eq_true rfl) (Nat.le_of_ble_eq_true rfl) ⟨(by first | (simp [sp_body, cnd, okC, okS, okW, okN, inR, n2_, n3_, n5_, n31_, c1]; done) | (simp_all [sp_body, cnd, okC, okS, okW, okN, inR, n2_, n3_, n5_, n31_]; done) | skip), (sm_set e6 (by decide) (sm_set e5 (by decide) sm_rf))⟩
  · refine aw_iload_n (pc' := 5) dX11_body_4 rfl rfl ?_
    refine aw_iconst (v := 1) (pc' := 6) dX11_body_5 rfl (by decide) ?_
    refine aw_icmp_eq (tgt := 11) (pc' := 9) dX11_body_6 (by decide) rfl (fun c8 => ?_) (fun c8 => ?_)
    · refine aw_aload_n (pc' := 12) dX11_body_11 rfl rfl rfl ?_
      refine aw_get clsAll (pc' := 15) dX11_body_12 rfl fl_RX11_28 hx.1 rfl ?_
      refine aw_iload_n (pc' := 16) dX11_body_15 rfl rfl ?_
      have cc9 : AM mX0_added 0 [.ref 23, .int k] h 0 0 (PI fun r h' => (0 = r ∧ ∃ h12 : List aE, h.set 16 (.inl (0, 120, .inl (upd (fun _ => 0) (0 : Int32).toNatClampNeg k))) = h12 ∧ ∃ h13 : List aE, h12.set 15 (.inr (0, [.ref 24, .ref 25, .ref 14, .int 1, .int 0, .int (-1), .int 0, .int 0, .int 0, .int 0, .ref 26, .int 0])) = h13 ∧ h13 = h')) := by
        refine am_of (lv := [some (.ref 23), some (.int k)]) rfl (Nat.le_of_ble_eq_true rfl) rfl ?_
        refine aw_aload_n (pc' := 1) dX0_added_0 rfl rfl rfl ?_
        refine aw_get clsAll (pc' := 4) dX0_added_1 rfl fl_RX0_32 ((hx.2 15 (by decide) (by decide)).trans h0_15) rfl ?_
        refine aw_bipush (v := 120) (pc' := 6) dX0_added_4 rfl (by decide) ?_
        refine aw_clt (tgt := 12) (pc' := 9) dX0_added_6 (by decide) rfl (fun _ => ?_) (fun c => absurd (by decide) c)
        refine aw_aload_n (pc' := 13) dX0_added_12 rfl rfl rfl ?_
        refine aw_get clsAll (pc' := 16) dX0_added_13 rfl fl_RX0_9 ((hx.2 15 (by decide) (by decide)).trans h0_15) rfl ?_
        refine aw_aload_n (pc' := 17) dX0_added_16 rfl rfl rfl ?_
        refine aw_get clsAll (pc' := 20) dX0_added_17 rfl fl_RX0_32 ((hx.2 15 (by decide) (by decide)).trans h0_15) rfl ?_
        refine aw_iload_n (pc' := 21) dX0_added_20 rfl rfl ?_
        refine aw_iastG (pc' := 22) dX0_added_21 rfl ((hx.2 16 (by decide) (by decide)).trans h0_16) (vpc (by decide)) (fun h10 e10 => ?_)
        refine aw_aload_n (pc' := 23) dX0_added_22 rfl rfl rfl ?_
        refine aw_dup (pc' := 24) dX0_added_23 rfl rfl ?_
        refine aw_get clsAll (pc' := 27) dX0_added_24 rfl fl_RX0_32 (gsn e10 (by decide) ((hx.2 15 (by decide) (by decide)).trans h0_15)) rfl ?_
        refine aw_iconst (v := 1) (pc' := 28) dX0_added_27 rfl (by decide) ?_
        refine aw_iadd (pc' := 29) dX0_added_28 rfl ?_
        refine aw_topi (v := 1) (by decide) ?_
        refine aw_putG clsAll (pc' := 32) dX0_added_29 rfl fl_RX0_32 (gsn e10 (by decide) ((hx.2 15 (by decide) (by decide)).trans h0_15)) (Nat.le_of_ble_eq_true rfl) rfl (fun h11 e11 => ?_)
        refine aw_aload_n (pc' := 33) dX0_added_32 rfl rfl rfl ?_
        refine aw_get clsAll (pc' := 36) dX0_added_33 rfl fl_RX0_32 (gss e11 (gsn e10 (by decide) ((hx.2 15 (by decide) (by decide)).trans h0_15))) rfl ?_
        refine aw_iconst (v := 1) (pc' := 37) dX0_added_36 rfl (by decide) ?_
        refine aw_isub (pc' := 38) dX0_added_37 rfl ?_
        refine aw_topi (v := 0) (by decide) ?_
        exact aw_ri dX0_added_38 rfl rfl (Nat.le_of_ble_eq_true rfl) (Nat.le_of_ble_eq_true rfl) ⟨rfl, h10, e10, h11, e11, rfl⟩
      refine aw_callVi (M' := mX0_added) (nc' := 0) (ns' := 0) (pc' := 19) dX11_body_16 rfl ml_RX11_111 kX0_added cc9 ((hx.2 15 (by decide) (by decide)).trans h0_15) rfl rfl rfl (Nat.le_of_ble_eq_true rfl) (rok rfl) rfl rfl (fun r14 h14 q14 => ?_)
      obtain ⟨rfl, h12, e12, h13, e13, rfl⟩ := q14
      exact aw_ri dX11_body_19 rfl rfl (Nat.le_of_ble_eq_true rfl) (Nat.le_of_ble_eq_true rfl) ⟨(by first | (simp [sp_body, cnd, okC, okS, okW, okN, inR, n2_, n3_, n5_, n31_, c1, c8]; done) | (simp_all [sp_body, cnd, okC, okS, okW, okN, inR, n2_, n3_, n5_, n31_]; done) | skip), (sm_set e13 (by decide) (sm_set e12 (by decide) sm_rf))⟩
    · refine aw_iconst (v := (-1)) (pc' := 10) dX11_body_9 rfl (by decide) ?_
      exact aw_ri dX11_body_10 rfl rfl (Nat.le_of_ble_eq_true rfl) (Nat.le_of_ble_eq_true rfl) ⟨(by first | (simp [sp_body, cnd, okC, okS, okW, okN, inR, n2_, n3_, n5_, n31_, c1, c8]; done) | (simp_all [sp_body, cnd, okC, okS, okW, okN, inR, n2_, n3_, n5_, n31_]; done) | skip), sm_rf⟩
set_option maxRecDepth 4000 in
theorem x_hole (h : List aE) (hx : Fx 0 h) (hlen : h.length = 126) (k : Int32) (w : Int32) : AM mX11_hole 3 [.ref 8, .int k, .int w] h 4 194 (PI fun r h' => r = sp_hole k w ∧ Sm h h') := by
  refine am_of (lv := [some (.ref 8), some (.int k), some (.int w), none, none]) rfl (Nat.le_of_ble_eq_true rfl) rfl ?_
  refine aw_iload_n (pc' := 1) dX11_hole_0 rfl rfl ?_
  refine aw_iconst (v := 2) (pc' := 2) dX11_hole_1 rfl (by decide) ?_
  refine aw_clt (tgt := 14) (pc' := 5) dX11_hole_2 (by decide) rfl (fun c1 => ?_) (fun c1 => ?_)
  · refine aw_iconst (v := (-1)) (pc' := 15) dX11_hole_14 rfl (by decide) ?_
    exact aw_ri dX11_hole_15 rfl rfl (Nat.le_of_ble_eq_true rfl) (Nat.le_of_ble_eq_true rfl) ⟨(by first | (simp [sp_hole, cnd, okC, okS, okW, okN, inR, n2_, n3_, n5_, n31_, c1]; done) | (simp_all [sp_hole, cnd, okC, okS, okW, okN, inR, n2_, n3_, n5_, n31_]; done) | skip), sm_rf⟩
  · refine aw_iload_n (pc' := 6) dX11_hole_5 rfl rfl ?_
    refine aw_iconst (v := 5) (pc' := 7) dX11_hole_6 rfl (by decide) ?_
    refine aw_cgt (tgt := 14) (pc' := 10) dX11_hole_7 (by decide) rfl (fun c2 => ?_) (fun c2 => ?_)
    · refine aw_iconst (v := (-1)) (pc' := 15) dX11_hole_14 rfl (by decide) ?_
      exact aw_ri dX11_hole_15 rfl rfl (Nat.le_of_ble_eq_true rfl) (Nat.le_of_ble_eq_true rfl) ⟨(by first | (simp [sp_hole, cnd, okC, okS, okW, okN, inR, n2_, n3_, n5_, n31_, c1, c2]; done) | (simp_all [sp_hole, cnd, okC, okS, okW, okN, inR, n2_, n3_, n5_, n31_]; done) | skip), sm_rf⟩
    · refine aw_iload_n (pc' := 11) dX11_hole_10 rfl rfl ?_
      refine aw_zge (tgt := 16) (pc' := 14) dX11_hole_11 (by decide) rfl (fun c3 => ?_) (fun c3 => ?_)
      · refine aw_iload_n (pc' := 17) dX11_hole_16 rfl rfl ?_
        refine aw_bipush (v := 100) (pc' := 19) dX11_hole_17 rfl (by decide) ?_
        refine aw_idiv (pc' := 20) dX11_hole_19 rfl (by decide) ?_
        refine aw_istore_n (lv' := [_, _, _, _, _]) (pc' := 21) dX11_hole_20 rfl (Nat.le_of_ble_eq_true rfl) rfl ?_
        refine aw_iload_n (pc' := 22) dX11_hole_21 rfl rfl ?_
        refine aw_bipush (v := 100) (pc' := 24) dX11_hole_22 rfl (by decide) ?_
        refine aw_irem (pc' := 25) dX11_hole_24 rfl (by decide) ?_
        refine aw_istore (lv' := [_, _, _, _, _]) (pc' := 27) dX11_hole_25 rfl (Nat.le_of_ble_eq_true rfl) rfl ?_
        refine aw_iload_n (pc' := 28) dX11_hole_27 rfl rfl ?_
        refine aw_bipush (v := 32) (pc' := 30) dX11_hole_28 rfl (by decide) ?_
        refine aw_cge (tgt := 39) (pc' := 33) dX11_hole_30 (by decide) rfl (fun c4 => ?_) (fun c4 => ?_)
        · refine aw_iconst (v := (-1)) (pc' := 40) dX11_hole_39 rfl (by decide) ?_
          exact aw_ri dX11_hole_40 rfl rfl (Nat.le_of_ble_eq_true rfl) (Nat.le_of_ble_eq_true rfl) ⟨(by first | (simp [sp_hole, cnd, okC, okS, okW, okN, inR, n2_, n3_, n5_, n31_, ← wz_ c3, c1, c2, c3, c4]; done) | (simp_all [sp_hole, cnd, okC, okS, okW, okN, inR, n2_, n3_, n5_, n31_, ← wz_ c3]; done) | skip), sm_rf⟩
        · refine aw_iload (pc' := 35) dX11_hole_33 rfl rfl ?_
          refine aw_iconst (v := 1) (pc' := 36) dX11_hole_35 rfl (by decide) ?_
          refine aw_cge (tgt := 41) (pc' := 39) dX11_hole_36 (by decide) rfl (fun c5 => ?_) (fun c5 => ?_)
          · refine aw_aload_n (pc' := 42) dX11_hole_41 rfl rfl rfl ?_
            refine aw_get clsAll (pc' := 45) dX11_hole_42 rfl fl_RX11_28 hx.1 rfl ?_
            refine aw_iload_n (pc' := 46) dX11_hole_45 rfl rfl ?_
            refine aw_iload_n (pc' := 47) dX11_hole_46 rfl rfl ?_
            refine aw_iload (pc' := 49) dX11_hole_47 rfl rfl ?_
            have cc6 : AM mX0_addedHole 2 [.ref 23, .int k, .int (w / 100), .int (w % 100)] h 4 194 (PI fun r h' => (0 = r ∧ ∃ h38 : List aE, h.set 16 (.inl (0, 120, .inl (upd (fun _ => 0) (0 : Int32).toNatClampNeg k))) = h38 ∧ ∃ h39 : List aE, h38.set 15 (.inr (0, [.ref 24, .ref 25, .ref 14, .int 1, .int 0, .int (-1), .int 0, .int 0, .int 0, .int 0, .ref 26, .int 0])) = h39 ∧ ∃ h40 : List aE, h39 ++ [.inr (3, [.int 0, .int 0, .int 0, .int 0, .int 0, .int 0, .int 0, .int 0, .null, .null, .null])] = h40 ∧ ∃ h41 : List aE, h40 ++ [.inl (0, 61, .inl (fun _ => 0))] = h41 ∧ ∃ h42 : List aE, h41.set 126 (.inr (3, [.int 0, .int 0, .int 0, .int 0, .int 0, .int 0, .int 0, .int 0, .ref 135, .null, .null])) = h42 ∧ ∃ h43 : List aE, h42 ++ [.inl (0, 61, .inl (fun _ => 0))] = h43 ∧ ∃ h44 : List aE, h43.set 126 (.inr (3, [.int 0, .int 0, .int 0, .int 0, .int 0, .int 0, .int 0, .int 0, .ref 135, .ref 136, .null])) = h44 ∧ ∃ h45 : List aE, h44 ++ [.inl (0, 61, .inl (fun _ => 0))] = h45 ∧ ∃ h46 : List aE, h45.set 126 (.inr (3, [.int 0, .int 0, .int 0, .int 0, .int 0, .int 0, .int 0, .int 0, .ref 135, .ref 136, .ref 137])) = h46 ∧ ∃ h47 : List aE, h46.set 126 (.inr (3, [.int (w / 100), .int 0, .int 0, .int 0, .int 0, .int 0, .int 0, .int 0, .ref 135, .ref 136, .ref 137])) = h47 ∧ ∃ h48 : List aE, h47.set 126 (.inr (3, [.int (w / 100), .int (w % 100), .int 0, .int 0, .int 0, .int 0, .int 0, .int 0, .ref 135, .ref 136, .ref 137])) = h48 ∧ ∃ h49 : List aE, h48.set 126 (.inr (3, [.int (w / 100), .int (w % 100), .int (w / 100), .int 0, .int 0, .int 0, .int 0, .int 0, .ref 135, .ref 136, .ref 137])) = h49 ∧ ∃ h50 : List aE, h49.set 129 (.inl (0, 61, .inl (fun _ => (-2000000000)))) = h50 ∧ ∃ h51 : List aE, h50.set 17 (.inl (4, 120, .inr (.inr (.inr (.inr (va_up (fun _ => none) (0 : Int32).toNatClampNeg (some 134))))))) = h51 ∧ ∃ h52 : List aE, h51.set 15 (.inr (0, [.ref 24, .ref 25, .ref 14, .int 1, .int 1, .int (-1), .int 0, .int 0, .int 0, .int 0, .ref 26, .int 0])) = h52 ∧ h52 = h')) := by
              refine am_of (lv := [some (.ref 23), some (.int k), some (.int (w / 100)), some (.int (w % 100)), none]) rfl (Nat.le_of_ble_eq_true rfl) rfl ?_
              refine aw_aload_n (pc' := 1) dX0_addedHole_0 rfl rfl rfl ?_
              refine aw_iload_n (pc' := 2) dX0_addedHole_1 rfl rfl ?_
              have cc7 : AM mX0_added 0 [.ref 23, .int k] h 0 0 (PI fun r h' => (0 = r ∧ ∃ h10 : List aE, h.set 16 (.inl (0, 120, .inl (upd (fun _ => 0) (0 : Int32).toNatClampNeg k))) = h10 ∧ ∃ h11 : List aE, h10.set 15 (.inr (0, [.ref 24, .ref 25, .ref 14, .int 1, .int 0, .int (-1), .int 0, .int 0, .int 0, .int 0, .ref 26, .int 0])) = h11 ∧ h11 = h')) := by
                refine am_of (lv := [some (.ref 23), some (.int k)]) rfl (Nat.le_of_ble_eq_true rfl) rfl ?_
                refine aw_aload_n (pc' := 1) dX0_added_0 rfl rfl rfl ?_
                refine aw_get clsAll (pc' := 4) dX0_added_1 rfl fl_RX0_32 ((hx.2 15 (by decide) (by decide)).trans h0_15) rfl ?_
                refine aw_bipush (v := 120) (pc' := 6) dX0_added_4 rfl (by decide) ?_
                refine aw_clt (tgt := 12) (pc' := 9) dX0_added_6 (by decide) rfl (fun _ => ?_) (fun c => absurd (by decide) c)
                refine aw_aload_n (pc' := 13) dX0_added_12 rfl rfl rfl ?_
                refine aw_get clsAll (pc' := 16) dX0_added_13 rfl fl_RX0_9 ((hx.2 15 (by decide) (by decide)).trans h0_15) rfl ?_
                refine aw_aload_n (pc' := 17) dX0_added_16 rfl rfl rfl ?_
                refine aw_get clsAll (pc' := 20) dX0_added_17 rfl fl_RX0_32 ((hx.2 15 (by decide) (by decide)).trans h0_15) rfl ?_
                refine aw_iload_n (pc' := 21) dX0_added_20 rfl rfl ?_
                refine aw_iastG (pc' := 22) dX0_added_21 rfl ((hx.2 16 (by decide) (by decide)).trans h0_16) (vpc (by decide)) (fun h8 e8 => ?_)
                refine aw_aload_n (pc' := 23) dX0_added_22 rfl rfl rfl ?_
                refine aw_dup (pc' := 24) dX0_added_23 rfl rfl ?_
                refine aw_get clsAll (pc' := 27) dX0_added_24 rfl fl_RX0_32 (gsn e8 (by decide) ((hx.2 15 (by decide) (by decide)).trans h0_15)) rfl ?_
                refine aw_iconst (v := 1) (pc' := 28) dX0_added_27 rfl (by decide) ?_
                refine aw_iadd (pc' := 29) dX0_added_28 rfl ?_
                refine aw_topi (v := 1) (by decide) ?_
                refine aw_putG clsAll (pc' := 32) dX0_added_29 rfl fl_RX0_32 (gsn e8 (by decide) ((hx.2 15 (by decide) (by decide)).trans h0_15)) (Nat.le_of_ble_eq_true rfl) rfl (fun h9 e9 => ?_)
                refine aw_aload_n (pc' := 33) dX0_added_32 rfl rfl rfl ?_
                refine aw_get clsAll (pc' := 36) dX0_added_33 rfl fl_RX0_32 (gss e9 (gsn e8 (by decide) ((hx.2 15 (by decide) (by decide)).trans h0_15))) rfl ?_
                refine aw_iconst (v := 1) (pc' := 37) dX0_added_36 rfl (by decide) ?_
                refine aw_isub (pc' := 38) dX0_added_37 rfl ?_
                refine aw_topi (v := 0) (by decide) ?_
                exact aw_ri dX0_added_38 rfl rfl (Nat.le_of_ble_eq_true rfl) (Nat.le_of_ble_eq_true rfl) ⟨rfl, h8, e8, h9, e9, rfl⟩
              refine aw_callVi (M' := mX0_added) (nc' := 0) (ns' := 0) (pc' := 5) dX0_addedHole_2 rfl ml_RX0_42 kX0_added cc7 ((hx.2 15 (by decide) (by decide)).trans h0_15) rfl rfl rfl (Nat.le_of_ble_eq_true rfl) (rok rfl) rfl rfl (fun r12 h12 q12 => ?_)
              obtain ⟨rfl, h10, e10, h11, e11, rfl⟩ := q12
              refine aw_istore (lv' := [_, _, _, _, _]) (pc' := 7) dX0_addedHole_5 rfl (Nat.le_of_ble_eq_true rfl) rfl ?_
              refine aw_iload (pc' := 9) dX0_addedHole_7 rfl rfl ?_
              refine aw_zlt (tgt := 38) (pc' := 12) dX0_addedHole_9 (by decide) rfl (fun c => absurd c (by decide)) (fun _ => ?_)
              refine aw_aload_n (pc' := 13) dX0_addedHole_12 rfl rfl rfl ?_
              refine aw_get clsAll (pc' := 16) dX0_addedHole_13 rfl fl_RX0_17 (gss e11 (gsn e10 (by decide) ((hx.2 15 (by decide) (by decide)).trans h0_15))) rfl ?_
              refine aw_iload (pc' := 18) dX0_addedHole_16 rfl rfl ?_
              refine aw_newG clsAll (ci := 3) (r := 126) (fs := [.int 0, .int 0, .int 0, .int 0, .int 0, .int 0, .int 0, .int 0, .null, .null, .null]) (nc' := 1) (ns' := 11) (pc' := 21) dX0_addedHole_18 rfl rfl cl_RX0_15 ins_RX3 ini_RX3 tyX3_ok (by decide) (fun _ => rfl) (by decide) (by decide) (ls_ e11 (ls_ e10 hlen)) rfl rfl (fun h13 e13 => ?_)
              refine aw_dup (pc' := 22) dX0_addedHole_21 rfl rfl ?_
              refine aw_iload_n (pc' := 23) dX0_addedHole_22 rfl rfl ?_
              refine aw_iload_n (pc' := 24) dX0_addedHole_23 rfl rfl ?_
              have cc14 : AM mX3_init 1 [.ref 134, .int (w / 100), .int (w % 100)] h13 3 183 (PV fun h' => (∃ h25 : List aE, h13 ++ [.inl (0, 61, .inl (fun _ => 0))] = h25 ∧ ∃ h26 : List aE, h25.set 126 (.inr (3, [.int 0, .int 0, .int 0, .int 0, .int 0, .int 0, .int 0, .int 0, .ref 135, .null, .null])) = h26 ∧ ∃ h27 : List aE, h26 ++ [.inl (0, 61, .inl (fun _ => 0))] = h27 ∧ ∃ h28 : List aE, h27.set 126 (.inr (3, [.int 0, .int 0, .int 0, .int 0, .int 0, .int 0, .int 0, .int 0, .ref 135, .ref 136, .null])) = h28 ∧ ∃ h29 : List aE, h28 ++ [.inl (0, 61, .inl (fun _ => 0))] = h29 ∧ ∃ h30 : List aE, h29.set 126 (.inr (3, [.int 0, .int 0, .int 0, .int 0, .int 0, .int 0, .int 0, .int 0, .ref 135, .ref 136, .ref 137])) = h30 ∧ ∃ h31 : List aE, h30.set 126 (.inr (3, [.int (w / 100), .int 0, .int 0, .int 0, .int 0, .int 0, .int 0, .int 0, .ref 135, .ref 136, .ref 137])) = h31 ∧ ∃ h32 : List aE, h31.set 126 (.inr (3, [.int (w / 100), .int (w % 100), .int 0, .int 0, .int 0, .int 0, .int 0, .int 0, .ref 135, .ref 136, .ref 137])) = h32 ∧ ∃ h33 : List aE, h32.set 126 (.inr (3, [.int (w / 100), .int (w % 100), .int (w / 100), .int 0, .int 0, .int 0, .int 0, .int 0, .ref 135, .ref 136, .ref 137])) = h33 ∧ ∃ h34 : List aE, h33.set 129 (.inl (0, 61, .inl (fun _ => (-2000000000)))) = h34 ∧ h34 = h')) := by
                refine am_of (lv := [some (.ref 134), some (.int (w / 100)), some (.int (w % 100))]) rfl (Nat.le_of_ble_eq_true rfl) rfl ?_
                refine aw_aload_n (pc' := 1) dX3_init_0 rfl rfl rfl ?_
                refine aw_objInit (pc' := 4) dX3_init_1 rfl ml_RX3_3 oi_i oi_c (Nat.le_of_ble_eq_true rfl) (by decide) (by decide) ?_
                refine aw_aload_n (pc' := 5) dX3_init_4 rfl rfl rfl ?_
                refine aw_bipush (v := 61) (pc' := 7) dX3_init_5 rfl (by decide) ?_
                refine aw_newiG (N := 61) (r := 127) (nc' := 1) (ns' := 61) (pc' := 9) dX3_init_7 rfl (by decide) (by decide) (by decide) (by decide) (by decide) (lp_ (m := 127) e13 (ls_ e11 (ls_ e10 hlen)) rfl) rfl rfl (fun h15 e15 => ?_)
                refine aw_putFG clsAll (pc' := 12) dX3_init_9 rfl fl_RX3_9 rfl rfl (gpn e15 (gps e13 (ls_ e11 (ls_ e10 hlen)))) (Nat.le_of_ble_eq_true rfl) rfl (fun h16 e16 => ?_)
                refine aw_aload_n (pc' := 13) dX3_init_12 rfl rfl rfl ?_
                refine aw_bipush (v := 61) (pc' := 15) dX3_init_13 rfl (by decide) ?_
                refine aw_newiG (N := 61) (r := 128) (nc' := 2) (ns' := 122) (pc' := 17) dX3_init_15 rfl (by decide) (by decide) (by decide) (by decide) (by decide) (ls_ e16 (lp_ (m := 128) e15 (lp_ (m := 127) e13 (ls_ e11 (ls_ e10 hlen)) rfl) rfl)) rfl rfl (fun h17 e17 => ?_)
                refine aw_putFG clsAll (pc' := 20) dX3_init_17 rfl fl_RX3_15 rfl rfl (gpn e17 (gss e16 (gpn e15 (gps e13 (ls_ e11 (ls_ e10 hlen)))))) (Nat.le_of_ble_eq_true rfl) rfl (fun h18 e18 => ?_)
                refine aw_aload_n (pc' := 21) dX3_init_20 rfl rfl rfl ?_
                refine aw_bipush (v := 61) (pc' := 23) dX3_init_21 rfl (by decide) ?_
                refine aw_newiG (N := 61) (r := 129) (nc' := 3) (ns' := 183) (pc' := 25) dX3_init_23 rfl (by decide) (by decide) (by decide) (by decide) (by decide) (ls_ e18 (lp_ (m := 129) e17 (ls_ e16 (lp_ (m := 128) e15 (lp_ (m := 127) e13 (ls_ e11 (ls_ e10 hlen)) rfl) rfl)) rfl)) rfl rfl (fun h19 e19 => ?_)
                refine aw_putFG clsAll (pc' := 28) dX3_init_25 rfl fl_RX3_18 rfl rfl (gpn e19 (gss e18 (gpn e17 (gss e16 (gpn e15 (gps e13 (ls_ e11 (ls_ e10 hlen)))))))) (Nat.le_of_ble_eq_true rfl) rfl (fun h20 e20 => ?_)
                refine aw_aload_n (pc' := 29) dX3_init_28 rfl rfl rfl ?_
                refine aw_iload_n (pc' := 30) dX3_init_29 rfl rfl ?_
                refine aw_putFG clsAll (pc' := 33) dX3_init_30 rfl fl_RX3_21 rfl rfl (gss e20 (gpn e19 (gss e18 (gpn e17 (gss e16 (gpn e15 (gps e13 (ls_ e11 (ls_ e10 hlen))))))))) (Nat.le_of_ble_eq_true rfl) rfl (fun h21 e21 => ?_)
                refine aw_aload_n (pc' := 34) dX3_init_33 rfl rfl rfl ?_
                refine aw_iload_n (pc' := 35) dX3_init_34 rfl rfl ?_
                refine aw_putFG clsAll (pc' := 38) dX3_init_35 rfl fl_RX3_25 rfl rfl (gss e21 (gss e20 (gpn e19 (gss e18 (gpn e17 (gss e16 (gpn e15 (gps e13 (ls_ e11 (ls_ e10 hlen)))))))))) (Nat.le_of_ble_eq_true rfl) rfl (fun h22 e22 => ?_)
                refine aw_aload_n (pc' := 39) dX3_init_38 rfl rfl rfl ?_
                refine aw_iload_n (pc' := 40) dX3_init_39 rfl rfl ?_
                refine aw_putG clsAll (pc' := 43) dX3_init_40 rfl fl_RX3_28 (gss e22 (gss e21 (gss e20 (gpn e19 (gss e18 (gpn e17 (gss e16 (gpn e15 (gps e13 (ls_ e11 (ls_ e10 hlen))))))))))) (Nat.le_of_ble_eq_true rfl) rfl (fun h23 e23 => ?_)
                refine aw_aload_n (pc' := 44) dX3_init_43 rfl rfl rfl ?_
                refine aw_get clsAll (pc' := 47) dX3_init_44 rfl fl_RX3_18 (gss e23 (gss e22 (gss e21 (gss e20 (gpn e19 (gss e18 (gpn e17 (gss e16 (gpn e15 (gps e13 (ls_ e11 (ls_ e10 hlen)))))))))))) rfl ?_
                refine aw_ldc (pc' := 49) dX3_init_47 rfl ct_RX3_31 ?_
                refine aw_callSv (M' := mJ7_fill_53178) (nc' := 3) (ns' := 183) (pc' := 52) dX3_init_49 rfl ml_RX3_32 kJ7_fill_53178 (c_fill (-2000000000) (gsn e23 (by decide) (gsn e22 (by decide) (gsn e21 (by decide) (gsn e20 (by decide) (gps e19 (ls_ e18 (lp_ (m := 129) e17 (ls_ e16 (lp_ (m := 128) e15 (lp_ (m := 127) e13 (ls_ e11 (ls_ e10 hlen)) rfl) rfl)) rfl))))))) (by decide)) rfl rfl (Nat.le_of_ble_eq_true rfl) (rok rfl) rfl rfl (fun h24 q24 => ?_)
                exact aw_rv dX3_init_52 rfl (Nat.le_of_ble_eq_true rfl) (Nat.le_of_ble_eq_true rfl) ⟨h15, e15, h16, e16, h17, e17, h18, e18, h19, e19, h20, e20, h21, e21, h22, e22, h23, e23, h24, q24, rfl⟩
              refine aw_callIv (M' := mX3_init) (nc' := 4) (ns' := 194) (pc' := 27) dX0_addedHole_24 rfl ml_RX0_45 kX3_init cc14 rfl rfl (Nat.le_of_ble_eq_true rfl) (rok rfl) rfl rfl (fun h35 q35 => ?_)
              obtain ⟨h25, e25, h26, e26, h27, e27, h28, e28, h29, e29, h30, e30, h31, e31, h32, e32, h33, e33, h34, e34, rfl⟩ := q35
              refine aw_aastG (pc' := 28) dX0_addedHole_27 rfl (gsn e34 (by decide) (gsn e33 (by decide) (gsn e32 (by decide) (gsn e31 (by decide) (gsn e30 (by decide) (gpn e29 (gsn e28 (by decide) (gpn e27 (gsn e26 (by decide) (gpn e25 (gpn e13 (gsn e11 (by decide) (gsn e10 (by decide) ((hx.2 17 (by decide) (by decide)).trans h0_17)))))))))))))) (by decide) rfl (gsn e34 (by decide) (gss e33 (gss e32 (gss e31 (gss e30 (gpn e29 (gss e28 (gpn e27 (gss e26 (gpn e25 (gps e13 (ls_ e11 (ls_ e10 hlen))))))))))))) rfl (vpc (by decide)) (fun h36 e36 => ?_)
              refine aw_aload_n (pc' := 29) dX0_addedHole_28 rfl rfl rfl ?_
              refine aw_dup (pc' := 30) dX0_addedHole_29 rfl rfl ?_
              refine aw_get clsAll (pc' := 33) dX0_addedHole_30 rfl fl_RX0_48 (gsn e36 (by decide) (gsn e34 (by decide) (gsn e33 (by decide) (gsn e32 (by decide) (gsn e31 (by decide) (gsn e30 (by decide) (gpn e29 (gsn e28 (by decide) (gpn e27 (gsn e26 (by decide) (gpn e25 (gpn e13 (gss e11 (gsn e10 (by decide) ((hx.2 15 (by decide) (by decide)).trans h0_15))))))))))))))) rfl ?_
              refine aw_iconst (v := 1) (pc' := 34) dX0_addedHole_33 rfl (by decide) ?_
              refine aw_iadd (pc' := 35) dX0_addedHole_34 rfl ?_
              refine aw_topi (v := 1) (by decide) ?_
              refine aw_putG clsAll (pc' := 38) dX0_addedHole_35 rfl fl_RX0_48 (gsn e36 (by decide) (gsn e34 (by decide) (gsn e33 (by decide) (gsn e32 (by decide) (gsn e31 (by decide) (gsn e30 (by decide) (gpn e29 (gsn e28 (by decide) (gpn e27 (gsn e26 (by decide) (gpn e25 (gpn e13 (gss e11 (gsn e10 (by decide) ((hx.2 15 (by decide) (by decide)).trans h0_15))))))))))))))) (Nat.le_of_ble_eq_true rfl) rfl (fun h37 e37 => ?_)
              refine aw_iload (pc' := 40) dX0_addedHole_38 rfl rfl ?_
              exact aw_ri dX0_addedHole_40 rfl rfl (Nat.le_of_ble_eq_true rfl) (Nat.le_of_ble_eq_true rfl) ⟨rfl, h10, e10, h11, e11, h13, e13, h25, e25, h26, e26, h27, e27, h28, e28, h29, e29, h30, e30, h31, e31, h32, e32, h33, e33, h34, e34, h36, e36, h37, e37, rfl⟩
            refine aw_callVi (M' := mX0_addedHole) (nc' := 4) (ns' := 194) (pc' := 52) dX11_hole_49 rfl ml_RX11_114 kX0_addedHole cc6 ((hx.2 15 (by decide) (by decide)).trans h0_15) rfl rfl rfl (Nat.le_of_ble_eq_true rfl) (rok rfl) rfl rfl (fun r53 h53 q53 => ?_)
            obtain ⟨rfl, h38, e38, h39, e39, h40, e40, h41, e41, h42, e42, h43, e43, h44, e44, h45, e45, h46, e46, h47, e47, h48, e48, h49, e49, h50, e50, h51, e51, h52, e52, rfl⟩ := q53
            exact aw_ri dX11_hole_52 rfl rfl (Nat.le_of_ble_eq_true rfl) (Nat.le_of_ble_eq_true rfl) ⟨(by first | (simp [sp_hole, cnd, okC, okS, okW, okN, inR, n2_, n3_, n5_, n31_, ← wz_ c3, c1, c2, c3, c4, c5]; done) | (simp_all [sp_hole, cnd, okC, okS, okW, okN, inR, n2_, n3_, n5_, n31_, ← wz_ c3]; done) | skip), (sm_set e52 (by decide) (sm_set e51 (by decide) (sm_set2 e50 (by decide) (sm_set2 e49 (by decide) (sm_set2 e48 (by decide) (sm_set2 e47 (by decide) (sm_set2 e46 (by decide) (sm_push e45 (ls_ e44 (lp_ (m := 129) e43 (ls_ e42 (lp_ (m := 128) e41 (lp_ (m := 127) e40 (ls_ e39 (ls_ e38 hlen)) rfl) rfl)) rfl)) (by decide) (sm_set2 e44 (by decide) (sm_push e43 (ls_ e42 (lp_ (m := 128) e41 (lp_ (m := 127) e40 (ls_ e39 (ls_ e38 hlen)) rfl) rfl)) (by decide) (sm_set2 e42 (by decide) (sm_push e41 (lp_ (m := 127) e40 (ls_ e39 (ls_ e38 hlen)) rfl) (by decide) (sm_push e40 (ls_ e39 (ls_ e38 hlen)) (by decide) (sm_set e39 (by decide) (sm_set e38 (by decide) sm_rf)))))))))))))))⟩
          · refine aw_iconst (v := (-1)) (pc' := 40) dX11_hole_39 rfl (by decide) ?_
            exact aw_ri dX11_hole_40 rfl rfl (Nat.le_of_ble_eq_true rfl) (Nat.le_of_ble_eq_true rfl) ⟨(by first | (simp [sp_hole, cnd, okC, okS, okW, okN, inR, n2_, n3_, n5_, n31_, ← wz_ c3, c1, c2, c3, c4, c5]; done) | (simp_all [sp_hole, cnd, okC, okS, okW, okN, inR, n2_, n3_, n5_, n31_, ← wz_ c3]; done) | skip), sm_rf⟩
      · refine aw_iconst (v := (-1)) (pc' := 15) dX11_hole_14 rfl (by decide) ?_
        exact aw_ri dX11_hole_15 rfl rfl (Nat.le_of_ble_eq_true rfl) (Nat.le_of_ble_eq_true rfl) ⟨(by first | (simp [sp_hole, cnd, okC, okS, okW, okN, inR, n2_, n3_, n5_, n31_, c1, c2, c3]; done) | (simp_all [sp_hole, cnd, okC, okS, okW, okN, inR, n2_, n3_, n5_, n31_]; done) | skip), sm_rf⟩
set_option maxRecDepth 4000 in
theorem x_shelter (h : List aE) (hx : Fx 0 h) (hlen : h.length = 126) (s : Int32) (y : Int32) : AM mX11_shelter 2 [.ref 8, .int s, .int y] h 0 0 (PI fun r h' => r = sp_shelter s y ∧ Sm h h') := by
  refine am_of (lv := [some (.ref 8), some (.int s), some (.int y)]) rfl (Nat.le_of_ble_eq_true rfl) rfl ?_
  refine aw_iload_n (pc' := 1) dX11_shelter_0 rfl rfl ?_
  have cc1 : AM mX11_isSpan 0 [.int s] h 0 0 (PI fun r h' => (s < 0 ∧ 0 = r ∧ h = h') ∨ (¬ (s < 0) ∧ (s % 100) < (s / 100) ∧ 0 = r ∧ h = h') ∨ (¬ (s < 0) ∧ ¬ ((s % 100) < (s / 100)) ∧ ¬ ((s % 100) < 32) ∧ 0 = r ∧ h = h') ∨ (¬ (s < 0) ∧ ¬ ((s % 100) < (s / 100)) ∧ (s % 100) < 32 ∧ 1 = r ∧ h = h')) := by
    refine am_of (lv := [some (.int s)]) rfl (Nat.le_of_ble_eq_true rfl) rfl ?_
    refine aw_iload_n (pc' := 1) dX11_isSpan_0 rfl rfl ?_
    refine aw_zlt (tgt := 28) (pc' := 4) dX11_isSpan_1 (by decide) rfl (fun c2 => ?_) (fun c2 => ?_)
    · refine aw_iconst (v := 0) (pc' := 29) dX11_isSpan_28 rfl (by decide) ?_
      exact aw_ri dX11_isSpan_29 rfl (by decide) (Nat.le_of_ble_eq_true rfl) (Nat.le_of_ble_eq_true rfl) (Or.inl ⟨c2, rfl, rfl⟩)
    · refine aw_iload_n (pc' := 5) dX11_isSpan_4 rfl rfl ?_
      refine aw_bipush (v := 100) (pc' := 7) dX11_isSpan_5 rfl (by decide) ?_
      refine aw_idiv (pc' := 8) dX11_isSpan_7 rfl (by decide) ?_
      refine aw_iload_n (pc' := 9) dX11_isSpan_8 rfl rfl ?_
      refine aw_bipush (v := 100) (pc' := 11) dX11_isSpan_9 rfl (by decide) ?_
      refine aw_irem (pc' := 12) dX11_isSpan_11 rfl (by decide) ?_
      refine aw_cgt (tgt := 28) (pc' := 15) dX11_isSpan_12 (by decide) rfl (fun c3 => ?_) (fun c3 => ?_)
      · refine aw_iconst (v := 0) (pc' := 29) dX11_isSpan_28 rfl (by decide) ?_
        exact aw_ri dX11_isSpan_29 rfl (by decide) (Nat.le_of_ble_eq_true rfl) (Nat.le_of_ble_eq_true rfl) (Or.inr (Or.inl ⟨c2, c3, rfl, rfl⟩))
      · refine aw_iload_n (pc' := 16) dX11_isSpan_15 rfl rfl ?_
        refine aw_bipush (v := 100) (pc' := 18) dX11_isSpan_16 rfl (by decide) ?_
        refine aw_irem (pc' := 19) dX11_isSpan_18 rfl (by decide) ?_
        refine aw_bipush (v := 32) (pc' := 21) dX11_isSpan_19 rfl (by decide) ?_
        refine aw_cge (tgt := 28) (pc' := 24) dX11_isSpan_21 (by decide) rfl (fun c4 => ?_) (fun c4 => ?_)
        · refine aw_iconst (v := 0) (pc' := 29) dX11_isSpan_28 rfl (by decide) ?_
          exact aw_ri dX11_isSpan_29 rfl (by decide) (Nat.le_of_ble_eq_true rfl) (Nat.le_of_ble_eq_true rfl) (Or.inr (Or.inr (Or.inl ⟨c2, c3, c4, rfl, rfl⟩)))
        · refine aw_iconst (v := 1) (pc' := 25) dX11_isSpan_24 rfl (by decide) ?_
          refine aw_goto (tgt := 29) dX11_isSpan_25 (by decide) ?_
          exact aw_ri dX11_isSpan_29 rfl (by decide) (Nat.le_of_ble_eq_true rfl) (Nat.le_of_ble_eq_true rfl) (Or.inr (Or.inr (Or.inr ⟨c2, c3, c4, rfl, rfl⟩)))
  refine aw_callSi (M' := mX11_isSpan) (nc' := 0) (ns' := 0) (pc' := 4) dX11_shelter_1 rfl ml_RX11_118 kX11_isSpan cc1 rfl rfl (Nat.le_of_ble_eq_true rfl) (rok rfl) rfl rfl (fun r14 h14 q14 => ?_)
  rcases q14 with ⟨c5, rfl, rfl⟩ | ⟨c6, c7, rfl, rfl⟩ | ⟨c8, c9, c10, rfl, rfl⟩ | ⟨c11, c12, c13, rfl, rfl⟩
  · refine aw_if_eq (tgt := 14) (pc' := 7) dX11_shelter_4 (by decide) rfl (fun _ => ?_) (fun c => absurd (by decide) c)
    refine aw_iconst (v := (-1)) (pc' := 15) dX11_shelter_14 rfl (by decide) ?_
    exact aw_ri dX11_shelter_15 rfl rfl (Nat.le_of_ble_eq_true rfl) (Nat.le_of_ble_eq_true rfl) ⟨(by first | (simp [sp_shelter, cnd, okC, okS, okW, okN, inR, n2_, n3_, n5_, n31_, c5]; done) | (simp_all [sp_shelter, cnd, okC, okS, okW, okN, inR, n2_, n3_, n5_, n31_]; done) | skip), sm_rf⟩
  · refine aw_if_eq (tgt := 14) (pc' := 7) dX11_shelter_4 (by decide) rfl (fun _ => ?_) (fun c => absurd (by decide) c)
    refine aw_iconst (v := (-1)) (pc' := 15) dX11_shelter_14 rfl (by decide) ?_
    exact aw_ri dX11_shelter_15 rfl rfl (Nat.le_of_ble_eq_true rfl) (Nat.le_of_ble_eq_true rfl) ⟨(by first | (simp [sp_shelter, cnd, okC, okS, okW, okN, inR, n2_, n3_, n5_, n31_, c6, c7]; done) | (simp_all [sp_shelter, cnd, okC, okS, okW, okN, inR, n2_, n3_, n5_, n31_]; done) | skip), sm_rf⟩
  · refine aw_if_eq (tgt := 14) (pc' := 7) dX11_shelter_4 (by decide) rfl (fun _ => ?_) (fun c => absurd (by decide) c)
    refine aw_iconst (v := (-1)) (pc' := 15) dX11_shelter_14 rfl (by decide) ?_
    exact aw_ri dX11_shelter_15 rfl rfl (Nat.le_of_ble_eq_true rfl) (Nat.le_of_ble_eq_true rfl) ⟨(by first | (simp [sp_shelter, cnd, okC, okS, okW, okN, inR, n2_, n3_, n5_, n31_, c8, c9, c10]; done) | (simp_all [sp_shelter, cnd, okC, okS, okW, okN, inR, n2_, n3_, n5_, n31_]; done) | skip), sm_rf⟩
  · refine aw_if_eq (tgt := 14) (pc' := 7) dX11_shelter_4 (by decide) rfl (fun c => absurd c (by decide)) (fun _ => ?_)
    refine aw_iload_n (pc' := 8) dX11_shelter_7 rfl rfl ?_
    have cc15 : AM mX11_isYard 0 [.int y] h 0 0 (PI fun r h' => (y < 1 ∧ 0 = r ∧ h = h') ∨ (¬ (y < 1) ∧ 60 < y ∧ 0 = r ∧ h = h') ∨ (¬ (y < 1) ∧ ¬ (60 < y) ∧ 1 = r ∧ h = h')) := by
      refine am_of (lv := [some (.int y)]) rfl (Nat.le_of_ble_eq_true rfl) rfl ?_
      refine aw_iload_n (pc' := 1) dX11_isYard_0 rfl rfl ?_
      refine aw_iconst (v := 1) (pc' := 2) dX11_isYard_1 rfl (by decide) ?_
      refine aw_clt (tgt := 15) (pc' := 5) dX11_isYard_2 (by decide) rfl (fun c16 => ?_) (fun c16 => ?_)
      · refine aw_iconst (v := 0) (pc' := 16) dX11_isYard_15 rfl (by decide) ?_
        exact aw_ri dX11_isYard_16 rfl (by decide) (Nat.le_of_ble_eq_true rfl) (Nat.le_of_ble_eq_true rfl) (Or.inl ⟨c16, rfl, rfl⟩)
      · refine aw_iload_n (pc' := 6) dX11_isYard_5 rfl rfl ?_
        refine aw_bipush (v := 60) (pc' := 8) dX11_isYard_6 rfl (by decide) ?_
        refine aw_cgt (tgt := 15) (pc' := 11) dX11_isYard_8 (by decide) rfl (fun c17 => ?_) (fun c17 => ?_)
        · refine aw_iconst (v := 0) (pc' := 16) dX11_isYard_15 rfl (by decide) ?_
          exact aw_ri dX11_isYard_16 rfl (by decide) (Nat.le_of_ble_eq_true rfl) (Nat.le_of_ble_eq_true rfl) (Or.inr (Or.inl ⟨c16, c17, rfl, rfl⟩))
        · refine aw_iconst (v := 1) (pc' := 12) dX11_isYard_11 rfl (by decide) ?_
          refine aw_goto (tgt := 16) dX11_isYard_12 (by decide) ?_
          exact aw_ri dX11_isYard_16 rfl (by decide) (Nat.le_of_ble_eq_true rfl) (Nat.le_of_ble_eq_true rfl) (Or.inr (Or.inr ⟨c16, c17, rfl, rfl⟩))
    refine aw_callSi (M' := mX11_isYard) (nc' := 0) (ns' := 0) (pc' := 11) dX11_shelter_8 rfl ml_RX11_122 kX11_isYard cc15 rfl rfl (Nat.le_of_ble_eq_true rfl) (rok rfl) rfl rfl (fun r23 h23 q23 => ?_)
    rcases q23 with ⟨c18, rfl, rfl⟩ | ⟨c19, c20, rfl, rfl⟩ | ⟨c21, c22, rfl, rfl⟩
    · refine aw_if_ne (tgt := 16) (pc' := 14) dX11_shelter_11 (by decide) rfl (fun c => absurd (by decide) c) (fun _ => ?_)
      refine aw_iconst (v := (-1)) (pc' := 15) dX11_shelter_14 rfl (by decide) ?_
      exact aw_ri dX11_shelter_15 rfl rfl (Nat.le_of_ble_eq_true rfl) (Nat.le_of_ble_eq_true rfl) ⟨(by first | (simp [sp_shelter, cnd, okC, okS, okW, okN, inR, n2_, n3_, n5_, n31_, c11, c12, c13, c18]; done) | (simp_all [sp_shelter, cnd, okC, okS, okW, okN, inR, n2_, n3_, n5_, n31_]; done) | skip), sm_rf⟩
    · refine aw_if_ne (tgt := 16) (pc' := 14) dX11_shelter_11 (by decide) rfl (fun c => absurd (by decide) c) (fun _ => ?_)
      refine aw_iconst (v := (-1)) (pc' := 15) dX11_shelter_14 rfl (by decide) ?_
      exact aw_ri dX11_shelter_15 rfl rfl (Nat.le_of_ble_eq_true rfl) (Nat.le_of_ble_eq_true rfl) ⟨(by first | (simp [sp_shelter, cnd, okC, okS, okW, okN, inR, n2_, n3_, n5_, n31_, c11, c12, c13, c19, c20]; done) | (simp_all [sp_shelter, cnd, okC, okS, okW, okN, inR, n2_, n3_, n5_, n31_]; done) | skip), sm_rf⟩
    · refine aw_if_ne (tgt := 16) (pc' := 14) dX11_shelter_11 (by decide) rfl (fun _ => ?_) (fun c => absurd c (by decide))
      refine aw_aload_n (pc' := 17) dX11_shelter_16 rfl rfl rfl ?_
      refine aw_get clsAll (pc' := 20) dX11_shelter_17 rfl fl_RX11_28 hx.1 rfl ?_
      refine aw_get clsAll (pc' := 23) dX11_shelter_20 rfl fl_RX11_125 ((hx.2 15 (by decide) (by decide)).trans h0_15) rfl ?_
      refine aw_zlt (tgt := 29) (pc' := 26) dX11_shelter_23 (by decide) rfl (fun _ => ?_) (fun c => absurd (by decide) c)
      refine aw_aload_n (pc' := 30) dX11_shelter_29 rfl rfl rfl ?_
      refine aw_get clsAll (pc' := 33) dX11_shelter_30 rfl fl_RX11_28 hx.1 rfl ?_
      refine aw_iload_n (pc' := 34) dX11_shelter_33 rfl rfl ?_
      refine aw_bipush (v := 100) (pc' := 36) dX11_shelter_34 rfl (by decide) ?_
      refine aw_idiv (pc' := 37) dX11_shelter_36 rfl (by decide) ?_
      refine aw_iload_n (pc' := 38) dX11_shelter_37 rfl rfl ?_
      refine aw_bipush (v := 100) (pc' := 40) dX11_shelter_38 rfl (by decide) ?_
      refine aw_irem (pc' := 41) dX11_shelter_40 rfl (by decide) ?_
      refine aw_iload_n (pc' := 42) dX11_shelter_41 rfl rfl ?_
      have cc24 : AM mX0_addedRefuge 1 [.ref 23, .int (s / 100), .int (s % 100), .int y] h 0 0 (PI fun r h' => (0 = r ∧ ∃ h35 : List aE, h.set 16 (.inl (0, 120, .inl (upd (fun _ => 0) (0 : Int32).toNatClampNeg 6))) = h35 ∧ ∃ h36 : List aE, h35.set 15 (.inr (0, [.ref 24, .ref 25, .ref 14, .int 1, .int 0, .int (-1), .int 0, .int 0, .int 0, .int 0, .ref 26, .int 0])) = h36 ∧ ∃ h37 : List aE, h36.set 15 (.inr (0, [.ref 24, .ref 25, .ref 14, .int 1, .int 0, .int 0, .int 0, .int 0, .int 0, .int 0, .ref 26, .int 0])) = h37 ∧ ∃ h38 : List aE, h37.set 15 (.inr (0, [.ref 24, .ref 25, .ref 14, .int 1, .int 0, .int 0, .int (s / 100), .int 0, .int 0, .int 0, .ref 26, .int 0])) = h38 ∧ ∃ h39 : List aE, h38.set 15 (.inr (0, [.ref 24, .ref 25, .ref 14, .int 1, .int 0, .int 0, .int (s / 100), .int (s % 100), .int 0, .int 0, .ref 26, .int 0])) = h39 ∧ ∃ h40 : List aE, h39.set 15 (.inr (0, [.ref 24, .ref 25, .ref 14, .int 1, .int 0, .int 0, .int (s / 100), .int (s % 100), .int y, .int 0, .ref 26, .int 0])) = h40 ∧ h40 = h')) := by
        refine am_of (lv := [some (.ref 23), some (.int (s / 100)), some (.int (s % 100)), some (.int y), none]) rfl (Nat.le_of_ble_eq_true rfl) rfl ?_
        refine aw_aload_n (pc' := 1) dX0_addedRefuge_0 rfl rfl rfl ?_
        refine aw_bipush (v := 6) (pc' := 3) dX0_addedRefuge_1 rfl (by decide) ?_
        have cc25 : AM mX0_added 0 [.ref 23, .int 6] h 0 0 (PI fun r h' => (0 = r ∧ ∃ h28 : List aE, h.set 16 (.inl (0, 120, .inl (upd (fun _ => 0) (0 : Int32).toNatClampNeg 6))) = h28 ∧ ∃ h29 : List aE, h28.set 15 (.inr (0, [.ref 24, .ref 25, .ref 14, .int 1, .int 0, .int (-1), .int 0, .int 0, .int 0, .int 0, .ref 26, .int 0])) = h29 ∧ h29 = h')) := by
          refine am_of (lv := [some (.ref 23), some (.int 6)]) rfl (Nat.le_of_ble_eq_true rfl) rfl ?_
          refine aw_aload_n (pc' := 1) dX0_added_0 rfl rfl rfl ?_
          refine aw_get clsAll (pc' := 4) dX0_added_1 rfl fl_RX0_32 ((hx.2 15 (by decide) (by decide)).trans h0_15) rfl ?_
          refine aw_bipush (v := 120) (pc' := 6) dX0_added_4 rfl (by decide) ?_
          refine aw_clt (tgt := 12) (pc' := 9) dX0_added_6 (by decide) rfl (fun _ => ?_) (fun c => absurd (by decide) c)
          refine aw_aload_n (pc' := 13) dX0_added_12 rfl rfl rfl ?_
          refine aw_get clsAll (pc' := 16) dX0_added_13 rfl fl_RX0_9 ((hx.2 15 (by decide) (by decide)).trans h0_15) rfl ?_
          refine aw_aload_n (pc' := 17) dX0_added_16 rfl rfl rfl ?_
          refine aw_get clsAll (pc' := 20) dX0_added_17 rfl fl_RX0_32 ((hx.2 15 (by decide) (by decide)).trans h0_15) rfl ?_
          refine aw_iload_n (pc' := 21) dX0_added_20 rfl rfl ?_
          refine aw_iastG (pc' := 22) dX0_added_21 rfl ((hx.2 16 (by decide) (by decide)).trans h0_16) (vpc (by decide)) (fun h26 e26 => ?_)
          refine aw_aload_n (pc' := 23) dX0_added_22 rfl rfl rfl ?_
          refine aw_dup (pc' := 24) dX0_added_23 rfl rfl ?_
          refine aw_get clsAll (pc' := 27) dX0_added_24 rfl fl_RX0_32 (gsn e26 (by decide) ((hx.2 15 (by decide) (by decide)).trans h0_15)) rfl ?_
          refine aw_iconst (v := 1) (pc' := 28) dX0_added_27 rfl (by decide) ?_
          refine aw_iadd (pc' := 29) dX0_added_28 rfl ?_
          refine aw_topi (v := 1) (by decide) ?_
          refine aw_putG clsAll (pc' := 32) dX0_added_29 rfl fl_RX0_32 (gsn e26 (by decide) ((hx.2 15 (by decide) (by decide)).trans h0_15)) (Nat.le_of_ble_eq_true rfl) rfl (fun h27 e27 => ?_)
          refine aw_aload_n (pc' := 33) dX0_added_32 rfl rfl rfl ?_
          refine aw_get clsAll (pc' := 36) dX0_added_33 rfl fl_RX0_32 (gss e27 (gsn e26 (by decide) ((hx.2 15 (by decide) (by decide)).trans h0_15))) rfl ?_
          refine aw_iconst (v := 1) (pc' := 37) dX0_added_36 rfl (by decide) ?_
          refine aw_isub (pc' := 38) dX0_added_37 rfl ?_
          refine aw_topi (v := 0) (by decide) ?_
          exact aw_ri dX0_added_38 rfl rfl (Nat.le_of_ble_eq_true rfl) (Nat.le_of_ble_eq_true rfl) ⟨rfl, h26, e26, h27, e27, rfl⟩
        refine aw_callVi (M' := mX0_added) (nc' := 0) (ns' := 0) (pc' := 6) dX0_addedRefuge_3 rfl ml_RX0_42 kX0_added cc25 ((hx.2 15 (by decide) (by decide)).trans h0_15) rfl rfl rfl (Nat.le_of_ble_eq_true rfl) (rok rfl) rfl rfl (fun r30 h30 q30 => ?_)
        obtain ⟨rfl, h28, e28, h29, e29, rfl⟩ := q30
        refine aw_istore (lv' := [_, _, _, _, _]) (pc' := 8) dX0_addedRefuge_6 rfl (Nat.le_of_ble_eq_true rfl) rfl ?_
        refine aw_iload (pc' := 10) dX0_addedRefuge_8 rfl rfl ?_
        refine aw_zlt (tgt := 34) (pc' := 13) dX0_addedRefuge_10 (by decide) rfl (fun c => absurd c (by decide)) (fun _ => ?_)
        refine aw_aload_n (pc' := 14) dX0_addedRefuge_13 rfl rfl rfl ?_
        refine aw_iload (pc' := 16) dX0_addedRefuge_14 rfl rfl ?_
        refine aw_putG clsAll (pc' := 19) dX0_addedRefuge_16 rfl fl_RX0_21 (gss e29 (gsn e28 (by decide) ((hx.2 15 (by decide) (by decide)).trans h0_15))) (Nat.le_of_ble_eq_true rfl) rfl (fun h31 e31 => ?_)
        refine aw_aload_n (pc' := 20) dX0_addedRefuge_19 rfl rfl rfl ?_
        refine aw_iload_n (pc' := 21) dX0_addedRefuge_20 rfl rfl ?_
        refine aw_putG clsAll (pc' := 24) dX0_addedRefuge_21 rfl fl_RX0_51 (gss e31 (gss e29 (gsn e28 (by decide) ((hx.2 15 (by decide) (by decide)).trans h0_15)))) (Nat.le_of_ble_eq_true rfl) rfl (fun h32 e32 => ?_)
        refine aw_aload_n (pc' := 25) dX0_addedRefuge_24 rfl rfl rfl ?_
        refine aw_iload_n (pc' := 26) dX0_addedRefuge_25 rfl rfl ?_
        refine aw_putG clsAll (pc' := 29) dX0_addedRefuge_26 rfl fl_RX0_54 (gss e32 (gss e31 (gss e29 (gsn e28 (by decide) ((hx.2 15 (by decide) (by decide)).trans h0_15))))) (Nat.le_of_ble_eq_true rfl) rfl (fun h33 e33 => ?_)
        refine aw_aload_n (pc' := 30) dX0_addedRefuge_29 rfl rfl rfl ?_
        refine aw_iload_n (pc' := 31) dX0_addedRefuge_30 rfl rfl ?_
        refine aw_putG clsAll (pc' := 34) dX0_addedRefuge_31 rfl fl_RX0_57 (gss e33 (gss e32 (gss e31 (gss e29 (gsn e28 (by decide) ((hx.2 15 (by decide) (by decide)).trans h0_15)))))) (Nat.le_of_ble_eq_true rfl) rfl (fun h34 e34 => ?_)
        refine aw_iload (pc' := 36) dX0_addedRefuge_34 rfl rfl ?_
        exact aw_ri dX0_addedRefuge_36 rfl rfl (Nat.le_of_ble_eq_true rfl) (Nat.le_of_ble_eq_true rfl) ⟨rfl, h28, e28, h29, e29, h31, e31, h32, e32, h33, e33, h34, e34, rfl⟩
      refine aw_callVi (M' := mX0_addedRefuge) (nc' := 0) (ns' := 0) (pc' := 45) dX11_shelter_42 rfl ml_RX11_128 kX0_addedRefuge cc24 ((hx.2 15 (by decide) (by decide)).trans h0_15) rfl rfl rfl (Nat.le_of_ble_eq_true rfl) (rok rfl) rfl rfl (fun r41 h41 q41 => ?_)
      obtain ⟨rfl, h35, e35, h36, e36, h37, e37, h38, e38, h39, e39, h40, e40, rfl⟩ := q41
      exact aw_ri dX11_shelter_45 rfl rfl (Nat.le_of_ble_eq_true rfl) (Nat.le_of_ble_eq_true rfl) ⟨(by first | (simp [sp_shelter, cnd, okC, okS, okW, okN, inR, n2_, n3_, n5_, n31_, c11, c12, c13, c21, c22]; done) | (simp_all [sp_shelter, cnd, okC, okS, okW, okN, inR, n2_, n3_, n5_, n31_]; done) | skip), (sm_set e40 (by decide) (sm_set e39 (by decide) (sm_set e38 (by decide) (sm_set e37 (by decide) (sm_set e36 (by decide) (sm_set e35 (by decide) sm_rf))))))⟩
set_option maxRecDepth 4000 in
theorem x_man (h : List aE) (hx : Fx 0 h) (hlen : h.length = 126) (s : Int32) (w : Int32) : AM mX11_man 1 [.ref 8, .int s, .int w] h 0 0 (PI fun r h' => r = sp_man s w ∧ Sm h h') := by
  refine am_of (lv := [some (.ref 8), some (.int s), some (.int w), none]) rfl (Nat.le_of_ble_eq_true rfl) rfl ?_
  refine aw_iload_n (pc' := 1) dX11_man_0 rfl rfl ?_
  refine aw_zlt (tgt := 21) (pc' := 4) dX11_man_1 (by decide) rfl (fun c1 => ?_) (fun c1 => ?_)
  · refine aw_iconst (v := (-1)) (pc' := 22) dX11_man_21 rfl (by decide) ?_
    exact aw_ri dX11_man_22 rfl rfl (Nat.le_of_ble_eq_true rfl) (Nat.le_of_ble_eq_true rfl) ⟨(by first | (simp [sp_man, cnd, okC, okS, okW, okN, inR, n2_, n3_, n5_, n31_, c1]; done) | (simp_all [sp_man, cnd, okC, okS, okW, okN, inR, n2_, n3_, n5_, n31_]; done) | skip), sm_rf⟩
  · refine aw_iload_n (pc' := 5) dX11_man_4 rfl rfl ?_
    refine aw_sipush (v := 999) (pc' := 8) dX11_man_5 rfl (by decide) ?_
    refine aw_cgt (tgt := 21) (pc' := 11) dX11_man_8 (by decide) rfl (fun c2 => ?_) (fun c2 => ?_)
    · refine aw_iconst (v := (-1)) (pc' := 22) dX11_man_21 rfl (by decide) ?_
      exact aw_ri dX11_man_22 rfl rfl (Nat.le_of_ble_eq_true rfl) (Nat.le_of_ble_eq_true rfl) ⟨(by first | (simp [sp_man, cnd, okC, okS, okW, okN, inR, n2_, n3_, n5_, n31_, c1, c2]; done) | (simp_all [sp_man, cnd, okC, okS, okW, okN, inR, n2_, n3_, n5_, n31_]; done) | skip), sm_rf⟩
    · refine aw_iload_n (pc' := 12) dX11_man_11 rfl rfl ?_
      refine aw_zlt (tgt := 21) (pc' := 15) dX11_man_12 (by decide) rfl (fun c3 => ?_) (fun c3 => ?_)
      · refine aw_iconst (v := (-1)) (pc' := 22) dX11_man_21 rfl (by decide) ?_
        exact aw_ri dX11_man_22 rfl rfl (Nat.le_of_ble_eq_true rfl) (Nat.le_of_ble_eq_true rfl) ⟨(by first | (simp [sp_man, cnd, okC, okS, okW, okN, inR, n2_, n3_, n5_, n31_, c1, c2, c3]; done) | (simp_all [sp_man, cnd, okC, okS, okW, okN, inR, n2_, n3_, n5_, n31_]; done) | skip), sm_rf⟩
      · refine aw_iload_n (pc' := 16) dX11_man_15 rfl rfl ?_
        refine aw_bipush (v := 99) (pc' := 18) dX11_man_16 rfl (by decide) ?_
        refine aw_cle (tgt := 23) (pc' := 21) dX11_man_18 (by decide) rfl (fun c4 => ?_) (fun c4 => ?_)
        · refine aw_aload_n (pc' := 24) dX11_man_23 rfl rfl rfl ?_
          refine aw_get clsAll (pc' := 27) dX11_man_24 rfl fl_RX11_28 hx.1 rfl ?_
          refine aw_bipush (v := 7) (pc' := 29) dX11_man_27 rfl (by decide) ?_
          have cc5 : AM mX0_added 0 [.ref 23, .int 7] h 0 0 (PI fun r h' => (0 = r ∧ ∃ h8 : List aE, h.set 16 (.inl (0, 120, .inl (upd (fun _ => 0) (0 : Int32).toNatClampNeg 7))) = h8 ∧ ∃ h9 : List aE, h8.set 15 (.inr (0, [.ref 24, .ref 25, .ref 14, .int 1, .int 0, .int (-1), .int 0, .int 0, .int 0, .int 0, .ref 26, .int 0])) = h9 ∧ h9 = h')) := by
            refine am_of (lv := [some (.ref 23), some (.int 7)]) rfl (Nat.le_of_ble_eq_true rfl) rfl ?_
            refine aw_aload_n (pc' := 1) dX0_added_0 rfl rfl rfl ?_
            refine aw_get clsAll (pc' := 4) dX0_added_1 rfl fl_RX0_32 ((hx.2 15 (by decide) (by decide)).trans h0_15) rfl ?_
            refine aw_bipush (v := 120) (pc' := 6) dX0_added_4 rfl (by decide) ?_
            refine aw_clt (tgt := 12) (pc' := 9) dX0_added_6 (by decide) rfl (fun _ => ?_) (fun c => absurd (by decide) c)
            refine aw_aload_n (pc' := 13) dX0_added_12 rfl rfl rfl ?_
            refine aw_get clsAll (pc' := 16) dX0_added_13 rfl fl_RX0_9 ((hx.2 15 (by decide) (by decide)).trans h0_15) rfl ?_
            refine aw_aload_n (pc' := 17) dX0_added_16 rfl rfl rfl ?_
            refine aw_get clsAll (pc' := 20) dX0_added_17 rfl fl_RX0_32 ((hx.2 15 (by decide) (by decide)).trans h0_15) rfl ?_
            refine aw_iload_n (pc' := 21) dX0_added_20 rfl rfl ?_
            refine aw_iastG (pc' := 22) dX0_added_21 rfl ((hx.2 16 (by decide) (by decide)).trans h0_16) (vpc (by decide)) (fun h6 e6 => ?_)
            refine aw_aload_n (pc' := 23) dX0_added_22 rfl rfl rfl ?_
            refine aw_dup (pc' := 24) dX0_added_23 rfl rfl ?_
            refine aw_get clsAll (pc' := 27) dX0_added_24 rfl fl_RX0_32 (gsn e6 (by decide) ((hx.2 15 (by decide) (by decide)).trans h0_15)) rfl ?_
            refine aw_iconst (v := 1) (pc' := 28) dX0_added_27 rfl (by decide) ?_
            refine aw_iadd (pc' := 29) dX0_added_28 rfl ?_
            refine aw_topi (v := 1) (by decide) ?_
            refine aw_putG clsAll (pc' := 32) dX0_added_29 rfl fl_RX0_32 (gsn e6 (by decide) ((hx.2 15 (by decide) (by decide)).trans h0_15)) (Nat.le_of_ble_eq_true rfl) rfl (fun h7 e7 => ?_)
            refine aw_aload_n (pc' := 33) dX0_added_32 rfl rfl rfl ?_
            refine aw_get clsAll (pc' := 36) dX0_added_33 rfl fl_RX0_32 (gss e7 (gsn e6 (by decide) ((hx.2 15 (by decide) (by decide)).trans h0_15))) rfl ?_
            refine aw_iconst (v := 1) (pc' := 37) dX0_added_36 rfl (by decide) ?_
            refine aw_isub (pc' := 38) dX0_added_37 rfl ?_
            refine aw_topi (v := 0) (by decide) ?_
            exact aw_ri dX0_added_38 rfl rfl (Nat.le_of_ble_eq_true rfl) (Nat.le_of_ble_eq_true rfl) ⟨rfl, h6, e6, h7, e7, rfl⟩
          refine aw_callVi (M' := mX0_added) (nc' := 0) (ns' := 0) (pc' := 32) dX11_man_29 rfl ml_RX11_111 kX0_added cc5 ((hx.2 15 (by decide) (by decide)).trans h0_15) rfl rfl rfl (Nat.le_of_ble_eq_true rfl) (rok rfl) rfl rfl (fun r10 h10 q10 => ?_)
          obtain ⟨rfl, h8, e8, h9, e9, rfl⟩ := q10
          refine aw_istore_n (lv' := [_, _, _, _]) (pc' := 33) dX11_man_32 rfl (Nat.le_of_ble_eq_true rfl) rfl ?_
          refine aw_iload_n (pc' := 34) dX11_man_33 rfl rfl ?_
          refine aw_zlt (tgt := 54) (pc' := 37) dX11_man_34 (by decide) rfl (fun c => absurd c (by decide)) (fun _ => ?_)
          refine aw_aload_n (pc' := 38) dX11_man_37 rfl rfl rfl ?_
          refine aw_get clsAll (pc' := 41) dX11_man_38 rfl fl_RX11_19 (gsn e9 (by decide) (gsn e8 (by decide) hx.1)) rfl ?_
          refine aw_iload_n (pc' := 42) dX11_man_41 rfl rfl ?_
          refine aw_iload_n (pc' := 43) dX11_man_42 rfl rfl ?_
          refine aw_iload_n (pc' := 44) dX11_man_43 rfl rfl ?_
          refine aw_bipush (v := 10) (pc' := 46) dX11_man_44 rfl (by decide) ?_
          refine aw_idiv (pc' := 47) dX11_man_46 rfl (by decide) ?_
          refine aw_iload_n (pc' := 48) dX11_man_47 rfl rfl ?_
          refine aw_bipush (v := 10) (pc' := 50) dX11_man_48 rfl (by decide) ?_
          refine aw_irem (pc' := 51) dX11_man_50 rfl (by decide) ?_
          have cc11 : AM mX2_comes 0 [.ref 14, .int 0, .int s, .int (w / 10), .int (w % 10)] h9 0 0 (PV fun h' => (∃ h17 : List aE, h9.set 7 (.inl (0, 120, .inl (upd (fun _ => 0) (0 : Int32).toNatClampNeg s))) = h17 ∧ ∃ h18 : List aE, h17.set 8 (.inl (0, 120, .inl (upd (fun _ => 0) (0 : Int32).toNatClampNeg (w / 10)))) = h18 ∧ ∃ h19 : List aE, h18.set 9 (.inl (0, 120, .inl (upd (fun _ => 0) (0 : Int32).toNatClampNeg (w % 10)))) = h19 ∧ ∃ h20 : List aE, h19.set 10 (.inl (0, 120, .inl (upd (fun _ => 0) (0 : Int32).toNatClampNeg 1))) = h20 ∧ ∃ h21 : List aE, h20.set 6 (.inr (2, [.ref 15, .ref 16, .ref 17, .ref 18, .int 1, .ref 19, .ref 20, .int 0, .ref 21, .ref 22, .int 0, .int 0, .int 0])) = h21 ∧ h21 = h')) := by
            refine am_of (lv := [some (.ref 14), some (.int 0), some (.int s), some (.int (w / 10)), some (.int (w % 10))]) rfl (Nat.le_of_ble_eq_true rfl) rfl ?_
            refine aw_iload_n (pc' := 1) dX2_comes_0 rfl rfl ?_
            refine aw_zlt (tgt := 10) (pc' := 4) dX2_comes_1 (by decide) rfl (fun c => absurd c (by decide)) (fun _ => ?_)
            refine aw_iload_n (pc' := 5) dX2_comes_4 rfl rfl ?_
            refine aw_bipush (v := 120) (pc' := 7) dX2_comes_5 rfl (by decide) ?_
            refine aw_clt (tgt := 11) (pc' := 10) dX2_comes_7 (by decide) rfl (fun _ => ?_) (fun c => absurd (by decide) c)
            refine aw_aload_n (pc' := 12) dX2_comes_11 rfl rfl rfl ?_
            refine aw_get clsAll (pc' := 15) dX2_comes_12 rfl fl_RX2_9 (gsn e9 (by decide) (gsn e8 (by decide) ((hx.2 6 (by decide) (by decide)).trans h0_6))) rfl ?_
            refine aw_iload_n (pc' := 16) dX2_comes_15 rfl rfl ?_
            refine aw_iload_n (pc' := 17) dX2_comes_16 rfl rfl ?_
            refine aw_iastG (pc' := 18) dX2_comes_17 rfl (gsn e9 (by decide) (gsn e8 (by decide) ((hx.2 7 (by decide) (by decide)).trans h0_7))) (vpc (by decide)) (fun h12 e12 => ?_)
            refine aw_aload_n (pc' := 19) dX2_comes_18 rfl rfl rfl ?_
            refine aw_get clsAll (pc' := 22) dX2_comes_19 rfl fl_RX2_15 (gsn e12 (by decide) (gsn e9 (by decide) (gsn e8 (by decide) ((hx.2 6 (by decide) (by decide)).trans h0_6)))) rfl ?_
            refine aw_iload_n (pc' := 23) dX2_comes_22 rfl rfl ?_
            refine aw_iload_n (pc' := 24) dX2_comes_23 rfl rfl ?_
            refine aw_iastG (pc' := 25) dX2_comes_24 rfl (gsn e12 (by decide) (gsn e9 (by decide) (gsn e8 (by decide) ((hx.2 8 (by decide) (by decide)).trans h0_8)))) (vpc (by decide)) (fun h13 e13 => ?_)
            refine aw_aload_n (pc' := 26) dX2_comes_25 rfl rfl rfl ?_
            refine aw_get clsAll (pc' := 29) dX2_comes_26 rfl fl_RX2_18 (gsn e13 (by decide) (gsn e12 (by decide) (gsn e9 (by decide) (gsn e8 (by decide) ((hx.2 6 (by decide) (by decide)).trans h0_6))))) rfl ?_
            refine aw_iload_n (pc' := 30) dX2_comes_29 rfl rfl ?_
            refine aw_iload (pc' := 32) dX2_comes_30 rfl rfl ?_
            refine aw_iastG (pc' := 33) dX2_comes_32 rfl (gsn e13 (by decide) (gsn e12 (by decide) (gsn e9 (by decide) (gsn e8 (by decide) ((hx.2 9 (by decide) (by decide)).trans h0_9))))) (vpc (by decide)) (fun h14 e14 => ?_)
            refine aw_aload_n (pc' := 34) dX2_comes_33 rfl rfl rfl ?_
            refine aw_get clsAll (pc' := 37) dX2_comes_34 rfl fl_RX2_21 (gsn e14 (by decide) (gsn e13 (by decide) (gsn e12 (by decide) (gsn e9 (by decide) (gsn e8 (by decide) ((hx.2 6 (by decide) (by decide)).trans h0_6)))))) rfl ?_
            refine aw_iload_n (pc' := 38) dX2_comes_37 rfl rfl ?_
            refine aw_iconst (v := 1) (pc' := 39) dX2_comes_38 rfl (by decide) ?_
            refine aw_iastG (pc' := 40) dX2_comes_39 rfl (gsn e14 (by decide) (gsn e13 (by decide) (gsn e12 (by decide) (gsn e9 (by decide) (gsn e8 (by decide) ((hx.2 10 (by decide) (by decide)).trans h0_10)))))) (vpc (by decide)) (fun h15 e15 => ?_)
            refine aw_aload_n (pc' := 41) dX2_comes_40 rfl rfl rfl ?_
            refine aw_dup (pc' := 42) dX2_comes_41 rfl rfl ?_
            refine aw_get clsAll (pc' := 45) dX2_comes_42 rfl fl_RX2_36 (gsn e15 (by decide) (gsn e14 (by decide) (gsn e13 (by decide) (gsn e12 (by decide) (gsn e9 (by decide) (gsn e8 (by decide) ((hx.2 6 (by decide) (by decide)).trans h0_6))))))) rfl ?_
            refine aw_iconst (v := 1) (pc' := 46) dX2_comes_45 rfl (by decide) ?_
            refine aw_iadd (pc' := 47) dX2_comes_46 rfl ?_
            refine aw_topi (v := 1) (by decide) ?_
            refine aw_putG clsAll (pc' := 50) dX2_comes_47 rfl fl_RX2_36 (gsn e15 (by decide) (gsn e14 (by decide) (gsn e13 (by decide) (gsn e12 (by decide) (gsn e9 (by decide) (gsn e8 (by decide) ((hx.2 6 (by decide) (by decide)).trans h0_6))))))) (Nat.le_of_ble_eq_true rfl) rfl (fun h16 e16 => ?_)
            exact aw_rv dX2_comes_50 rfl (Nat.le_of_ble_eq_true rfl) (Nat.le_of_ble_eq_true rfl) ⟨h12, e12, h13, e13, h14, e14, h15, e15, h16, e16, rfl⟩
          refine aw_callVv (M' := mX2_comes) (nc' := 0) (ns' := 0) (pc' := 54) dX11_man_51 rfl ml_RX11_131 kX2_comes cc11 (gsn e9 (by decide) (gsn e8 (by decide) ((hx.2 6 (by decide) (by decide)).trans h0_6))) rfl rfl rfl (Nat.le_of_ble_eq_true rfl) (rok rfl) rfl rfl (fun h22 q22 => ?_)
          obtain ⟨h17, e17, h18, e18, h19, e19, h20, e20, h21, e21, rfl⟩ := q22
          refine aw_iload_n (pc' := 55) dX11_man_54 rfl rfl ?_
          exact aw_ri dX11_man_55 rfl rfl (Nat.le_of_ble_eq_true rfl) (Nat.le_of_ble_eq_true rfl) ⟨(by first | (simp [sp_man, cnd, okC, okS, okW, okN, inR, n2_, n3_, n5_, n31_, c1, c2, c3, c4]; done) | (simp_all [sp_man, cnd, okC, okS, okW, okN, inR, n2_, n3_, n5_, n31_]; done) | skip), (sm_set e21 (by decide) (sm_set e20 (by decide) (sm_set e19 (by decide) (sm_set e18 (by decide) (sm_set e17 (by decide) (sm_set e9 (by decide) (sm_set e8 (by decide) sm_rf)))))))⟩
        · refine aw_iconst (v := (-1)) (pc' := 22) dX11_man_21 rfl (by decide) ?_
          exact aw_ri dX11_man_22 rfl rfl (Nat.le_of_ble_eq_true rfl) (Nat.le_of_ble_eq_true rfl) ⟨(by first | (simp [sp_man, cnd, okC, okS, okW, okN, inR, n2_, n3_, n5_, n31_, c1, c2, c3, c4]; done) | (simp_all [sp_man, cnd, okC, okS, okW, okN, inR, n2_, n3_, n5_, n31_]; done) | skip), sm_rf⟩
set_option maxRecDepth 4000 in
theorem x_ofBody (h : List aE) (hx : Fx 0 h) (hlen : h.length = 126) (b : Int32) (w : Int32) : AM mX11_ofBody 1 [.ref 8, .int b, .int w] h 0 0 (PI fun r h' => r = sp_ofBody b w ∧ Sm h h') := by
  refine am_of (lv := [some (.ref 8), some (.int b), some (.int w), none, none]) rfl (Nat.le_of_ble_eq_true rfl) rfl ?_
  refine aw_aload_n (pc' := 1) dX11_ofBody_0 rfl rfl rfl ?_
  refine aw_get clsAll (pc' := 4) dX11_ofBody_1 rfl fl_RX11_28 hx.1 rfl ?_
  refine aw_iload_n (pc' := 5) dX11_ofBody_4 rfl rfl ?_
  have cc1 : AM mX0_kindOf 0 [.ref 23, .int b] h 0 0 (PI fun r h' => (b < 0 ∧ (-1) = r ∧ h = h') ∨ (¬ (b < 0) ∧ (-1) = r ∧ h = h')) := by
    refine am_of (lv := [some (.ref 23), some (.int b)]) rfl (Nat.le_of_ble_eq_true rfl) rfl ?_
    refine aw_iload_n (pc' := 1) dX0_kindOf_0 rfl rfl ?_
    refine aw_zlt (tgt := 12) (pc' := 4) dX0_kindOf_1 (by decide) rfl (fun c2 => ?_) (fun c2 => ?_)
    · refine aw_iconst (v := (-1)) (pc' := 13) dX0_kindOf_12 rfl (by decide) ?_
      refine aw_goto (tgt := 22) dX0_kindOf_13 (by decide) ?_
      exact aw_ri dX0_kindOf_22 rfl rfl (Nat.le_of_ble_eq_true rfl) (Nat.le_of_ble_eq_true rfl) (Or.inl ⟨c2, rfl, rfl⟩)
    · refine aw_iload_n (pc' := 5) dX0_kindOf_4 rfl rfl ?_
      refine aw_aload_n (pc' := 6) dX0_kindOf_5 rfl rfl rfl ?_
      refine aw_get clsAll (pc' := 9) dX0_kindOf_6 rfl fl_RX0_32 ((hx.2 15 (by decide) (by decide)).trans h0_15) rfl ?_
      refine aw_clt (tgt := 16) (pc' := 12) dX0_kindOf_9 (by decide) rfl (fun c => absurd c c2) (fun _ => ?_)
      refine aw_iconst (v := (-1)) (pc' := 13) dX0_kindOf_12 rfl (by decide) ?_
      refine aw_goto (tgt := 22) dX0_kindOf_13 (by decide) ?_
      exact aw_ri dX0_kindOf_22 rfl rfl (Nat.le_of_ble_eq_true rfl) (Nat.le_of_ble_eq_true rfl) (Or.inr ⟨c2, rfl, rfl⟩)
  refine aw_callVi (M' := mX0_kindOf) (nc' := 0) (ns' := 0) (pc' := 8) dX11_ofBody_5 rfl ml_RX11_135 kX0_kindOf cc1 ((hx.2 15 (by decide) (by decide)).trans h0_15) rfl rfl rfl (Nat.le_of_ble_eq_true rfl) (rok rfl) rfl rfl (fun r5 h5 q5 => ?_)
  rcases q5 with ⟨c3, rfl, rfl⟩ | ⟨c4, rfl, rfl⟩
  · refine aw_istore_n (lv' := [_, _, _, _, _]) (pc' := 9) dX11_ofBody_8 rfl (Nat.le_of_ble_eq_true rfl) rfl ?_
    refine aw_iload_n (pc' := 10) dX11_ofBody_9 rfl rfl ?_
    refine aw_zge (tgt := 16) (pc' := 13) dX11_ofBody_10 (by decide) rfl (fun c => absurd (by decide) c) (fun _ => ?_)
    refine aw_ldc (pc' := 15) dX11_ofBody_13 rfl ct_RX11_138 ?_
    exact aw_ri dX11_ofBody_15 rfl rfl (Nat.le_of_ble_eq_true rfl) (Nat.le_of_ble_eq_true rfl) ⟨(by first | (simp [sp_ofBody, cnd, okC, okS, okW, okN, inR, n2_, n3_, n5_, n31_, c3]; done) | (simp_all [sp_ofBody, cnd, okC, okS, okW, okN, inR, n2_, n3_, n5_, n31_]; done) | skip), sm_rf⟩
  · refine aw_istore_n (lv' := [_, _, _, _, _]) (pc' := 9) dX11_ofBody_8 rfl (Nat.le_of_ble_eq_true rfl) rfl ?_
    refine aw_iload_n (pc' := 10) dX11_ofBody_9 rfl rfl ?_
    refine aw_zge (tgt := 16) (pc' := 13) dX11_ofBody_10 (by decide) rfl (fun c => absurd (by decide) c) (fun _ => ?_)
    refine aw_ldc (pc' := 15) dX11_ofBody_13 rfl ct_RX11_138 ?_
    exact aw_ri dX11_ofBody_15 rfl rfl (Nat.le_of_ble_eq_true rfl) (Nat.le_of_ble_eq_true rfl) ⟨(by first | (simp [sp_ofBody, cnd, okC, okS, okW, okN, inR, n2_, n3_, n5_, n31_, c4]; done) | (simp_all [sp_ofBody, cnd, okC, okS, okW, okN, inR, n2_, n3_, n5_, n31_]; done) | skip), sm_rf⟩
set_option maxRecDepth 4000 in
theorem x_ill (h : List aE) (hx : Fx 0 h) (hlen : h.length = 126) (m : Int32) (v : Int32) : AM mX11_ill 1 [.ref 8, .int m, .int v] h 0 0 (PI fun r h' => r = sp_ill m v ∧ Sm h h') := by
  refine am_of (lv := [some (.ref 8), some (.int m), some (.int v), none]) rfl (Nat.le_of_ble_eq_true rfl) rfl ?_
  refine aw_aload_n (pc' := 1) dX11_ill_0 rfl rfl rfl ?_
  refine aw_get clsAll (pc' := 4) dX11_ill_1 rfl fl_RX11_28 hx.1 rfl ?_
  refine aw_iload_n (pc' := 5) dX11_ill_4 rfl rfl ?_
  have cc1 : AM mX0_kindOf 0 [.ref 23, .int m] h 0 0 (PI fun r h' => (m < 0 ∧ (-1) = r ∧ h = h') ∨ (¬ (m < 0) ∧ (-1) = r ∧ h = h')) := by
    refine am_of (lv := [some (.ref 23), some (.int m)]) rfl (Nat.le_of_ble_eq_true rfl) rfl ?_
    refine aw_iload_n (pc' := 1) dX0_kindOf_0 rfl rfl ?_
    refine aw_zlt (tgt := 12) (pc' := 4) dX0_kindOf_1 (by decide) rfl (fun c2 => ?_) (fun c2 => ?_)
    · refine aw_iconst (v := (-1)) (pc' := 13) dX0_kindOf_12 rfl (by decide) ?_
      refine aw_goto (tgt := 22) dX0_kindOf_13 (by decide) ?_
      exact aw_ri dX0_kindOf_22 rfl rfl (Nat.le_of_ble_eq_true rfl) (Nat.le_of_ble_eq_true rfl) (Or.inl ⟨c2, rfl, rfl⟩)
    · refine aw_iload_n (pc' := 5) dX0_kindOf_4 rfl rfl ?_
      refine aw_aload_n (pc' := 6) dX0_kindOf_5 rfl rfl rfl ?_
      refine aw_get clsAll (pc' := 9) dX0_kindOf_6 rfl fl_RX0_32 ((hx.2 15 (by decide) (by decide)).trans h0_15) rfl ?_
      refine aw_clt (tgt := 16) (pc' := 12) dX0_kindOf_9 (by decide) rfl (fun c => absurd c c2) (fun _ => ?_)
      refine aw_iconst (v := (-1)) (pc' := 13) dX0_kindOf_12 rfl (by decide) ?_
      refine aw_goto (tgt := 22) dX0_kindOf_13 (by decide) ?_
      exact aw_ri dX0_kindOf_22 rfl rfl (Nat.le_of_ble_eq_true rfl) (Nat.le_of_ble_eq_true rfl) (Or.inr ⟨c2, rfl, rfl⟩)
  refine aw_callVi (M' := mX0_kindOf) (nc' := 0) (ns' := 0) (pc' := 8) dX11_ill_5 rfl ml_RX11_135 kX0_kindOf cc1 ((hx.2 15 (by decide) (by decide)).trans h0_15) rfl rfl rfl (Nat.le_of_ble_eq_true rfl) (rok rfl) rfl rfl (fun r5 h5 q5 => ?_)
  rcases q5 with ⟨c3, rfl, rfl⟩ | ⟨c4, rfl, rfl⟩
  · refine aw_bipush (v := 7) (pc' := 10) dX11_ill_8 rfl (by decide) ?_
    refine aw_icmp_ne (tgt := 23) (pc' := 13) dX11_ill_10 (by decide) rfl (fun _ => ?_) (fun c => absurd c (by decide))
    refine aw_iconst (v := (-1)) (pc' := 24) dX11_ill_23 rfl (by decide) ?_
    exact aw_ri dX11_ill_24 rfl rfl (Nat.le_of_ble_eq_true rfl) (Nat.le_of_ble_eq_true rfl) ⟨(by first | (simp [sp_ill, cnd, okC, okS, okW, okN, inR, n2_, n3_, n5_, n31_, c3]; done) | (simp_all [sp_ill, cnd, okC, okS, okW, okN, inR, n2_, n3_, n5_, n31_]; done) | skip), sm_rf⟩
  · refine aw_bipush (v := 7) (pc' := 10) dX11_ill_8 rfl (by decide) ?_
    refine aw_icmp_ne (tgt := 23) (pc' := 13) dX11_ill_10 (by decide) rfl (fun _ => ?_) (fun c => absurd c (by decide))
    refine aw_iconst (v := (-1)) (pc' := 24) dX11_ill_23 rfl (by decide) ?_
    exact aw_ri dX11_ill_24 rfl rfl (Nat.le_of_ble_eq_true rfl) (Nat.le_of_ble_eq_true rfl) ⟨(by first | (simp [sp_ill, cnd, okC, okS, okW, okN, inR, n2_, n3_, n5_, n31_, c4]; done) | (simp_all [sp_ill, cnd, okC, okS, okW, okN, inR, n2_, n3_, n5_, n31_]; done) | skip), sm_rf⟩
set_option maxRecDepth 4000 in
theorem x_speed (h : List aE) (hx : Fx 0 h) (hlen : h.length = 126) (m : Int32) (v : Int32) : AM mX11_speed 1 [.ref 8, .int m, .int v] h 0 0 (PI fun r h' => r = sp_speed m v ∧ Sm h h') := by
  refine am_of (lv := [some (.ref 8), some (.int m), some (.int v), none, none]) rfl (Nat.le_of_ble_eq_true rfl) rfl ?_
  refine aw_aload_n (pc' := 1) dX11_speed_0 rfl rfl rfl ?_
  refine aw_iload_n (pc' := 2) dX11_speed_1 rfl rfl ?_
  have cc1 : AM mX11_machineOf 0 [.ref 8, .int m] h 0 0 (PA fun r h' => (m < 0 ∧ Value.null = r ∧ h = h') ∨ (m = 0 ∧ Value.ref 28 = r ∧ h = h') ∨ (m = 1 ∧ Value.ref 29 = r ∧ h = h') ∨ (m = 2 ∧ Value.ref 30 = r ∧ h = h') ∨ (¬ (m < 0) ∧ ¬ (m < 3) ∧ Value.null = r ∧ h = h')) := by
    refine am_of (lv := [some (.ref 8), some (.int m)]) rfl (Nat.le_of_ble_eq_true rfl) rfl ?_
    refine aw_iload_n (pc' := 1) dX11_machineOf_0 rfl rfl ?_
    refine aw_zlt (tgt := 9) (pc' := 4) dX11_machineOf_1 (by decide) rfl (fun c2 => ?_) (fun c2 => ?_)
    · refine aw_null (pc' := 10) dX11_machineOf_9 rfl ?_
      refine aw_goto (tgt := 19) dX11_machineOf_10 (by decide) ?_
      exact aw_ra dX11_machineOf_19 rfl (Or.inl ⟨_, rfl⟩) rfl (Nat.le_of_ble_eq_true rfl) (Nat.le_of_ble_eq_true rfl) (Or.inl ⟨c2, rfl, rfl⟩)
    · refine aw_iload_n (pc' := 5) dX11_machineOf_4 rfl rfl ?_
      refine aw_iconst (v := 3) (pc' := 6) dX11_machineOf_5 rfl (by decide) ?_
      refine aw_clt (tgt := 13) (pc' := 9) dX11_machineOf_6 (by decide) rfl (fun c3 => ?_) (fun c3 => ?_)
      · refine aw_aload_n (pc' := 14) dX11_machineOf_13 rfl rfl rfl ?_
        refine aw_get clsAll (pc' := 17) dX11_machineOf_14 rfl fl_RX11_34 hx.1 rfl ?_
        refine aw_iload_n (pc' := 18) dX11_machineOf_17 rfl rfl ?_
        rcases three_ c2 c3 with rfl | rfl | rfl
        · refine aw_aald (v := .ref 28) (pc' := 19) dX11_machineOf_18 rfl ((hx.2 19 (by decide) (by decide)).trans h0_19) (by decide) rfl (vpc (by decide)) rfl ?_
          exact aw_ra dX11_machineOf_19 rfl (Or.inl ⟨_, rfl⟩) rfl (Nat.le_of_ble_eq_true rfl) (Nat.le_of_ble_eq_true rfl) (Or.inr (Or.inl ⟨rfl, rfl, rfl⟩))
        · refine aw_aald (v := .ref 29) (pc' := 19) dX11_machineOf_18 rfl ((hx.2 19 (by decide) (by decide)).trans h0_19) (by decide) rfl (vpc (by decide)) rfl ?_
          exact aw_ra dX11_machineOf_19 rfl (Or.inl ⟨_, rfl⟩) rfl (Nat.le_of_ble_eq_true rfl) (Nat.le_of_ble_eq_true rfl) (Or.inr (Or.inr (Or.inl ⟨rfl, rfl, rfl⟩)))
        · refine aw_aald (v := .ref 30) (pc' := 19) dX11_machineOf_18 rfl ((hx.2 19 (by decide) (by decide)).trans h0_19) (by decide) rfl (vpc (by decide)) rfl ?_
          exact aw_ra dX11_machineOf_19 rfl (Or.inl ⟨_, rfl⟩) rfl (Nat.le_of_ble_eq_true rfl) (Nat.le_of_ble_eq_true rfl) (Or.inr (Or.inr (Or.inr (Or.inl ⟨rfl, rfl, rfl⟩))))
      · refine aw_null (pc' := 10) dX11_machineOf_9 rfl ?_
        refine aw_goto (tgt := 19) dX11_machineOf_10 (by decide) ?_
        exact aw_ra dX11_machineOf_19 rfl (Or.inl ⟨_, rfl⟩) rfl (Nat.le_of_ble_eq_true rfl) (Nat.le_of_ble_eq_true rfl) (Or.inr (Or.inr (Or.inr (Or.inr ⟨c2, c3, rfl, rfl⟩))))
  refine aw_callVa (M' := mX11_machineOf) (nc' := 0) (ns' := 0) (pc' := 5) dX11_speed_2 rfl ml_RX11_158 kX11_machineOf cc1 hx.1 rfl rfl rfl (Nat.le_of_ble_eq_true rfl) (rok rfl) rfl rfl (fun r7 h7 q7 => ?_)
  rcases q7 with ⟨c4, rfl, rfl⟩ | ⟨rfl, rfl, rfl⟩ | ⟨rfl, rfl, rfl⟩ | ⟨rfl, rfl, rfl⟩ | ⟨c5, c6, rfl, rfl⟩
  · refine aw_astore_n (lv' := [_, _, _, _, _]) (pc' := 6) dX11_speed_5 rfl (Nat.le_of_ble_eq_true rfl) rfl rfl ?_
    refine aw_aload_n (pc' := 7) dX11_speed_6 rfl rfl rfl ?_
    refine aw_ifnull_n (tgt := 22) dX11_speed_7 (by decide) ?_
    refine aw_iconst (v := (-1)) (pc' := 23) dX11_speed_22 rfl (by decide) ?_
    exact aw_ri dX11_speed_23 rfl rfl (Nat.le_of_ble_eq_true rfl) (Nat.le_of_ble_eq_true rfl) ⟨(by first | (simp [sp_speed, cnd, okC, okS, okW, okN, inR, n2_, n3_, n5_, n31_, c4]; done) | (simp_all [sp_speed, cnd, okC, okS, okW, okN, inR, n2_, n3_, n5_, n31_]; done) | skip), sm_rf⟩
  · refine aw_astore_n (lv' := [_, _, _, _, _]) (pc' := 6) dX11_speed_5 rfl (Nat.le_of_ble_eq_true rfl) rfl rfl ?_
    refine aw_aload_n (pc' := 7) dX11_speed_6 rfl rfl rfl ?_
    refine aw_ifnull_r (pc' := 10) dX11_speed_7 rfl ?_
    refine aw_iload_n (pc' := 11) dX11_speed_10 rfl rfl ?_
    refine aw_bipush (v := 10) (pc' := 13) dX11_speed_11 rfl (by decide) ?_
    refine aw_clt (tgt := 22) (pc' := 16) dX11_speed_13 (by decide) rfl (fun c8 => ?_) (fun c8 => ?_)
    · refine aw_iconst (v := (-1)) (pc' := 23) dX11_speed_22 rfl (by decide) ?_
      exact aw_ri dX11_speed_23 rfl rfl (Nat.le_of_ble_eq_true rfl) (Nat.le_of_ble_eq_true rfl) ⟨(by first | (simp [sp_speed, cnd, okC, okS, okW, okN, inR, n2_, n3_, n5_, n31_, c8]; done) | (simp_all [sp_speed, cnd, okC, okS, okW, okN, inR, n2_, n3_, n5_, n31_]; done) | skip), sm_rf⟩
    · refine aw_iload_n (pc' := 17) dX11_speed_16 rfl rfl ?_
      refine aw_bipush (v := 60) (pc' := 19) dX11_speed_17 rfl (by decide) ?_
      refine aw_cle (tgt := 24) (pc' := 22) dX11_speed_19 (by decide) rfl (fun c9 => ?_) (fun c9 => ?_)
      · refine aw_aload_n (pc' := 25) dX11_speed_24 rfl rfl rfl ?_
        refine aw_get clsAll (pc' := 28) dX11_speed_25 rfl fl_RX11_162 ((hx.2 20 (by decide) (by decide)).trans h0_20) rfl ?_
        refine aw_istore (lv' := [_, _, _, _, _]) (pc' := 30) dX11_speed_28 rfl (Nat.le_of_ble_eq_true rfl) rfl ?_
        refine aw_aload_n (pc' := 31) dX11_speed_30 rfl rfl rfl ?_
        refine aw_iload_n (pc' := 32) dX11_speed_31 rfl rfl ?_
        refine aw_putG clsAll (pc' := 35) dX11_speed_32 rfl fl_RX11_162 ((hx.2 20 (by decide) (by decide)).trans h0_20) (Nat.le_of_ble_eq_true rfl) rfl (fun h10 e10 => ?_)
        refine aw_iload (pc' := 37) dX11_speed_35 rfl rfl ?_
        exact aw_ri dX11_speed_37 rfl rfl (Nat.le_of_ble_eq_true rfl) (Nat.le_of_ble_eq_true rfl) ⟨(by first | (simp [sp_speed, cnd, okC, okS, okW, okN, inR, n2_, n3_, n5_, n31_, c8, c9]; done) | (simp_all [sp_speed, cnd, okC, okS, okW, okN, inR, n2_, n3_, n5_, n31_]; done) | skip), (sm_set e10 (by decide) sm_rf)⟩
      · refine aw_iconst (v := (-1)) (pc' := 23) dX11_speed_22 rfl (by decide) ?_
        exact aw_ri dX11_speed_23 rfl rfl (Nat.le_of_ble_eq_true rfl) (Nat.le_of_ble_eq_true rfl) ⟨(by first | (simp [sp_speed, cnd, okC, okS, okW, okN, inR, n2_, n3_, n5_, n31_, c8, c9]; done) | (simp_all [sp_speed, cnd, okC, okS, okW, okN, inR, n2_, n3_, n5_, n31_]; done) | skip), sm_rf⟩
  · refine aw_astore_n (lv' := [_, _, _, _, _]) (pc' := 6) dX11_speed_5 rfl (Nat.le_of_ble_eq_true rfl) rfl rfl ?_
    refine aw_aload_n (pc' := 7) dX11_speed_6 rfl rfl rfl ?_
    refine aw_ifnull_r (pc' := 10) dX11_speed_7 rfl ?_
    refine aw_iload_n (pc' := 11) dX11_speed_10 rfl rfl ?_
    refine aw_bipush (v := 10) (pc' := 13) dX11_speed_11 rfl (by decide) ?_
    refine aw_clt (tgt := 22) (pc' := 16) dX11_speed_13 (by decide) rfl (fun c11 => ?_) (fun c11 => ?_)
    · refine aw_iconst (v := (-1)) (pc' := 23) dX11_speed_22 rfl (by decide) ?_
      exact aw_ri dX11_speed_23 rfl rfl (Nat.le_of_ble_eq_true rfl) (Nat.le_of_ble_eq_true rfl) ⟨(by first | (simp [sp_speed, cnd, okC, okS, okW, okN, inR, n2_, n3_, n5_, n31_, c11]; done) | (simp_all [sp_speed, cnd, okC, okS, okW, okN, inR, n2_, n3_, n5_, n31_]; done) | skip), sm_rf⟩
    · refine aw_iload_n (pc' := 17) dX11_speed_16 rfl rfl ?_
      refine aw_bipush (v := 60) (pc' := 19) dX11_speed_17 rfl (by decide) ?_
      refine aw_cle (tgt := 24) (pc' := 22) dX11_speed_19 (by decide) rfl (fun c12 => ?_) (fun c12 => ?_)
      · refine aw_aload_n (pc' := 25) dX11_speed_24 rfl rfl rfl ?_
        refine aw_get clsAll (pc' := 28) dX11_speed_25 rfl fl_RX11_162 ((hx.2 21 (by decide) (by decide)).trans h0_21) rfl ?_
        refine aw_istore (lv' := [_, _, _, _, _]) (pc' := 30) dX11_speed_28 rfl (Nat.le_of_ble_eq_true rfl) rfl ?_
        refine aw_aload_n (pc' := 31) dX11_speed_30 rfl rfl rfl ?_
        refine aw_iload_n (pc' := 32) dX11_speed_31 rfl rfl ?_
        refine aw_putG clsAll (pc' := 35) dX11_speed_32 rfl fl_RX11_162 ((hx.2 21 (by decide) (by decide)).trans h0_21) (Nat.le_of_ble_eq_true rfl) rfl (fun h13 e13 => ?_)
        refine aw_iload (pc' := 37) dX11_speed_35 rfl rfl ?_
        exact aw_ri dX11_speed_37 rfl rfl (Nat.le_of_ble_eq_true rfl) (Nat.le_of_ble_eq_true rfl) ⟨(by first | (simp [sp_speed, cnd, okC, okS, okW, okN, inR, n2_, n3_, n5_, n31_, c11, c12]; done) | (simp_all [sp_speed, cnd, okC, okS, okW, okN, inR, n2_, n3_, n5_, n31_]; done) | skip), (sm_set e13 (by decide) sm_rf)⟩
      · refine aw_iconst (v := (-1)) (pc' := 23) dX11_speed_22 rfl (by decide) ?_
        exact aw_ri dX11_speed_23 rfl rfl (Nat.le_of_ble_eq_true rfl) (Nat.le_of_ble_eq_true rfl) ⟨(by first | (simp [sp_speed, cnd, okC, okS, okW, okN, inR, n2_, n3_, n5_, n31_, c11, c12]; done) | (simp_all [sp_speed, cnd, okC, okS, okW, okN, inR, n2_, n3_, n5_, n31_]; done) | skip), sm_rf⟩
  · refine aw_astore_n (lv' := [_, _, _, _, _]) (pc' := 6) dX11_speed_5 rfl (Nat.le_of_ble_eq_true rfl) rfl rfl ?_
    refine aw_aload_n (pc' := 7) dX11_speed_6 rfl rfl rfl ?_
    refine aw_ifnull_r (pc' := 10) dX11_speed_7 rfl ?_
    refine aw_iload_n (pc' := 11) dX11_speed_10 rfl rfl ?_
    refine aw_bipush (v := 10) (pc' := 13) dX11_speed_11 rfl (by decide) ?_
    refine aw_clt (tgt := 22) (pc' := 16) dX11_speed_13 (by decide) rfl (fun c14 => ?_) (fun c14 => ?_)
    · refine aw_iconst (v := (-1)) (pc' := 23) dX11_speed_22 rfl (by decide) ?_
      exact aw_ri dX11_speed_23 rfl rfl (Nat.le_of_ble_eq_true rfl) (Nat.le_of_ble_eq_true rfl) ⟨(by first | (simp [sp_speed, cnd, okC, okS, okW, okN, inR, n2_, n3_, n5_, n31_, c14]; done) | (simp_all [sp_speed, cnd, okC, okS, okW, okN, inR, n2_, n3_, n5_, n31_]; done) | skip), sm_rf⟩
    · refine aw_iload_n (pc' := 17) dX11_speed_16 rfl rfl ?_
      refine aw_bipush (v := 60) (pc' := 19) dX11_speed_17 rfl (by decide) ?_
      refine aw_cle (tgt := 24) (pc' := 22) dX11_speed_19 (by decide) rfl (fun c15 => ?_) (fun c15 => ?_)
      · refine aw_aload_n (pc' := 25) dX11_speed_24 rfl rfl rfl ?_
        refine aw_get clsAll (pc' := 28) dX11_speed_25 rfl fl_RX11_162 ((hx.2 22 (by decide) (by decide)).trans h0_22) rfl ?_
        refine aw_istore (lv' := [_, _, _, _, _]) (pc' := 30) dX11_speed_28 rfl (Nat.le_of_ble_eq_true rfl) rfl ?_
        refine aw_aload_n (pc' := 31) dX11_speed_30 rfl rfl rfl ?_
        refine aw_iload_n (pc' := 32) dX11_speed_31 rfl rfl ?_
        refine aw_putG clsAll (pc' := 35) dX11_speed_32 rfl fl_RX11_162 ((hx.2 22 (by decide) (by decide)).trans h0_22) (Nat.le_of_ble_eq_true rfl) rfl (fun h16 e16 => ?_)
        refine aw_iload (pc' := 37) dX11_speed_35 rfl rfl ?_
        exact aw_ri dX11_speed_37 rfl rfl (Nat.le_of_ble_eq_true rfl) (Nat.le_of_ble_eq_true rfl) ⟨(by first | (simp [sp_speed, cnd, okC, okS, okW, okN, inR, n2_, n3_, n5_, n31_, c14, c15]; done) | (simp_all [sp_speed, cnd, okC, okS, okW, okN, inR, n2_, n3_, n5_, n31_]; done) | skip), (sm_set e16 (by decide) sm_rf)⟩
      · refine aw_iconst (v := (-1)) (pc' := 23) dX11_speed_22 rfl (by decide) ?_
        exact aw_ri dX11_speed_23 rfl rfl (Nat.le_of_ble_eq_true rfl) (Nat.le_of_ble_eq_true rfl) ⟨(by first | (simp [sp_speed, cnd, okC, okS, okW, okN, inR, n2_, n3_, n5_, n31_, c14, c15]; done) | (simp_all [sp_speed, cnd, okC, okS, okW, okN, inR, n2_, n3_, n5_, n31_]; done) | skip), sm_rf⟩
  · refine aw_astore_n (lv' := [_, _, _, _, _]) (pc' := 6) dX11_speed_5 rfl (Nat.le_of_ble_eq_true rfl) rfl rfl ?_
    refine aw_aload_n (pc' := 7) dX11_speed_6 rfl rfl rfl ?_
    refine aw_ifnull_n (tgt := 22) dX11_speed_7 (by decide) ?_
    refine aw_iconst (v := (-1)) (pc' := 23) dX11_speed_22 rfl (by decide) ?_
    exact aw_ri dX11_speed_23 rfl rfl (Nat.le_of_ble_eq_true rfl) (Nat.le_of_ble_eq_true rfl) ⟨(by first | (simp [sp_speed, cnd, okC, okS, okW, okN, inR, n2_, n3_, n5_, n31_, c5, c6]; done) | (simp_all [sp_speed, cnd, okC, okS, okW, okN, inR, n2_, n3_, n5_, n31_]; done) | skip), sm_rf⟩
set_option maxRecDepth 4000 in
theorem x_set (h : List aE) (hx : Fx 0 h) (hlen : h.length = 126) (m : Int32) (x : Int32) : AM mX11_set 1 [.ref 8, .int m, .int x] h 0 0 (PI fun r h' => r = sp_set m x ∧ Sm h h') := by
  refine am_of (lv := [some (.ref 8), some (.int m), some (.int x), none, none]) rfl (Nat.le_of_ble_eq_true rfl) rfl ?_
  refine aw_aload_n (pc' := 1) dX11_set_0 rfl rfl rfl ?_
  refine aw_iload_n (pc' := 2) dX11_set_1 rfl rfl ?_
  have cc1 : AM mX11_machineOf 0 [.ref 8, .int m] h 0 0 (PA fun r h' => (m < 0 ∧ Value.null = r ∧ h = h') ∨ (m = 0 ∧ Value.ref 28 = r ∧ h = h') ∨ (m = 1 ∧ Value.ref 29 = r ∧ h = h') ∨ (m = 2 ∧ Value.ref 30 = r ∧ h = h') ∨ (¬ (m < 0) ∧ ¬ (m < 3) ∧ Value.null = r ∧ h = h')) := by
    refine am_of (lv := [some (.ref 8), some (.int m)]) rfl (Nat.le_of_ble_eq_true rfl) rfl ?_
    refine aw_iload_n (pc' := 1) dX11_machineOf_0 rfl rfl ?_
    refine aw_zlt (tgt := 9) (pc' := 4) dX11_machineOf_1 (by decide) rfl (fun c2 => ?_) (fun c2 => ?_)
    · refine aw_null (pc' := 10) dX11_machineOf_9 rfl ?_
      refine aw_goto (tgt := 19) dX11_machineOf_10 (by decide) ?_
      exact aw_ra dX11_machineOf_19 rfl (Or.inl ⟨_, rfl⟩) rfl (Nat.le_of_ble_eq_true rfl) (Nat.le_of_ble_eq_true rfl) (Or.inl ⟨c2, rfl, rfl⟩)
    · refine aw_iload_n (pc' := 5) dX11_machineOf_4 rfl rfl ?_
      refine aw_iconst (v := 3) (pc' := 6) dX11_machineOf_5 rfl (by decide) ?_
      refine aw_clt (tgt := 13) (pc' := 9) dX11_machineOf_6 (by decide) rfl (fun c3 => ?_) (fun c3 => ?_)
      · refine aw_aload_n (pc' := 14) dX11_machineOf_13 rfl rfl rfl ?_
        refine aw_get clsAll (pc' := 17) dX11_machineOf_14 rfl fl_RX11_34 hx.1 rfl ?_
        refine aw_iload_n (pc' := 18) dX11_machineOf_17 rfl rfl ?_
        rcases three_ c2 c3 with rfl | rfl | rfl
        · refine aw_aald (v := .ref 28) (pc' := 19) dX11_machineOf_18 rfl ((hx.2 19 (by decide) (by decide)).trans h0_19) (by decide) rfl (vpc (by decide)) rfl ?_
          exact aw_ra dX11_machineOf_19 rfl (Or.inl ⟨_, rfl⟩) rfl (Nat.le_of_ble_eq_true rfl) (Nat.le_of_ble_eq_true rfl) (Or.inr (Or.inl ⟨rfl, rfl, rfl⟩))
        · refine aw_aald (v := .ref 29) (pc' := 19) dX11_machineOf_18 rfl ((hx.2 19 (by decide) (by decide)).trans h0_19) (by decide) rfl (vpc (by decide)) rfl ?_
          exact aw_ra dX11_machineOf_19 rfl (Or.inl ⟨_, rfl⟩) rfl (Nat.le_of_ble_eq_true rfl) (Nat.le_of_ble_eq_true rfl) (Or.inr (Or.inr (Or.inl ⟨rfl, rfl, rfl⟩)))
        · refine aw_aald (v := .ref 30) (pc' := 19) dX11_machineOf_18 rfl ((hx.2 19 (by decide) (by decide)).trans h0_19) (by decide) rfl (vpc (by decide)) rfl ?_
          exact aw_ra dX11_machineOf_19 rfl (Or.inl ⟨_, rfl⟩) rfl (Nat.le_of_ble_eq_true rfl) (Nat.le_of_ble_eq_true rfl) (Or.inr (Or.inr (Or.inr (Or.inl ⟨rfl, rfl, rfl⟩))))
      · refine aw_null (pc' := 10) dX11_machineOf_9 rfl ?_
        refine aw_goto (tgt := 19) dX11_machineOf_10 (by decide) ?_
        exact aw_ra dX11_machineOf_19 rfl (Or.inl ⟨_, rfl⟩) rfl (Nat.le_of_ble_eq_true rfl) (Nat.le_of_ble_eq_true rfl) (Or.inr (Or.inr (Or.inr (Or.inr ⟨c2, c3, rfl, rfl⟩))))
  refine aw_callVa (M' := mX11_machineOf) (nc' := 0) (ns' := 0) (pc' := 5) dX11_set_2 rfl ml_RX11_158 kX11_machineOf cc1 hx.1 rfl rfl rfl (Nat.le_of_ble_eq_true rfl) (rok rfl) rfl rfl (fun r7 h7 q7 => ?_)
  rcases q7 with ⟨c4, rfl, rfl⟩ | ⟨rfl, rfl, rfl⟩ | ⟨rfl, rfl, rfl⟩ | ⟨rfl, rfl, rfl⟩ | ⟨c5, c6, rfl, rfl⟩
  · refine aw_astore_n (lv' := [_, _, _, _, _]) (pc' := 6) dX11_set_5 rfl (Nat.le_of_ble_eq_true rfl) rfl rfl ?_
    refine aw_aload_n (pc' := 7) dX11_set_6 rfl rfl rfl ?_
    refine aw_ifnull_n (tgt := 26) dX11_set_7 (by decide) ?_
    refine aw_ldc (pc' := 28) dX11_set_26 rfl ct_RX11_138 ?_
    exact aw_ri dX11_set_28 rfl rfl (Nat.le_of_ble_eq_true rfl) (Nat.le_of_ble_eq_true rfl) ⟨(by first | (simp [sp_set, cnd, okC, okS, okW, okN, inR, n2_, n3_, n5_, n31_, c4]; done) | (simp_all [sp_set, cnd, okC, okS, okW, okN, inR, n2_, n3_, n5_, n31_]; done) | skip), sm_rf⟩
  · refine aw_astore_n (lv' := [_, _, _, _, _]) (pc' := 6) dX11_set_5 rfl (Nat.le_of_ble_eq_true rfl) rfl rfl ?_
    refine aw_aload_n (pc' := 7) dX11_set_6 rfl rfl rfl ?_
    refine aw_ifnull_r (pc' := 10) dX11_set_7 rfl ?_
    refine aw_iload_n (pc' := 11) dX11_set_10 rfl rfl ?_
    refine aw_iconst (v := (-1)) (pc' := 12) dX11_set_11 rfl (by decide) ?_
    refine aw_icmp_eq (tgt := 29) (pc' := 15) dX11_set_12 (by decide) rfl (fun c8 => ?_) (fun c8 => ?_)
    · refine aw_iconst (v := 0) (pc' := 30) dX11_set_29 rfl (by decide) ?_
      refine aw_istore (lv' := [_, _, _, _, _]) (pc' := 32) dX11_set_30 rfl (Nat.le_of_ble_eq_true rfl) rfl ?_
      refine aw_iload (pc' := 34) dX11_set_32 rfl rfl ?_
      refine aw_iconst (v := 3) (pc' := 35) dX11_set_34 rfl (by decide) ?_
      refine aw_cge (tgt := 72) (pc' := 38) dX11_set_35 (by decide) rfl (fun c => absurd (by decide) c) (fun _ => ?_)
      refine aw_iload (pc' := 40) dX11_set_38 rfl rfl ?_
      refine aw_iload_n (pc' := 41) dX11_set_40 rfl rfl ?_
      refine aw_icmp_eq (tgt := 66) (pc' := 44) dX11_set_41 (by decide) rfl (fun _ => ?_) (fun c => absurd (by decide) c)
      refine aw_iinc (lv' := [_, _, _, _, _]) (pc' := 69) dX11_set_66 rfl rfl (Nat.le_of_ble_eq_true rfl) rfl ?_
      refine aw_goto (tgt := 32) dX11_set_69 (by decide) ?_
      refine aw_iload (pc' := 34) dX11_set_32 rfl rfl ?_
      refine aw_iconst (v := 3) (pc' := 35) dX11_set_34 rfl (by decide) ?_
      refine aw_cge (tgt := 72) (pc' := 38) dX11_set_35 (by decide) rfl (fun c => absurd (by decide) c) (fun _ => ?_)
      refine aw_iload (pc' := 40) dX11_set_38 rfl rfl ?_
      refine aw_iload_n (pc' := 41) dX11_set_40 rfl rfl ?_
      refine aw_icmp_eq (tgt := 66) (pc' := 44) dX11_set_41 (by decide) rfl (fun c => absurd c (by decide)) (fun _ => ?_)
      refine aw_iload_n (pc' := 45) dX11_set_44 rfl rfl ?_
      refine aw_iconst (v := (-1)) (pc' := 46) dX11_set_45 rfl (by decide) ?_
      refine aw_icmp_eq (tgt := 66) (pc' := 49) dX11_set_46 (by decide) rfl (fun _ => ?_) (fun c => absurd c8 c)
      refine aw_iinc (lv' := [_, _, _, _, _]) (pc' := 69) dX11_set_66 rfl rfl (Nat.le_of_ble_eq_true rfl) rfl ?_
      refine aw_goto (tgt := 32) dX11_set_69 (by decide) ?_
      refine aw_iload (pc' := 34) dX11_set_32 rfl rfl ?_
      refine aw_iconst (v := 3) (pc' := 35) dX11_set_34 rfl (by decide) ?_
      refine aw_cge (tgt := 72) (pc' := 38) dX11_set_35 (by decide) rfl (fun c => absurd (by decide) c) (fun _ => ?_)
      refine aw_iload (pc' := 40) dX11_set_38 rfl rfl ?_
      refine aw_iload_n (pc' := 41) dX11_set_40 rfl rfl ?_
      refine aw_icmp_eq (tgt := 66) (pc' := 44) dX11_set_41 (by decide) rfl (fun c => absurd c (by decide)) (fun _ => ?_)
      refine aw_iload_n (pc' := 45) dX11_set_44 rfl rfl ?_
      refine aw_iconst (v := (-1)) (pc' := 46) dX11_set_45 rfl (by decide) ?_
      refine aw_icmp_eq (tgt := 66) (pc' := 49) dX11_set_46 (by decide) rfl (fun _ => ?_) (fun c => absurd c8 c)
      refine aw_iinc (lv' := [_, _, _, _, _]) (pc' := 69) dX11_set_66 rfl rfl (Nat.le_of_ble_eq_true rfl) rfl ?_
      refine aw_goto (tgt := 32) dX11_set_69 (by decide) ?_
      refine aw_iload (pc' := 34) dX11_set_32 rfl rfl ?_
      refine aw_iconst (v := 3) (pc' := 35) dX11_set_34 rfl (by decide) ?_
      refine aw_cge (tgt := 72) (pc' := 38) dX11_set_35 (by decide) rfl (fun _ => ?_) (fun c => absurd c (by decide))
      refine aw_aload_n (pc' := 73) dX11_set_72 rfl rfl rfl ?_
      refine aw_get clsAll (pc' := 76) dX11_set_73 rfl fl_RX11_165 ((hx.2 20 (by decide) (by decide)).trans h0_20) rfl ?_
      refine aw_istore (lv' := [_, _, _, _, _]) (pc' := 78) dX11_set_76 rfl (Nat.le_of_ble_eq_true rfl) rfl ?_
      refine aw_aload_n (pc' := 79) dX11_set_78 rfl rfl rfl ?_
      refine aw_iload_n (pc' := 80) dX11_set_79 rfl rfl ?_
      refine aw_putG clsAll (pc' := 83) dX11_set_80 rfl fl_RX11_165 ((hx.2 20 (by decide) (by decide)).trans h0_20) (Nat.le_of_ble_eq_true rfl) rfl (fun h9 e9 => ?_)
      refine aw_iload (pc' := 85) dX11_set_83 rfl rfl ?_
      exact aw_ri dX11_set_85 rfl rfl (Nat.le_of_ble_eq_true rfl) (Nat.le_of_ble_eq_true rfl) ⟨(by first | (simp [sp_set, cnd, okC, okS, okW, okN, inR, n2_, n3_, n5_, n31_, c8]; done) | (simp_all [sp_set, cnd, okC, okS, okW, okN, inR, n2_, n3_, n5_, n31_]; done) | skip), (sm_set e9 (by decide) sm_rf)⟩
    · refine aw_aload_n (pc' := 16) dX11_set_15 rfl rfl rfl ?_
      refine aw_get clsAll (pc' := 19) dX11_set_16 rfl fl_RX11_28 hx.1 rfl ?_
      refine aw_iload_n (pc' := 20) dX11_set_19 rfl rfl ?_
      have cc10 : AM mX0_holeOf 0 [.ref 23, .int x] h 0 0 (PA fun r h' => (x < 0 ∧ Value.null = r ∧ h = h') ∨ (¬ (x < 0) ∧ Value.null = r ∧ h = h')) := by
        refine am_of (lv := [some (.ref 23), some (.int x)]) rfl (Nat.le_of_ble_eq_true rfl) rfl ?_
        refine aw_iload_n (pc' := 1) dX0_holeOf_0 rfl rfl ?_
        refine aw_zlt (tgt := 12) (pc' := 4) dX0_holeOf_1 (by decide) rfl (fun c11 => ?_) (fun c11 => ?_)
        · refine aw_null (pc' := 13) dX0_holeOf_12 rfl ?_
          refine aw_goto (tgt := 22) dX0_holeOf_13 (by decide) ?_
          exact aw_ra dX0_holeOf_22 rfl (Or.inl ⟨_, rfl⟩) rfl (Nat.le_of_ble_eq_true rfl) (Nat.le_of_ble_eq_true rfl) (Or.inl ⟨c11, rfl, rfl⟩)
        · refine aw_iload_n (pc' := 5) dX0_holeOf_4 rfl rfl ?_
          refine aw_aload_n (pc' := 6) dX0_holeOf_5 rfl rfl rfl ?_
          refine aw_get clsAll (pc' := 9) dX0_holeOf_6 rfl fl_RX0_32 ((hx.2 15 (by decide) (by decide)).trans h0_15) rfl ?_
          refine aw_clt (tgt := 16) (pc' := 12) dX0_holeOf_9 (by decide) rfl (fun c => absurd c c11) (fun _ => ?_)
          refine aw_null (pc' := 13) dX0_holeOf_12 rfl ?_
          refine aw_goto (tgt := 22) dX0_holeOf_13 (by decide) ?_
          exact aw_ra dX0_holeOf_22 rfl (Or.inl ⟨_, rfl⟩) rfl (Nat.le_of_ble_eq_true rfl) (Nat.le_of_ble_eq_true rfl) (Or.inr ⟨c11, rfl, rfl⟩)
      refine aw_callVa (M' := mX0_holeOf) (nc' := 0) (ns' := 0) (pc' := 23) dX11_set_20 rfl ml_RX11_139 kX0_holeOf cc10 ((hx.2 15 (by decide) (by decide)).trans h0_15) rfl rfl rfl (Nat.le_of_ble_eq_true rfl) (rok rfl) rfl rfl (fun r14 h14 q14 => ?_)
      rcases q14 with ⟨c12, rfl, rfl⟩ | ⟨c13, rfl, rfl⟩
      · refine aw_ifnonnull_n (pc' := 26) dX11_set_23 rfl ?_
        refine aw_ldc (pc' := 28) dX11_set_26 rfl ct_RX11_138 ?_
        exact aw_ri dX11_set_28 rfl rfl (Nat.le_of_ble_eq_true rfl) (Nat.le_of_ble_eq_true rfl) ⟨(by first | (simp [sp_set, cnd, okC, okS, okW, okN, inR, n2_, n3_, n5_, n31_, c8, c12]; done) | (simp_all [sp_set, cnd, okC, okS, okW, okN, inR, n2_, n3_, n5_, n31_]; done) | skip), sm_rf⟩
      · refine aw_ifnonnull_n (pc' := 26) dX11_set_23 rfl ?_
        refine aw_ldc (pc' := 28) dX11_set_26 rfl ct_RX11_138 ?_
        exact aw_ri dX11_set_28 rfl rfl (Nat.le_of_ble_eq_true rfl) (Nat.le_of_ble_eq_true rfl) ⟨(by first | (simp [sp_set, cnd, okC, okS, okW, okN, inR, n2_, n3_, n5_, n31_, c8, c13]; done) | (simp_all [sp_set, cnd, okC, okS, okW, okN, inR, n2_, n3_, n5_, n31_]; done) | skip), sm_rf⟩
  · refine aw_astore_n (lv' := [_, _, _, _, _]) (pc' := 6) dX11_set_5 rfl (Nat.le_of_ble_eq_true rfl) rfl rfl ?_
    refine aw_aload_n (pc' := 7) dX11_set_6 rfl rfl rfl ?_
    refine aw_ifnull_r (pc' := 10) dX11_set_7 rfl ?_
    refine aw_iload_n (pc' := 11) dX11_set_10 rfl rfl ?_
    refine aw_iconst (v := (-1)) (pc' := 12) dX11_set_11 rfl (by decide) ?_
    refine aw_icmp_eq (tgt := 29) (pc' := 15) dX11_set_12 (by decide) rfl (fun c15 => ?_) (fun c15 => ?_)
    · refine aw_iconst (v := 0) (pc' := 30) dX11_set_29 rfl (by decide) ?_
      refine aw_istore (lv' := [_, _, _, _, _]) (pc' := 32) dX11_set_30 rfl (Nat.le_of_ble_eq_true rfl) rfl ?_
      refine aw_iload (pc' := 34) dX11_set_32 rfl rfl ?_
      refine aw_iconst (v := 3) (pc' := 35) dX11_set_34 rfl (by decide) ?_
      refine aw_cge (tgt := 72) (pc' := 38) dX11_set_35 (by decide) rfl (fun c => absurd (by decide) c) (fun _ => ?_)
      refine aw_iload (pc' := 40) dX11_set_38 rfl rfl ?_
      refine aw_iload_n (pc' := 41) dX11_set_40 rfl rfl ?_
      refine aw_icmp_eq (tgt := 66) (pc' := 44) dX11_set_41 (by decide) rfl (fun c => absurd c (by decide)) (fun _ => ?_)
      refine aw_iload_n (pc' := 45) dX11_set_44 rfl rfl ?_
      refine aw_iconst (v := (-1)) (pc' := 46) dX11_set_45 rfl (by decide) ?_
      refine aw_icmp_eq (tgt := 66) (pc' := 49) dX11_set_46 (by decide) rfl (fun _ => ?_) (fun c => absurd c15 c)
      refine aw_iinc (lv' := [_, _, _, _, _]) (pc' := 69) dX11_set_66 rfl rfl (Nat.le_of_ble_eq_true rfl) rfl ?_
      refine aw_goto (tgt := 32) dX11_set_69 (by decide) ?_
      refine aw_iload (pc' := 34) dX11_set_32 rfl rfl ?_
      refine aw_iconst (v := 3) (pc' := 35) dX11_set_34 rfl (by decide) ?_
      refine aw_cge (tgt := 72) (pc' := 38) dX11_set_35 (by decide) rfl (fun c => absurd (by decide) c) (fun _ => ?_)
      refine aw_iload (pc' := 40) dX11_set_38 rfl rfl ?_
      refine aw_iload_n (pc' := 41) dX11_set_40 rfl rfl ?_
      refine aw_icmp_eq (tgt := 66) (pc' := 44) dX11_set_41 (by decide) rfl (fun _ => ?_) (fun c => absurd (by decide) c)
      refine aw_iinc (lv' := [_, _, _, _, _]) (pc' := 69) dX11_set_66 rfl rfl (Nat.le_of_ble_eq_true rfl) rfl ?_
      refine aw_goto (tgt := 32) dX11_set_69 (by decide) ?_
      refine aw_iload (pc' := 34) dX11_set_32 rfl rfl ?_
      refine aw_iconst (v := 3) (pc' := 35) dX11_set_34 rfl (by decide) ?_
      refine aw_cge (tgt := 72) (pc' := 38) dX11_set_35 (by decide) rfl (fun c => absurd (by decide) c) (fun _ => ?_)
      refine aw_iload (pc' := 40) dX11_set_38 rfl rfl ?_
      refine aw_iload_n (pc' := 41) dX11_set_40 rfl rfl ?_
      refine aw_icmp_eq (tgt := 66) (pc' := 44) dX11_set_41 (by decide) rfl (fun c => absurd c (by decide)) (fun _ => ?_)
      refine aw_iload_n (pc' := 45) dX11_set_44 rfl rfl ?_
      refine aw_iconst (v := (-1)) (pc' := 46) dX11_set_45 rfl (by decide) ?_
      refine aw_icmp_eq (tgt := 66) (pc' := 49) dX11_set_46 (by decide) rfl (fun _ => ?_) (fun c => absurd c15 c)
      refine aw_iinc (lv' := [_, _, _, _, _]) (pc' := 69) dX11_set_66 rfl rfl (Nat.le_of_ble_eq_true rfl) rfl ?_
      refine aw_goto (tgt := 32) dX11_set_69 (by decide) ?_
      refine aw_iload (pc' := 34) dX11_set_32 rfl rfl ?_
      refine aw_iconst (v := 3) (pc' := 35) dX11_set_34 rfl (by decide) ?_
      refine aw_cge (tgt := 72) (pc' := 38) dX11_set_35 (by decide) rfl (fun _ => ?_) (fun c => absurd c (by decide))
      refine aw_aload_n (pc' := 73) dX11_set_72 rfl rfl rfl ?_
      refine aw_get clsAll (pc' := 76) dX11_set_73 rfl fl_RX11_165 ((hx.2 21 (by decide) (by decide)).trans h0_21) rfl ?_
      refine aw_istore (lv' := [_, _, _, _, _]) (pc' := 78) dX11_set_76 rfl (Nat.le_of_ble_eq_true rfl) rfl ?_
      refine aw_aload_n (pc' := 79) dX11_set_78 rfl rfl rfl ?_
      refine aw_iload_n (pc' := 80) dX11_set_79 rfl rfl ?_
      refine aw_putG clsAll (pc' := 83) dX11_set_80 rfl fl_RX11_165 ((hx.2 21 (by decide) (by decide)).trans h0_21) (Nat.le_of_ble_eq_true rfl) rfl (fun h16 e16 => ?_)
      refine aw_iload (pc' := 85) dX11_set_83 rfl rfl ?_
      exact aw_ri dX11_set_85 rfl rfl (Nat.le_of_ble_eq_true rfl) (Nat.le_of_ble_eq_true rfl) ⟨(by first | (simp [sp_set, cnd, okC, okS, okW, okN, inR, n2_, n3_, n5_, n31_, c15]; done) | (simp_all [sp_set, cnd, okC, okS, okW, okN, inR, n2_, n3_, n5_, n31_]; done) | skip), (sm_set e16 (by decide) sm_rf)⟩
    · refine aw_aload_n (pc' := 16) dX11_set_15 rfl rfl rfl ?_
      refine aw_get clsAll (pc' := 19) dX11_set_16 rfl fl_RX11_28 hx.1 rfl ?_
      refine aw_iload_n (pc' := 20) dX11_set_19 rfl rfl ?_
      have cc17 : AM mX0_holeOf 0 [.ref 23, .int x] h 0 0 (PA fun r h' => (x < 0 ∧ Value.null = r ∧ h = h') ∨ (¬ (x < 0) ∧ Value.null = r ∧ h = h')) := by
        refine am_of (lv := [some (.ref 23), some (.int x)]) rfl (Nat.le_of_ble_eq_true rfl) rfl ?_
        refine aw_iload_n (pc' := 1) dX0_holeOf_0 rfl rfl ?_
        refine aw_zlt (tgt := 12) (pc' := 4) dX0_holeOf_1 (by decide) rfl (fun c18 => ?_) (fun c18 => ?_)
        · refine aw_null (pc' := 13) dX0_holeOf_12 rfl ?_
          refine aw_goto (tgt := 22) dX0_holeOf_13 (by decide) ?_
          exact aw_ra dX0_holeOf_22 rfl (Or.inl ⟨_, rfl⟩) rfl (Nat.le_of_ble_eq_true rfl) (Nat.le_of_ble_eq_true rfl) (Or.inl ⟨c18, rfl, rfl⟩)
        · refine aw_iload_n (pc' := 5) dX0_holeOf_4 rfl rfl ?_
          refine aw_aload_n (pc' := 6) dX0_holeOf_5 rfl rfl rfl ?_
          refine aw_get clsAll (pc' := 9) dX0_holeOf_6 rfl fl_RX0_32 ((hx.2 15 (by decide) (by decide)).trans h0_15) rfl ?_
          refine aw_clt (tgt := 16) (pc' := 12) dX0_holeOf_9 (by decide) rfl (fun c => absurd c c18) (fun _ => ?_)
          refine aw_null (pc' := 13) dX0_holeOf_12 rfl ?_
          refine aw_goto (tgt := 22) dX0_holeOf_13 (by decide) ?_
          exact aw_ra dX0_holeOf_22 rfl (Or.inl ⟨_, rfl⟩) rfl (Nat.le_of_ble_eq_true rfl) (Nat.le_of_ble_eq_true rfl) (Or.inr ⟨c18, rfl, rfl⟩)
      refine aw_callVa (M' := mX0_holeOf) (nc' := 0) (ns' := 0) (pc' := 23) dX11_set_20 rfl ml_RX11_139 kX0_holeOf cc17 ((hx.2 15 (by decide) (by decide)).trans h0_15) rfl rfl rfl (Nat.le_of_ble_eq_true rfl) (rok rfl) rfl rfl (fun r21 h21 q21 => ?_)
      rcases q21 with ⟨c19, rfl, rfl⟩ | ⟨c20, rfl, rfl⟩
      · refine aw_ifnonnull_n (pc' := 26) dX11_set_23 rfl ?_
        refine aw_ldc (pc' := 28) dX11_set_26 rfl ct_RX11_138 ?_
        exact aw_ri dX11_set_28 rfl rfl (Nat.le_of_ble_eq_true rfl) (Nat.le_of_ble_eq_true rfl) ⟨(by first | (simp [sp_set, cnd, okC, okS, okW, okN, inR, n2_, n3_, n5_, n31_, c15, c19]; done) | (simp_all [sp_set, cnd, okC, okS, okW, okN, inR, n2_, n3_, n5_, n31_]; done) | skip), sm_rf⟩
      · refine aw_ifnonnull_n (pc' := 26) dX11_set_23 rfl ?_
        refine aw_ldc (pc' := 28) dX11_set_26 rfl ct_RX11_138 ?_
        exact aw_ri dX11_set_28 rfl rfl (Nat.le_of_ble_eq_true rfl) (Nat.le_of_ble_eq_true rfl) ⟨(by first | (simp [sp_set, cnd, okC, okS, okW, okN, inR, n2_, n3_, n5_, n31_, c15, c20]; done) | (simp_all [sp_set, cnd, okC, okS, okW, okN, inR, n2_, n3_, n5_, n31_]; done) | skip), sm_rf⟩
  · refine aw_astore_n (lv' := [_, _, _, _, _]) (pc' := 6) dX11_set_5 rfl (Nat.le_of_ble_eq_true rfl) rfl rfl ?_
    refine aw_aload_n (pc' := 7) dX11_set_6 rfl rfl rfl ?_
    refine aw_ifnull_r (pc' := 10) dX11_set_7 rfl ?_
    refine aw_iload_n (pc' := 11) dX11_set_10 rfl rfl ?_
    refine aw_iconst (v := (-1)) (pc' := 12) dX11_set_11 rfl (by decide) ?_
    refine aw_icmp_eq (tgt := 29) (pc' := 15) dX11_set_12 (by decide) rfl (fun c22 => ?_) (fun c22 => ?_)
    · refine aw_iconst (v := 0) (pc' := 30) dX11_set_29 rfl (by decide) ?_
      refine aw_istore (lv' := [_, _, _, _, _]) (pc' := 32) dX11_set_30 rfl (Nat.le_of_ble_eq_true rfl) rfl ?_
      refine aw_iload (pc' := 34) dX11_set_32 rfl rfl ?_
      refine aw_iconst (v := 3) (pc' := 35) dX11_set_34 rfl (by decide) ?_
      refine aw_cge (tgt := 72) (pc' := 38) dX11_set_35 (by decide) rfl (fun c => absurd (by decide) c) (fun _ => ?_)
      refine aw_iload (pc' := 40) dX11_set_38 rfl rfl ?_
      refine aw_iload_n (pc' := 41) dX11_set_40 rfl rfl ?_
      refine aw_icmp_eq (tgt := 66) (pc' := 44) dX11_set_41 (by decide) rfl (fun c => absurd c (by decide)) (fun _ => ?_)
      refine aw_iload_n (pc' := 45) dX11_set_44 rfl rfl ?_
      refine aw_iconst (v := (-1)) (pc' := 46) dX11_set_45 rfl (by decide) ?_
      refine aw_icmp_eq (tgt := 66) (pc' := 49) dX11_set_46 (by decide) rfl (fun _ => ?_) (fun c => absurd c22 c)
      refine aw_iinc (lv' := [_, _, _, _, _]) (pc' := 69) dX11_set_66 rfl rfl (Nat.le_of_ble_eq_true rfl) rfl ?_
      refine aw_goto (tgt := 32) dX11_set_69 (by decide) ?_
      refine aw_iload (pc' := 34) dX11_set_32 rfl rfl ?_
      refine aw_iconst (v := 3) (pc' := 35) dX11_set_34 rfl (by decide) ?_
      refine aw_cge (tgt := 72) (pc' := 38) dX11_set_35 (by decide) rfl (fun c => absurd (by decide) c) (fun _ => ?_)
      refine aw_iload (pc' := 40) dX11_set_38 rfl rfl ?_
      refine aw_iload_n (pc' := 41) dX11_set_40 rfl rfl ?_
      refine aw_icmp_eq (tgt := 66) (pc' := 44) dX11_set_41 (by decide) rfl (fun c => absurd c (by decide)) (fun _ => ?_)
      refine aw_iload_n (pc' := 45) dX11_set_44 rfl rfl ?_
      refine aw_iconst (v := (-1)) (pc' := 46) dX11_set_45 rfl (by decide) ?_
      refine aw_icmp_eq (tgt := 66) (pc' := 49) dX11_set_46 (by decide) rfl (fun _ => ?_) (fun c => absurd c22 c)
      refine aw_iinc (lv' := [_, _, _, _, _]) (pc' := 69) dX11_set_66 rfl rfl (Nat.le_of_ble_eq_true rfl) rfl ?_
      refine aw_goto (tgt := 32) dX11_set_69 (by decide) ?_
      refine aw_iload (pc' := 34) dX11_set_32 rfl rfl ?_
      refine aw_iconst (v := 3) (pc' := 35) dX11_set_34 rfl (by decide) ?_
      refine aw_cge (tgt := 72) (pc' := 38) dX11_set_35 (by decide) rfl (fun c => absurd (by decide) c) (fun _ => ?_)
      refine aw_iload (pc' := 40) dX11_set_38 rfl rfl ?_
      refine aw_iload_n (pc' := 41) dX11_set_40 rfl rfl ?_
      refine aw_icmp_eq (tgt := 66) (pc' := 44) dX11_set_41 (by decide) rfl (fun _ => ?_) (fun c => absurd (by decide) c)
      refine aw_iinc (lv' := [_, _, _, _, _]) (pc' := 69) dX11_set_66 rfl rfl (Nat.le_of_ble_eq_true rfl) rfl ?_
      refine aw_goto (tgt := 32) dX11_set_69 (by decide) ?_
      refine aw_iload (pc' := 34) dX11_set_32 rfl rfl ?_
      refine aw_iconst (v := 3) (pc' := 35) dX11_set_34 rfl (by decide) ?_
      refine aw_cge (tgt := 72) (pc' := 38) dX11_set_35 (by decide) rfl (fun _ => ?_) (fun c => absurd c (by decide))
      refine aw_aload_n (pc' := 73) dX11_set_72 rfl rfl rfl ?_
      refine aw_get clsAll (pc' := 76) dX11_set_73 rfl fl_RX11_165 ((hx.2 22 (by decide) (by decide)).trans h0_22) rfl ?_
      refine aw_istore (lv' := [_, _, _, _, _]) (pc' := 78) dX11_set_76 rfl (Nat.le_of_ble_eq_true rfl) rfl ?_
      refine aw_aload_n (pc' := 79) dX11_set_78 rfl rfl rfl ?_
      refine aw_iload_n (pc' := 80) dX11_set_79 rfl rfl ?_
      refine aw_putG clsAll (pc' := 83) dX11_set_80 rfl fl_RX11_165 ((hx.2 22 (by decide) (by decide)).trans h0_22) (Nat.le_of_ble_eq_true rfl) rfl (fun h23 e23 => ?_)
      refine aw_iload (pc' := 85) dX11_set_83 rfl rfl ?_
      exact aw_ri dX11_set_85 rfl rfl (Nat.le_of_ble_eq_true rfl) (Nat.le_of_ble_eq_true rfl) ⟨(by first | (simp [sp_set, cnd, okC, okS, okW, okN, inR, n2_, n3_, n5_, n31_, c22]; done) | (simp_all [sp_set, cnd, okC, okS, okW, okN, inR, n2_, n3_, n5_, n31_]; done) | skip), (sm_set e23 (by decide) sm_rf)⟩
    · refine aw_aload_n (pc' := 16) dX11_set_15 rfl rfl rfl ?_
      refine aw_get clsAll (pc' := 19) dX11_set_16 rfl fl_RX11_28 hx.1 rfl ?_
      refine aw_iload_n (pc' := 20) dX11_set_19 rfl rfl ?_
      have cc24 : AM mX0_holeOf 0 [.ref 23, .int x] h 0 0 (PA fun r h' => (x < 0 ∧ Value.null = r ∧ h = h') ∨ (¬ (x < 0) ∧ Value.null = r ∧ h = h')) := by
        refine am_of (lv := [some (.ref 23), some (.int x)]) rfl (Nat.le_of_ble_eq_true rfl) rfl ?_
        refine aw_iload_n (pc' := 1) dX0_holeOf_0 rfl rfl ?_
        refine aw_zlt (tgt := 12) (pc' := 4) dX0_holeOf_1 (by decide) rfl (fun c25 => ?_) (fun c25 => ?_)
        · refine aw_null (pc' := 13) dX0_holeOf_12 rfl ?_
          refine aw_goto (tgt := 22) dX0_holeOf_13 (by decide) ?_
          exact aw_ra dX0_holeOf_22 rfl (Or.inl ⟨_, rfl⟩) rfl (Nat.le_of_ble_eq_true rfl) (Nat.le_of_ble_eq_true rfl) (Or.inl ⟨c25, rfl, rfl⟩)
        · refine aw_iload_n (pc' := 5) dX0_holeOf_4 rfl rfl ?_
          refine aw_aload_n (pc' := 6) dX0_holeOf_5 rfl rfl rfl ?_
          refine aw_get clsAll (pc' := 9) dX0_holeOf_6 rfl fl_RX0_32 ((hx.2 15 (by decide) (by decide)).trans h0_15) rfl ?_
          refine aw_clt (tgt := 16) (pc' := 12) dX0_holeOf_9 (by decide) rfl (fun c => absurd c c25) (fun _ => ?_)
          refine aw_null (pc' := 13) dX0_holeOf_12 rfl ?_
          refine aw_goto (tgt := 22) dX0_holeOf_13 (by decide) ?_
          exact aw_ra dX0_holeOf_22 rfl (Or.inl ⟨_, rfl⟩) rfl (Nat.le_of_ble_eq_true rfl) (Nat.le_of_ble_eq_true rfl) (Or.inr ⟨c25, rfl, rfl⟩)
      refine aw_callVa (M' := mX0_holeOf) (nc' := 0) (ns' := 0) (pc' := 23) dX11_set_20 rfl ml_RX11_139 kX0_holeOf cc24 ((hx.2 15 (by decide) (by decide)).trans h0_15) rfl rfl rfl (Nat.le_of_ble_eq_true rfl) (rok rfl) rfl rfl (fun r28 h28 q28 => ?_)
      rcases q28 with ⟨c26, rfl, rfl⟩ | ⟨c27, rfl, rfl⟩
      · refine aw_ifnonnull_n (pc' := 26) dX11_set_23 rfl ?_
        refine aw_ldc (pc' := 28) dX11_set_26 rfl ct_RX11_138 ?_
        exact aw_ri dX11_set_28 rfl rfl (Nat.le_of_ble_eq_true rfl) (Nat.le_of_ble_eq_true rfl) ⟨(by first | (simp [sp_set, cnd, okC, okS, okW, okN, inR, n2_, n3_, n5_, n31_, c22, c26]; done) | (simp_all [sp_set, cnd, okC, okS, okW, okN, inR, n2_, n3_, n5_, n31_]; done) | skip), sm_rf⟩
      · refine aw_ifnonnull_n (pc' := 26) dX11_set_23 rfl ?_
        refine aw_ldc (pc' := 28) dX11_set_26 rfl ct_RX11_138 ?_
        exact aw_ri dX11_set_28 rfl rfl (Nat.le_of_ble_eq_true rfl) (Nat.le_of_ble_eq_true rfl) ⟨(by first | (simp [sp_set, cnd, okC, okS, okW, okN, inR, n2_, n3_, n5_, n31_, c22, c27]; done) | (simp_all [sp_set, cnd, okC, okS, okW, okN, inR, n2_, n3_, n5_, n31_]; done) | skip), sm_rf⟩
  · refine aw_astore_n (lv' := [_, _, _, _, _]) (pc' := 6) dX11_set_5 rfl (Nat.le_of_ble_eq_true rfl) rfl rfl ?_
    refine aw_aload_n (pc' := 7) dX11_set_6 rfl rfl rfl ?_
    refine aw_ifnull_n (tgt := 26) dX11_set_7 (by decide) ?_
    refine aw_ldc (pc' := 28) dX11_set_26 rfl ct_RX11_138 ?_
    exact aw_ri dX11_set_28 rfl rfl (Nat.le_of_ble_eq_true rfl) (Nat.le_of_ble_eq_true rfl) ⟨(by first | (simp [sp_set, cnd, okC, okS, okW, okN, inR, n2_, n3_, n5_, n31_, c5, c6]; done) | (simp_all [sp_set, cnd, okC, okS, okW, okN, inR, n2_, n3_, n5_, n31_]; done) | skip), sm_rf⟩
set_option maxRecDepth 4000 in
theorem x_breaks (h : List aE) (hx : Fx 0 h) (hlen : h.length = 126) (m : Int32) (t : Int32) : AM mX11_breaks 1 [.ref 8, .int m, .int t] h 0 0 (PI fun r h' => r = sp_breaks m t ∧ Sm h h') := by
  refine am_of (lv := [some (.ref 8), some (.int m), some (.int t), none]) rfl (Nat.le_of_ble_eq_true rfl) rfl ?_
  refine aw_aload_n (pc' := 1) dX11_breaks_0 rfl rfl rfl ?_
  refine aw_iload_n (pc' := 2) dX11_breaks_1 rfl rfl ?_
  have cc1 : AM mX11_machineOf 0 [.ref 8, .int m] h 0 0 (PA fun r h' => (m < 0 ∧ Value.null = r ∧ h = h') ∨ (m = 0 ∧ Value.ref 28 = r ∧ h = h') ∨ (m = 1 ∧ Value.ref 29 = r ∧ h = h') ∨ (m = 2 ∧ Value.ref 30 = r ∧ h = h') ∨ (¬ (m < 0) ∧ ¬ (m < 3) ∧ Value.null = r ∧ h = h')) := by
    refine am_of (lv := [some (.ref 8), some (.int m)]) rfl (Nat.le_of_ble_eq_true rfl) rfl ?_
    refine aw_iload_n (pc' := 1) dX11_machineOf_0 rfl rfl ?_
    refine aw_zlt (tgt := 9) (pc' := 4) dX11_machineOf_1 (by decide) rfl (fun c2 => ?_) (fun c2 => ?_)
    · refine aw_null (pc' := 10) dX11_machineOf_9 rfl ?_
      refine aw_goto (tgt := 19) dX11_machineOf_10 (by decide) ?_
      exact aw_ra dX11_machineOf_19 rfl (Or.inl ⟨_, rfl⟩) rfl (Nat.le_of_ble_eq_true rfl) (Nat.le_of_ble_eq_true rfl) (Or.inl ⟨c2, rfl, rfl⟩)
    · refine aw_iload_n (pc' := 5) dX11_machineOf_4 rfl rfl ?_
      refine aw_iconst (v := 3) (pc' := 6) dX11_machineOf_5 rfl (by decide) ?_
      refine aw_clt (tgt := 13) (pc' := 9) dX11_machineOf_6 (by decide) rfl (fun c3 => ?_) (fun c3 => ?_)
      · refine aw_aload_n (pc' := 14) dX11_machineOf_13 rfl rfl rfl ?_
        refine aw_get clsAll (pc' := 17) dX11_machineOf_14 rfl fl_RX11_34 hx.1 rfl ?_
        refine aw_iload_n (pc' := 18) dX11_machineOf_17 rfl rfl ?_
        rcases three_ c2 c3 with rfl | rfl | rfl
        · refine aw_aald (v := .ref 28) (pc' := 19) dX11_machineOf_18 rfl ((hx.2 19 (by decide) (by decide)).trans h0_19) (by decide) rfl (vpc (by decide)) rfl ?_
          exact aw_ra dX11_machineOf_19 rfl (Or.inl ⟨_, rfl⟩) rfl (Nat.le_of_ble_eq_true rfl) (Nat.le_of_ble_eq_true rfl) (Or.inr (Or.inl ⟨rfl, rfl, rfl⟩))
        · refine aw_aald (v := .ref 29) (pc' := 19) dX11_machineOf_18 rfl ((hx.2 19 (by decide) (by decide)).trans h0_19) (by decide) rfl (vpc (by decide)) rfl ?_
          exact aw_ra dX11_machineOf_19 rfl (Or.inl ⟨_, rfl⟩) rfl (Nat.le_of_ble_eq_true rfl) (Nat.le_of_ble_eq_true rfl) (Or.inr (Or.inr (Or.inl ⟨rfl, rfl, rfl⟩)))
        · refine aw_aald (v := .ref 30) (pc' := 19) dX11_machineOf_18 rfl ((hx.2 19 (by decide) (by decide)).trans h0_19) (by decide) rfl (vpc (by decide)) rfl ?_
          exact aw_ra dX11_machineOf_19 rfl (Or.inl ⟨_, rfl⟩) rfl (Nat.le_of_ble_eq_true rfl) (Nat.le_of_ble_eq_true rfl) (Or.inr (Or.inr (Or.inr (Or.inl ⟨rfl, rfl, rfl⟩))))
      · refine aw_null (pc' := 10) dX11_machineOf_9 rfl ?_
        refine aw_goto (tgt := 19) dX11_machineOf_10 (by decide) ?_
        exact aw_ra dX11_machineOf_19 rfl (Or.inl ⟨_, rfl⟩) rfl (Nat.le_of_ble_eq_true rfl) (Nat.le_of_ble_eq_true rfl) (Or.inr (Or.inr (Or.inr (Or.inr ⟨c2, c3, rfl, rfl⟩))))
  refine aw_callVa (M' := mX11_machineOf) (nc' := 0) (ns' := 0) (pc' := 5) dX11_breaks_2 rfl ml_RX11_158 kX11_machineOf cc1 hx.1 rfl rfl rfl (Nat.le_of_ble_eq_true rfl) (rok rfl) rfl rfl (fun r7 h7 q7 => ?_)
  rcases q7 with ⟨c4, rfl, rfl⟩ | ⟨rfl, rfl, rfl⟩ | ⟨rfl, rfl, rfl⟩ | ⟨rfl, rfl, rfl⟩ | ⟨c5, c6, rfl, rfl⟩
  · refine aw_astore_n (lv' := [_, _, _, _]) (pc' := 6) dX11_breaks_5 rfl (Nat.le_of_ble_eq_true rfl) rfl rfl ?_
    refine aw_aload_n (pc' := 7) dX11_breaks_6 rfl rfl rfl ?_
    refine aw_ifnull_n (tgt := 25) dX11_breaks_7 (by decide) ?_
    refine aw_iconst (v := (-1)) (pc' := 26) dX11_breaks_25 rfl (by decide) ?_
    exact aw_ri dX11_breaks_26 rfl rfl (Nat.le_of_ble_eq_true rfl) (Nat.le_of_ble_eq_true rfl) ⟨(by first | (simp [sp_breaks, cnd, okC, okS, okW, okN, inR, n2_, n3_, n5_, n31_, c4]; done) | (simp_all [sp_breaks, cnd, okC, okS, okW, okN, inR, n2_, n3_, n5_, n31_]; done) | skip), sm_rf⟩
  · refine aw_astore_n (lv' := [_, _, _, _]) (pc' := 6) dX11_breaks_5 rfl (Nat.le_of_ble_eq_true rfl) rfl rfl ?_
    refine aw_aload_n (pc' := 7) dX11_breaks_6 rfl rfl rfl ?_
    refine aw_ifnull_r (pc' := 10) dX11_breaks_7 rfl ?_
    refine aw_iload_n (pc' := 11) dX11_breaks_10 rfl rfl ?_
    refine aw_aload_n (pc' := 12) dX11_breaks_11 rfl rfl rfl ?_
    refine aw_get clsAll (pc' := 15) dX11_breaks_12 rfl fl_RX11_168 hx.1 rfl ?_
    refine aw_clt (tgt := 25) (pc' := 18) dX11_breaks_15 (by decide) rfl (fun c8 => ?_) (fun c8 => ?_)
    · refine aw_iconst (v := (-1)) (pc' := 26) dX11_breaks_25 rfl (by decide) ?_
      exact aw_ri dX11_breaks_26 rfl rfl (Nat.le_of_ble_eq_true rfl) (Nat.le_of_ble_eq_true rfl) ⟨(by first | (simp [sp_breaks, cnd, okC, okS, okW, okN, inR, n2_, n3_, n5_, n31_, c8]; done) | (simp_all [sp_breaks, cnd, okC, okS, okW, okN, inR, n2_, n3_, n5_, n31_]; done) | skip), sm_rf⟩
    · refine aw_iload_n (pc' := 19) dX11_breaks_18 rfl rfl ?_
      refine aw_sipush (v := 1699) (pc' := 22) dX11_breaks_19 rfl (by decide) ?_
      refine aw_cle (tgt := 27) (pc' := 25) dX11_breaks_22 (by decide) rfl (fun c9 => ?_) (fun c9 => ?_)
      · refine aw_aload_n (pc' := 28) dX11_breaks_27 rfl rfl rfl ?_
        refine aw_iload_n (pc' := 29) dX11_breaks_28 rfl rfl ?_
        refine aw_putG clsAll (pc' := 32) dX11_breaks_29 rfl fl_RX11_171 ((hx.2 20 (by decide) (by decide)).trans h0_20) (Nat.le_of_ble_eq_true rfl) rfl (fun h10 e10 => ?_)
        refine aw_iconst (v := 1) (pc' := 33) dX11_breaks_32 rfl (by decide) ?_
        exact aw_ri dX11_breaks_33 rfl rfl (Nat.le_of_ble_eq_true rfl) (Nat.le_of_ble_eq_true rfl) ⟨(by first | (simp [sp_breaks, cnd, okC, okS, okW, okN, inR, n2_, n3_, n5_, n31_, c8, c9]; done) | (simp_all [sp_breaks, cnd, okC, okS, okW, okN, inR, n2_, n3_, n5_, n31_]; done) | skip), (sm_set e10 (by decide) sm_rf)⟩
      · refine aw_iconst (v := (-1)) (pc' := 26) dX11_breaks_25 rfl (by decide) ?_
        exact aw_ri dX11_breaks_26 rfl rfl (Nat.le_of_ble_eq_true rfl) (Nat.le_of_ble_eq_true rfl) ⟨(by first | (simp [sp_breaks, cnd, okC, okS, okW, okN, inR, n2_, n3_, n5_, n31_, c8, c9]; done) | (simp_all [sp_breaks, cnd, okC, okS, okW, okN, inR, n2_, n3_, n5_, n31_]; done) | skip), sm_rf⟩
  · refine aw_astore_n (lv' := [_, _, _, _]) (pc' := 6) dX11_breaks_5 rfl (Nat.le_of_ble_eq_true rfl) rfl rfl ?_
    refine aw_aload_n (pc' := 7) dX11_breaks_6 rfl rfl rfl ?_
    refine aw_ifnull_r (pc' := 10) dX11_breaks_7 rfl ?_
    refine aw_iload_n (pc' := 11) dX11_breaks_10 rfl rfl ?_
    refine aw_aload_n (pc' := 12) dX11_breaks_11 rfl rfl rfl ?_
    refine aw_get clsAll (pc' := 15) dX11_breaks_12 rfl fl_RX11_168 hx.1 rfl ?_
    refine aw_clt (tgt := 25) (pc' := 18) dX11_breaks_15 (by decide) rfl (fun c11 => ?_) (fun c11 => ?_)
    · refine aw_iconst (v := (-1)) (pc' := 26) dX11_breaks_25 rfl (by decide) ?_
      exact aw_ri dX11_breaks_26 rfl rfl (Nat.le_of_ble_eq_true rfl) (Nat.le_of_ble_eq_true rfl) ⟨(by first | (simp [sp_breaks, cnd, okC, okS, okW, okN, inR, n2_, n3_, n5_, n31_, c11]; done) | (simp_all [sp_breaks, cnd, okC, okS, okW, okN, inR, n2_, n3_, n5_, n31_]; done) | skip), sm_rf⟩
    · refine aw_iload_n (pc' := 19) dX11_breaks_18 rfl rfl ?_
      refine aw_sipush (v := 1699) (pc' := 22) dX11_breaks_19 rfl (by decide) ?_
      refine aw_cle (tgt := 27) (pc' := 25) dX11_breaks_22 (by decide) rfl (fun c12 => ?_) (fun c12 => ?_)
      · refine aw_aload_n (pc' := 28) dX11_breaks_27 rfl rfl rfl ?_
        refine aw_iload_n (pc' := 29) dX11_breaks_28 rfl rfl ?_
        refine aw_putG clsAll (pc' := 32) dX11_breaks_29 rfl fl_RX11_171 ((hx.2 21 (by decide) (by decide)).trans h0_21) (Nat.le_of_ble_eq_true rfl) rfl (fun h13 e13 => ?_)
        refine aw_iconst (v := 1) (pc' := 33) dX11_breaks_32 rfl (by decide) ?_
        exact aw_ri dX11_breaks_33 rfl rfl (Nat.le_of_ble_eq_true rfl) (Nat.le_of_ble_eq_true rfl) ⟨(by first | (simp [sp_breaks, cnd, okC, okS, okW, okN, inR, n2_, n3_, n5_, n31_, c11, c12]; done) | (simp_all [sp_breaks, cnd, okC, okS, okW, okN, inR, n2_, n3_, n5_, n31_]; done) | skip), (sm_set e13 (by decide) sm_rf)⟩
      · refine aw_iconst (v := (-1)) (pc' := 26) dX11_breaks_25 rfl (by decide) ?_
        exact aw_ri dX11_breaks_26 rfl rfl (Nat.le_of_ble_eq_true rfl) (Nat.le_of_ble_eq_true rfl) ⟨(by first | (simp [sp_breaks, cnd, okC, okS, okW, okN, inR, n2_, n3_, n5_, n31_, c11, c12]; done) | (simp_all [sp_breaks, cnd, okC, okS, okW, okN, inR, n2_, n3_, n5_, n31_]; done) | skip), sm_rf⟩
  · refine aw_astore_n (lv' := [_, _, _, _]) (pc' := 6) dX11_breaks_5 rfl (Nat.le_of_ble_eq_true rfl) rfl rfl ?_
    refine aw_aload_n (pc' := 7) dX11_breaks_6 rfl rfl rfl ?_
    refine aw_ifnull_r (pc' := 10) dX11_breaks_7 rfl ?_
    refine aw_iload_n (pc' := 11) dX11_breaks_10 rfl rfl ?_
    refine aw_aload_n (pc' := 12) dX11_breaks_11 rfl rfl rfl ?_
    refine aw_get clsAll (pc' := 15) dX11_breaks_12 rfl fl_RX11_168 hx.1 rfl ?_
    refine aw_clt (tgt := 25) (pc' := 18) dX11_breaks_15 (by decide) rfl (fun c14 => ?_) (fun c14 => ?_)
    · refine aw_iconst (v := (-1)) (pc' := 26) dX11_breaks_25 rfl (by decide) ?_
      exact aw_ri dX11_breaks_26 rfl rfl (Nat.le_of_ble_eq_true rfl) (Nat.le_of_ble_eq_true rfl) ⟨(by first | (simp [sp_breaks, cnd, okC, okS, okW, okN, inR, n2_, n3_, n5_, n31_, c14]; done) | (simp_all [sp_breaks, cnd, okC, okS, okW, okN, inR, n2_, n3_, n5_, n31_]; done) | skip), sm_rf⟩
    · refine aw_iload_n (pc' := 19) dX11_breaks_18 rfl rfl ?_
      refine aw_sipush (v := 1699) (pc' := 22) dX11_breaks_19 rfl (by decide) ?_
      refine aw_cle (tgt := 27) (pc' := 25) dX11_breaks_22 (by decide) rfl (fun c15 => ?_) (fun c15 => ?_)
      · refine aw_aload_n (pc' := 28) dX11_breaks_27 rfl rfl rfl ?_
        refine aw_iload_n (pc' := 29) dX11_breaks_28 rfl rfl ?_
        refine aw_putG clsAll (pc' := 32) dX11_breaks_29 rfl fl_RX11_171 ((hx.2 22 (by decide) (by decide)).trans h0_22) (Nat.le_of_ble_eq_true rfl) rfl (fun h16 e16 => ?_)
        refine aw_iconst (v := 1) (pc' := 33) dX11_breaks_32 rfl (by decide) ?_
        exact aw_ri dX11_breaks_33 rfl rfl (Nat.le_of_ble_eq_true rfl) (Nat.le_of_ble_eq_true rfl) ⟨(by first | (simp [sp_breaks, cnd, okC, okS, okW, okN, inR, n2_, n3_, n5_, n31_, c14, c15]; done) | (simp_all [sp_breaks, cnd, okC, okS, okW, okN, inR, n2_, n3_, n5_, n31_]; done) | skip), (sm_set e16 (by decide) sm_rf)⟩
      · refine aw_iconst (v := (-1)) (pc' := 26) dX11_breaks_25 rfl (by decide) ?_
        exact aw_ri dX11_breaks_26 rfl rfl (Nat.le_of_ble_eq_true rfl) (Nat.le_of_ble_eq_true rfl) ⟨(by first | (simp [sp_breaks, cnd, okC, okS, okW, okN, inR, n2_, n3_, n5_, n31_, c14, c15]; done) | (simp_all [sp_breaks, cnd, okC, okS, okW, okN, inR, n2_, n3_, n5_, n31_]; done) | skip), sm_rf⟩
  · refine aw_astore_n (lv' := [_, _, _, _]) (pc' := 6) dX11_breaks_5 rfl (Nat.le_of_ble_eq_true rfl) rfl rfl ?_
    refine aw_aload_n (pc' := 7) dX11_breaks_6 rfl rfl rfl ?_
    refine aw_ifnull_n (tgt := 25) dX11_breaks_7 (by decide) ?_
    refine aw_iconst (v := (-1)) (pc' := 26) dX11_breaks_25 rfl (by decide) ?_
    exact aw_ri dX11_breaks_26 rfl rfl (Nat.le_of_ble_eq_true rfl) (Nat.le_of_ble_eq_true rfl) ⟨(by first | (simp [sp_breaks, cnd, okC, okS, okW, okN, inR, n2_, n3_, n5_, n31_, c5, c6]; done) | (simp_all [sp_breaks, cnd, okC, okS, okW, okN, inR, n2_, n3_, n5_, n31_]; done) | skip), sm_rf⟩
set_option maxRecDepth 4000 in
theorem x_yard (h : List aE) (hx : Fx 0 h) (hlen : h.length = 126) (b : Int32) (v : Int32) : AM mX11_yard 1 [.ref 8, .int b, .int v] h 0 0 (PI fun r h' => r = sp_yard b v ∧ Sm h h') := by
  refine am_of (lv := [some (.ref 8), some (.int b), some (.int v), none]) rfl (Nat.le_of_ble_eq_true rfl) rfl ?_
  refine aw_aload_n (pc' := 1) dX11_yard_0 rfl rfl rfl ?_
  refine aw_get clsAll (pc' := 4) dX11_yard_1 rfl fl_RX11_28 hx.1 rfl ?_
  refine aw_iload_n (pc' := 5) dX11_yard_4 rfl rfl ?_
  have cc1 : AM mX0_holeOf 0 [.ref 23, .int b] h 0 0 (PA fun r h' => (b < 0 ∧ Value.null = r ∧ h = h') ∨ (¬ (b < 0) ∧ Value.null = r ∧ h = h')) := by
    refine am_of (lv := [some (.ref 23), some (.int b)]) rfl (Nat.le_of_ble_eq_true rfl) rfl ?_
    refine aw_iload_n (pc' := 1) dX0_holeOf_0 rfl rfl ?_
    refine aw_zlt (tgt := 12) (pc' := 4) dX0_holeOf_1 (by decide) rfl (fun c2 => ?_) (fun c2 => ?_)
    · refine aw_null (pc' := 13) dX0_holeOf_12 rfl ?_
      refine aw_goto (tgt := 22) dX0_holeOf_13 (by decide) ?_
      exact aw_ra dX0_holeOf_22 rfl (Or.inl ⟨_, rfl⟩) rfl (Nat.le_of_ble_eq_true rfl) (Nat.le_of_ble_eq_true rfl) (Or.inl ⟨c2, rfl, rfl⟩)
    · refine aw_iload_n (pc' := 5) dX0_holeOf_4 rfl rfl ?_
      refine aw_aload_n (pc' := 6) dX0_holeOf_5 rfl rfl rfl ?_
      refine aw_get clsAll (pc' := 9) dX0_holeOf_6 rfl fl_RX0_32 ((hx.2 15 (by decide) (by decide)).trans h0_15) rfl ?_
      refine aw_clt (tgt := 16) (pc' := 12) dX0_holeOf_9 (by decide) rfl (fun c => absurd c c2) (fun _ => ?_)
      refine aw_null (pc' := 13) dX0_holeOf_12 rfl ?_
      refine aw_goto (tgt := 22) dX0_holeOf_13 (by decide) ?_
      exact aw_ra dX0_holeOf_22 rfl (Or.inl ⟨_, rfl⟩) rfl (Nat.le_of_ble_eq_true rfl) (Nat.le_of_ble_eq_true rfl) (Or.inr ⟨c2, rfl, rfl⟩)
  refine aw_callVa (M' := mX0_holeOf) (nc' := 0) (ns' := 0) (pc' := 8) dX11_yard_5 rfl ml_RX11_139 kX0_holeOf cc1 ((hx.2 15 (by decide) (by decide)).trans h0_15) rfl rfl rfl (Nat.le_of_ble_eq_true rfl) (rok rfl) rfl rfl (fun r5 h5 q5 => ?_)
  rcases q5 with ⟨c3, rfl, rfl⟩ | ⟨c4, rfl, rfl⟩
  · refine aw_astore_n (lv' := [_, _, _, _]) (pc' := 9) dX11_yard_8 rfl (Nat.le_of_ble_eq_true rfl) rfl rfl ?_
    refine aw_aload_n (pc' := 10) dX11_yard_9 rfl rfl rfl ?_
    refine aw_ifnull_n (tgt := 24) dX11_yard_10 (by decide) ?_
    refine aw_iconst (v := (-1)) (pc' := 25) dX11_yard_24 rfl (by decide) ?_
    exact aw_ri dX11_yard_25 rfl rfl (Nat.le_of_ble_eq_true rfl) (Nat.le_of_ble_eq_true rfl) ⟨(by first | (simp [sp_yard, cnd, okC, okS, okW, okN, inR, n2_, n3_, n5_, n31_, c3]; done) | (simp_all [sp_yard, cnd, okC, okS, okW, okN, inR, n2_, n3_, n5_, n31_]; done) | skip), sm_rf⟩
  · refine aw_astore_n (lv' := [_, _, _, _]) (pc' := 9) dX11_yard_8 rfl (Nat.le_of_ble_eq_true rfl) rfl rfl ?_
    refine aw_aload_n (pc' := 10) dX11_yard_9 rfl rfl rfl ?_
    refine aw_ifnull_n (tgt := 24) dX11_yard_10 (by decide) ?_
    refine aw_iconst (v := (-1)) (pc' := 25) dX11_yard_24 rfl (by decide) ?_
    exact aw_ri dX11_yard_25 rfl rfl (Nat.le_of_ble_eq_true rfl) (Nat.le_of_ble_eq_true rfl) ⟨(by first | (simp [sp_yard, cnd, okC, okS, okW, okN, inR, n2_, n3_, n5_, n31_, c4]; done) | (simp_all [sp_yard, cnd, okC, okS, okW, okN, inR, n2_, n3_, n5_, n31_]; done) | skip), sm_rf⟩
set_option maxRecDepth 4000 in
theorem x_met (h : List aE) (hx : Fx 0 h) (hlen : h.length = 126) (b : Int32) (v : Int32) : AM mX11_met 1 [.ref 8, .int b, .int v] h 0 0 (PI fun r h' => r = sp_met b v ∧ Sm h h') := by
  refine am_of (lv := [some (.ref 8), some (.int b), some (.int v), none]) rfl (Nat.le_of_ble_eq_true rfl) rfl ?_
  refine aw_aload_n (pc' := 1) dX11_met_0 rfl rfl rfl ?_
  refine aw_get clsAll (pc' := 4) dX11_met_1 rfl fl_RX11_28 hx.1 rfl ?_
  refine aw_iload_n (pc' := 5) dX11_met_4 rfl rfl ?_
  have cc1 : AM mX0_holeOf 0 [.ref 23, .int b] h 0 0 (PA fun r h' => (b < 0 ∧ Value.null = r ∧ h = h') ∨ (¬ (b < 0) ∧ Value.null = r ∧ h = h')) := by
    refine am_of (lv := [some (.ref 23), some (.int b)]) rfl (Nat.le_of_ble_eq_true rfl) rfl ?_
    refine aw_iload_n (pc' := 1) dX0_holeOf_0 rfl rfl ?_
    refine aw_zlt (tgt := 12) (pc' := 4) dX0_holeOf_1 (by decide) rfl (fun c2 => ?_) (fun c2 => ?_)
    · refine aw_null (pc' := 13) dX0_holeOf_12 rfl ?_
      refine aw_goto (tgt := 22) dX0_holeOf_13 (by decide) ?_
      exact aw_ra dX0_holeOf_22 rfl (Or.inl ⟨_, rfl⟩) rfl (Nat.le_of_ble_eq_true rfl) (Nat.le_of_ble_eq_true rfl) (Or.inl ⟨c2, rfl, rfl⟩)
    · refine aw_iload_n (pc' := 5) dX0_holeOf_4 rfl rfl ?_
      refine aw_aload_n (pc' := 6) dX0_holeOf_5 rfl rfl rfl ?_
      refine aw_get clsAll (pc' := 9) dX0_holeOf_6 rfl fl_RX0_32 ((hx.2 15 (by decide) (by decide)).trans h0_15) rfl ?_
      refine aw_clt (tgt := 16) (pc' := 12) dX0_holeOf_9 (by decide) rfl (fun c => absurd c c2) (fun _ => ?_)
      refine aw_null (pc' := 13) dX0_holeOf_12 rfl ?_
      refine aw_goto (tgt := 22) dX0_holeOf_13 (by decide) ?_
      exact aw_ra dX0_holeOf_22 rfl (Or.inl ⟨_, rfl⟩) rfl (Nat.le_of_ble_eq_true rfl) (Nat.le_of_ble_eq_true rfl) (Or.inr ⟨c2, rfl, rfl⟩)
  refine aw_callVa (M' := mX0_holeOf) (nc' := 0) (ns' := 0) (pc' := 8) dX11_met_5 rfl ml_RX11_139 kX0_holeOf cc1 ((hx.2 15 (by decide) (by decide)).trans h0_15) rfl rfl rfl (Nat.le_of_ble_eq_true rfl) (rok rfl) rfl rfl (fun r5 h5 q5 => ?_)
  rcases q5 with ⟨c3, rfl, rfl⟩ | ⟨c4, rfl, rfl⟩
  · refine aw_astore_n (lv' := [_, _, _, _]) (pc' := 9) dX11_met_8 rfl (Nat.le_of_ble_eq_true rfl) rfl rfl ?_
    refine aw_aload_n (pc' := 10) dX11_met_9 rfl rfl rfl ?_
    refine aw_ifnull_n (tgt := 26) dX11_met_10 (by decide) ?_
    refine aw_iconst (v := (-1)) (pc' := 27) dX11_met_26 rfl (by decide) ?_
    exact aw_ri dX11_met_27 rfl rfl (Nat.le_of_ble_eq_true rfl) (Nat.le_of_ble_eq_true rfl) ⟨(by first | (simp [sp_met, cnd, okC, okS, okW, okN, inR, n2_, n3_, n5_, n31_, c3]; done) | (simp_all [sp_met, cnd, okC, okS, okW, okN, inR, n2_, n3_, n5_, n31_]; done) | skip), sm_rf⟩
  · refine aw_astore_n (lv' := [_, _, _, _]) (pc' := 9) dX11_met_8 rfl (Nat.le_of_ble_eq_true rfl) rfl rfl ?_
    refine aw_aload_n (pc' := 10) dX11_met_9 rfl rfl rfl ?_
    refine aw_ifnull_n (tgt := 26) dX11_met_10 (by decide) ?_
    refine aw_iconst (v := (-1)) (pc' := 27) dX11_met_26 rfl (by decide) ?_
    exact aw_ri dX11_met_27 rfl rfl (Nat.le_of_ble_eq_true rfl) (Nat.le_of_ble_eq_true rfl) ⟨(by first | (simp [sp_met, cnd, okC, okS, okW, okN, inR, n2_, n3_, n5_, n31_, c4]; done) | (simp_all [sp_met, cnd, okC, okS, okW, okN, inR, n2_, n3_, n5_, n31_]; done) | skip), sm_rf⟩
set_option maxRecDepth 4000 in
theorem x_log (h : List aE) (hx : Fx 0 h) (hlen : h.length = 126) (b : Int32) (s : Int32) (i : Int32) (y : Int32) (n : Int32) : AM mX11_log 1 [.ref 8, .int b, .int s, .int i, .int y, .int n] h 0 0 (PI fun r h' => r = sp_log b s i y n ∧ Sm h h') := by
  refine am_of (lv := [some (.ref 8), some (.int b), some (.int s), some (.int i), some (.int y), some (.int n), none, none]) rfl (Nat.le_of_ble_eq_true rfl) rfl ?_
  refine aw_aload_n (pc' := 1) dX11_log_0 rfl rfl rfl ?_
  refine aw_get clsAll (pc' := 4) dX11_log_1 rfl fl_RX11_28 hx.1 rfl ?_
  refine aw_iload_n (pc' := 5) dX11_log_4 rfl rfl ?_
  have cc1 : AM mX0_holeOf 0 [.ref 23, .int b] h 0 0 (PA fun r h' => (b < 0 ∧ Value.null = r ∧ h = h') ∨ (¬ (b < 0) ∧ Value.null = r ∧ h = h')) := by
    refine am_of (lv := [some (.ref 23), some (.int b)]) rfl (Nat.le_of_ble_eq_true rfl) rfl ?_
    refine aw_iload_n (pc' := 1) dX0_holeOf_0 rfl rfl ?_
    refine aw_zlt (tgt := 12) (pc' := 4) dX0_holeOf_1 (by decide) rfl (fun c2 => ?_) (fun c2 => ?_)
    · refine aw_null (pc' := 13) dX0_holeOf_12 rfl ?_
      refine aw_goto (tgt := 22) dX0_holeOf_13 (by decide) ?_
      exact aw_ra dX0_holeOf_22 rfl (Or.inl ⟨_, rfl⟩) rfl (Nat.le_of_ble_eq_true rfl) (Nat.le_of_ble_eq_true rfl) (Or.inl ⟨c2, rfl, rfl⟩)
    · refine aw_iload_n (pc' := 5) dX0_holeOf_4 rfl rfl ?_
      refine aw_aload_n (pc' := 6) dX0_holeOf_5 rfl rfl rfl ?_
      refine aw_get clsAll (pc' := 9) dX0_holeOf_6 rfl fl_RX0_32 ((hx.2 15 (by decide) (by decide)).trans h0_15) rfl ?_
      refine aw_clt (tgt := 16) (pc' := 12) dX0_holeOf_9 (by decide) rfl (fun c => absurd c c2) (fun _ => ?_)
      refine aw_null (pc' := 13) dX0_holeOf_12 rfl ?_
      refine aw_goto (tgt := 22) dX0_holeOf_13 (by decide) ?_
      exact aw_ra dX0_holeOf_22 rfl (Or.inl ⟨_, rfl⟩) rfl (Nat.le_of_ble_eq_true rfl) (Nat.le_of_ble_eq_true rfl) (Or.inr ⟨c2, rfl, rfl⟩)
  refine aw_callVa (M' := mX0_holeOf) (nc' := 0) (ns' := 0) (pc' := 8) dX11_log_5 rfl ml_RX11_139 kX0_holeOf cc1 ((hx.2 15 (by decide) (by decide)).trans h0_15) rfl rfl rfl (Nat.le_of_ble_eq_true rfl) (rok rfl) rfl rfl (fun r5 h5 q5 => ?_)
  rcases q5 with ⟨c3, rfl, rfl⟩ | ⟨c4, rfl, rfl⟩
  · refine aw_astore (lv' := [_, _, _, _, _, _, _, _]) (pc' := 10) dX11_log_8 rfl (Nat.le_of_ble_eq_true rfl) rfl rfl ?_
    refine aw_aload_n (pc' := 11) dX11_log_10 rfl rfl rfl ?_
    refine aw_iload_n (pc' := 12) dX11_log_11 rfl rfl ?_
    have cc6 : AM mX11_shelfOf 0 [.ref 8, .int s] h 0 0 (PA fun r h' => (s < 0 ∧ Value.null = r ∧ h = h') ∨ (s = 0 ∧ Value.ref 55 = r ∧ h = h') ∨ (s = 1 ∧ Value.ref 57 = r ∧ h = h') ∨ (s = 2 ∧ Value.ref 59 = r ∧ h = h') ∨ (s = 3 ∧ Value.ref 61 = r ∧ h = h') ∨ (s = 4 ∧ Value.ref 63 = r ∧ h = h') ∨ (s = 5 ∧ Value.ref 65 = r ∧ h = h') ∨ (¬ (s < 0) ∧ ¬ (s < 6) ∧ Value.null = r ∧ h = h')) := by
      refine am_of (lv := [some (.ref 8), some (.int s)]) rfl (Nat.le_of_ble_eq_true rfl) rfl ?_
      refine aw_iload_n (pc' := 1) dX11_shelfOf_0 rfl rfl ?_
      refine aw_zlt (tgt := 10) (pc' := 4) dX11_shelfOf_1 (by decide) rfl (fun c7 => ?_) (fun c7 => ?_)
      · refine aw_null (pc' := 11) dX11_shelfOf_10 rfl ?_
        refine aw_goto (tgt := 20) dX11_shelfOf_11 (by decide) ?_
        exact aw_ra dX11_shelfOf_20 rfl (Or.inl ⟨_, rfl⟩) rfl (Nat.le_of_ble_eq_true rfl) (Nat.le_of_ble_eq_true rfl) (Or.inl ⟨c7, rfl, rfl⟩)
      · refine aw_iload_n (pc' := 5) dX11_shelfOf_4 rfl rfl ?_
        refine aw_bipush (v := 6) (pc' := 7) dX11_shelfOf_5 rfl (by decide) ?_
        refine aw_clt (tgt := 14) (pc' := 10) dX11_shelfOf_7 (by decide) rfl (fun c8 => ?_) (fun c8 => ?_)
        · refine aw_aload_n (pc' := 15) dX11_shelfOf_14 rfl rfl rfl ?_
          refine aw_get clsAll (pc' := 18) dX11_shelfOf_15 rfl fl_RX11_89 hx.1 rfl ?_
          refine aw_iload_n (pc' := 19) dX11_shelfOf_18 rfl rfl ?_
          rcases six_ c7 c8 with rfl | rfl | rfl | rfl | rfl | rfl
          · refine aw_aald (v := .ref 55) (pc' := 20) dX11_shelfOf_19 rfl ((hx.2 46 (by decide) (by decide)).trans h0_46) (by decide) rfl (vpc (by decide)) rfl ?_
            exact aw_ra dX11_shelfOf_20 rfl (Or.inl ⟨_, rfl⟩) rfl (Nat.le_of_ble_eq_true rfl) (Nat.le_of_ble_eq_true rfl) (Or.inr (Or.inl ⟨rfl, rfl, rfl⟩))
          · refine aw_aald (v := .ref 57) (pc' := 20) dX11_shelfOf_19 rfl ((hx.2 46 (by decide) (by decide)).trans h0_46) (by decide) rfl (vpc (by decide)) rfl ?_
            exact aw_ra dX11_shelfOf_20 rfl (Or.inl ⟨_, rfl⟩) rfl (Nat.le_of_ble_eq_true rfl) (Nat.le_of_ble_eq_true rfl) (Or.inr (Or.inr (Or.inl ⟨rfl, rfl, rfl⟩)))
          · refine aw_aald (v := .ref 59) (pc' := 20) dX11_shelfOf_19 rfl ((hx.2 46 (by decide) (by decide)).trans h0_46) (by decide) rfl (vpc (by decide)) rfl ?_
            exact aw_ra dX11_shelfOf_20 rfl (Or.inl ⟨_, rfl⟩) rfl (Nat.le_of_ble_eq_true rfl) (Nat.le_of_ble_eq_true rfl) (Or.inr (Or.inr (Or.inr (Or.inl ⟨rfl, rfl, rfl⟩))))
          · refine aw_aald (v := .ref 61) (pc' := 20) dX11_shelfOf_19 rfl ((hx.2 46 (by decide) (by decide)).trans h0_46) (by decide) rfl (vpc (by decide)) rfl ?_
            exact aw_ra dX11_shelfOf_20 rfl (Or.inl ⟨_, rfl⟩) rfl (Nat.le_of_ble_eq_true rfl) (Nat.le_of_ble_eq_true rfl) (Or.inr (Or.inr (Or.inr (Or.inr (Or.inl ⟨rfl, rfl, rfl⟩)))))
          · refine aw_aald (v := .ref 63) (pc' := 20) dX11_shelfOf_19 rfl ((hx.2 46 (by decide) (by decide)).trans h0_46) (by decide) rfl (vpc (by decide)) rfl ?_
            exact aw_ra dX11_shelfOf_20 rfl (Or.inl ⟨_, rfl⟩) rfl (Nat.le_of_ble_eq_true rfl) (Nat.le_of_ble_eq_true rfl) (Or.inr (Or.inr (Or.inr (Or.inr (Or.inr (Or.inl ⟨rfl, rfl, rfl⟩))))))
          · refine aw_aald (v := .ref 65) (pc' := 20) dX11_shelfOf_19 rfl ((hx.2 46 (by decide) (by decide)).trans h0_46) (by decide) rfl (vpc (by decide)) rfl ?_
            exact aw_ra dX11_shelfOf_20 rfl (Or.inl ⟨_, rfl⟩) rfl (Nat.le_of_ble_eq_true rfl) (Nat.le_of_ble_eq_true rfl) (Or.inr (Or.inr (Or.inr (Or.inr (Or.inr (Or.inr (Or.inl ⟨rfl, rfl, rfl⟩)))))))
        · refine aw_null (pc' := 11) dX11_shelfOf_10 rfl ?_
          refine aw_goto (tgt := 20) dX11_shelfOf_11 (by decide) ?_
          exact aw_ra dX11_shelfOf_20 rfl (Or.inl ⟨_, rfl⟩) rfl (Nat.le_of_ble_eq_true rfl) (Nat.le_of_ble_eq_true rfl) (Or.inr (Or.inr (Or.inr (Or.inr (Or.inr (Or.inr (Or.inr ⟨c7, c8, rfl, rfl⟩)))))))
    refine aw_callVa (M' := mX11_shelfOf) (nc' := 0) (ns' := 0) (pc' := 15) dX11_log_12 rfl ml_RX11_190 kX11_shelfOf cc6 hx.1 rfl rfl rfl (Nat.le_of_ble_eq_true rfl) (rok rfl) rfl rfl (fun r12 h12 q12 => ?_)
    rcases q12 with ⟨c9, rfl, rfl⟩ | ⟨rfl, rfl, rfl⟩ | ⟨rfl, rfl, rfl⟩ | ⟨rfl, rfl, rfl⟩ | ⟨rfl, rfl, rfl⟩ | ⟨rfl, rfl, rfl⟩ | ⟨rfl, rfl, rfl⟩ | ⟨c10, c11, rfl, rfl⟩
    · refine aw_astore (lv' := [_, _, _, _, _, _, _, _]) (pc' := 17) dX11_log_15 rfl (Nat.le_of_ble_eq_true rfl) rfl rfl ?_
      refine aw_aload (pc' := 19) dX11_log_17 rfl rfl rfl ?_
      refine aw_ifnull_n (tgt := 48) dX11_log_19 (by decide) ?_
      refine aw_iconst (v := (-1)) (pc' := 49) dX11_log_48 rfl (by decide) ?_
      exact aw_ri dX11_log_49 rfl rfl (Nat.le_of_ble_eq_true rfl) (Nat.le_of_ble_eq_true rfl) ⟨(by first | (simp [sp_log, cnd, okC, okS, okW, okN, inR, n2_, n3_, n5_, n31_, c3, c9]; done) | (simp_all [sp_log, cnd, okC, okS, okW, okN, inR, n2_, n3_, n5_, n31_]; done) | skip), sm_rf⟩
    · refine aw_astore (lv' := [_, _, _, _, _, _, _, _]) (pc' := 17) dX11_log_15 rfl (Nat.le_of_ble_eq_true rfl) rfl rfl ?_
      refine aw_aload (pc' := 19) dX11_log_17 rfl rfl rfl ?_
      refine aw_ifnull_n (tgt := 48) dX11_log_19 (by decide) ?_
      refine aw_iconst (v := (-1)) (pc' := 49) dX11_log_48 rfl (by decide) ?_
      exact aw_ri dX11_log_49 rfl rfl (Nat.le_of_ble_eq_true rfl) (Nat.le_of_ble_eq_true rfl) ⟨(by first | (simp [sp_log, cnd, okC, okS, okW, okN, inR, n2_, n3_, n5_, n31_, c3]; done) | (simp_all [sp_log, cnd, okC, okS, okW, okN, inR, n2_, n3_, n5_, n31_]; done) | skip), sm_rf⟩
    · refine aw_astore (lv' := [_, _, _, _, _, _, _, _]) (pc' := 17) dX11_log_15 rfl (Nat.le_of_ble_eq_true rfl) rfl rfl ?_
      refine aw_aload (pc' := 19) dX11_log_17 rfl rfl rfl ?_
      refine aw_ifnull_n (tgt := 48) dX11_log_19 (by decide) ?_
      refine aw_iconst (v := (-1)) (pc' := 49) dX11_log_48 rfl (by decide) ?_
      exact aw_ri dX11_log_49 rfl rfl (Nat.le_of_ble_eq_true rfl) (Nat.le_of_ble_eq_true rfl) ⟨(by first | (simp [sp_log, cnd, okC, okS, okW, okN, inR, n2_, n3_, n5_, n31_, c3]; done) | (simp_all [sp_log, cnd, okC, okS, okW, okN, inR, n2_, n3_, n5_, n31_]; done) | skip), sm_rf⟩
    · refine aw_astore (lv' := [_, _, _, _, _, _, _, _]) (pc' := 17) dX11_log_15 rfl (Nat.le_of_ble_eq_true rfl) rfl rfl ?_
      refine aw_aload (pc' := 19) dX11_log_17 rfl rfl rfl ?_
      refine aw_ifnull_n (tgt := 48) dX11_log_19 (by decide) ?_
      refine aw_iconst (v := (-1)) (pc' := 49) dX11_log_48 rfl (by decide) ?_
      exact aw_ri dX11_log_49 rfl rfl (Nat.le_of_ble_eq_true rfl) (Nat.le_of_ble_eq_true rfl) ⟨(by first | (simp [sp_log, cnd, okC, okS, okW, okN, inR, n2_, n3_, n5_, n31_, c3]; done) | (simp_all [sp_log, cnd, okC, okS, okW, okN, inR, n2_, n3_, n5_, n31_]; done) | skip), sm_rf⟩
    · refine aw_astore (lv' := [_, _, _, _, _, _, _, _]) (pc' := 17) dX11_log_15 rfl (Nat.le_of_ble_eq_true rfl) rfl rfl ?_
      refine aw_aload (pc' := 19) dX11_log_17 rfl rfl rfl ?_
      refine aw_ifnull_n (tgt := 48) dX11_log_19 (by decide) ?_
      refine aw_iconst (v := (-1)) (pc' := 49) dX11_log_48 rfl (by decide) ?_
      exact aw_ri dX11_log_49 rfl rfl (Nat.le_of_ble_eq_true rfl) (Nat.le_of_ble_eq_true rfl) ⟨(by first | (simp [sp_log, cnd, okC, okS, okW, okN, inR, n2_, n3_, n5_, n31_, c3]; done) | (simp_all [sp_log, cnd, okC, okS, okW, okN, inR, n2_, n3_, n5_, n31_]; done) | skip), sm_rf⟩
    · refine aw_astore (lv' := [_, _, _, _, _, _, _, _]) (pc' := 17) dX11_log_15 rfl (Nat.le_of_ble_eq_true rfl) rfl rfl ?_
      refine aw_aload (pc' := 19) dX11_log_17 rfl rfl rfl ?_
      refine aw_ifnull_n (tgt := 48) dX11_log_19 (by decide) ?_
      refine aw_iconst (v := (-1)) (pc' := 49) dX11_log_48 rfl (by decide) ?_
      exact aw_ri dX11_log_49 rfl rfl (Nat.le_of_ble_eq_true rfl) (Nat.le_of_ble_eq_true rfl) ⟨(by first | (simp [sp_log, cnd, okC, okS, okW, okN, inR, n2_, n3_, n5_, n31_, c3]; done) | (simp_all [sp_log, cnd, okC, okS, okW, okN, inR, n2_, n3_, n5_, n31_]; done) | skip), sm_rf⟩
    · refine aw_astore (lv' := [_, _, _, _, _, _, _, _]) (pc' := 17) dX11_log_15 rfl (Nat.le_of_ble_eq_true rfl) rfl rfl ?_
      refine aw_aload (pc' := 19) dX11_log_17 rfl rfl rfl ?_
      refine aw_ifnull_n (tgt := 48) dX11_log_19 (by decide) ?_
      refine aw_iconst (v := (-1)) (pc' := 49) dX11_log_48 rfl (by decide) ?_
      exact aw_ri dX11_log_49 rfl rfl (Nat.le_of_ble_eq_true rfl) (Nat.le_of_ble_eq_true rfl) ⟨(by first | (simp [sp_log, cnd, okC, okS, okW, okN, inR, n2_, n3_, n5_, n31_, c3]; done) | (simp_all [sp_log, cnd, okC, okS, okW, okN, inR, n2_, n3_, n5_, n31_]; done) | skip), sm_rf⟩
    · refine aw_astore (lv' := [_, _, _, _, _, _, _, _]) (pc' := 17) dX11_log_15 rfl (Nat.le_of_ble_eq_true rfl) rfl rfl ?_
      refine aw_aload (pc' := 19) dX11_log_17 rfl rfl rfl ?_
      refine aw_ifnull_n (tgt := 48) dX11_log_19 (by decide) ?_
      refine aw_iconst (v := (-1)) (pc' := 49) dX11_log_48 rfl (by decide) ?_
      exact aw_ri dX11_log_49 rfl rfl (Nat.le_of_ble_eq_true rfl) (Nat.le_of_ble_eq_true rfl) ⟨(by first | (simp [sp_log, cnd, okC, okS, okW, okN, inR, n2_, n3_, n5_, n31_, c3, c10, c11]; done) | (simp_all [sp_log, cnd, okC, okS, okW, okN, inR, n2_, n3_, n5_, n31_]; done) | skip), sm_rf⟩
  · refine aw_astore (lv' := [_, _, _, _, _, _, _, _]) (pc' := 10) dX11_log_8 rfl (Nat.le_of_ble_eq_true rfl) rfl rfl ?_
    refine aw_aload_n (pc' := 11) dX11_log_10 rfl rfl rfl ?_
    refine aw_iload_n (pc' := 12) dX11_log_11 rfl rfl ?_
    have cc13 : AM mX11_shelfOf 0 [.ref 8, .int s] h 0 0 (PA fun r h' => (s < 0 ∧ Value.null = r ∧ h = h') ∨ (s = 0 ∧ Value.ref 55 = r ∧ h = h') ∨ (s = 1 ∧ Value.ref 57 = r ∧ h = h') ∨ (s = 2 ∧ Value.ref 59 = r ∧ h = h') ∨ (s = 3 ∧ Value.ref 61 = r ∧ h = h') ∨ (s = 4 ∧ Value.ref 63 = r ∧ h = h') ∨ (s = 5 ∧ Value.ref 65 = r ∧ h = h') ∨ (¬ (s < 0) ∧ ¬ (s < 6) ∧ Value.null = r ∧ h = h')) := by
      refine am_of (lv := [some (.ref 8), some (.int s)]) rfl (Nat.le_of_ble_eq_true rfl) rfl ?_
      refine aw_iload_n (pc' := 1) dX11_shelfOf_0 rfl rfl ?_
      refine aw_zlt (tgt := 10) (pc' := 4) dX11_shelfOf_1 (by decide) rfl (fun c14 => ?_) (fun c14 => ?_)
      · refine aw_null (pc' := 11) dX11_shelfOf_10 rfl ?_
        refine aw_goto (tgt := 20) dX11_shelfOf_11 (by decide) ?_
        exact aw_ra dX11_shelfOf_20 rfl (Or.inl ⟨_, rfl⟩) rfl (Nat.le_of_ble_eq_true rfl) (Nat.le_of_ble_eq_true rfl) (Or.inl ⟨c14, rfl, rfl⟩)
      · refine aw_iload_n (pc' := 5) dX11_shelfOf_4 rfl rfl ?_
        refine aw_bipush (v := 6) (pc' := 7) dX11_shelfOf_5 rfl (by decide) ?_
        refine aw_clt (tgt := 14) (pc' := 10) dX11_shelfOf_7 (by decide) rfl (fun c15 => ?_) (fun c15 => ?_)
        · refine aw_aload_n (pc' := 15) dX11_shelfOf_14 rfl rfl rfl ?_
          refine aw_get clsAll (pc' := 18) dX11_shelfOf_15 rfl fl_RX11_89 hx.1 rfl ?_
          refine aw_iload_n (pc' := 19) dX11_shelfOf_18 rfl rfl ?_
          rcases six_ c14 c15 with rfl | rfl | rfl | rfl | rfl | rfl
          · refine aw_aald (v := .ref 55) (pc' := 20) dX11_shelfOf_19 rfl ((hx.2 46 (by decide) (by decide)).trans h0_46) (by decide) rfl (vpc (by decide)) rfl ?_
            exact aw_ra dX11_shelfOf_20 rfl (Or.inl ⟨_, rfl⟩) rfl (Nat.le_of_ble_eq_true rfl) (Nat.le_of_ble_eq_true rfl) (Or.inr (Or.inl ⟨rfl, rfl, rfl⟩))
          · refine aw_aald (v := .ref 57) (pc' := 20) dX11_shelfOf_19 rfl ((hx.2 46 (by decide) (by decide)).trans h0_46) (by decide) rfl (vpc (by decide)) rfl ?_
            exact aw_ra dX11_shelfOf_20 rfl (Or.inl ⟨_, rfl⟩) rfl (Nat.le_of_ble_eq_true rfl) (Nat.le_of_ble_eq_true rfl) (Or.inr (Or.inr (Or.inl ⟨rfl, rfl, rfl⟩)))
          · refine aw_aald (v := .ref 59) (pc' := 20) dX11_shelfOf_19 rfl ((hx.2 46 (by decide) (by decide)).trans h0_46) (by decide) rfl (vpc (by decide)) rfl ?_
            exact aw_ra dX11_shelfOf_20 rfl (Or.inl ⟨_, rfl⟩) rfl (Nat.le_of_ble_eq_true rfl) (Nat.le_of_ble_eq_true rfl) (Or.inr (Or.inr (Or.inr (Or.inl ⟨rfl, rfl, rfl⟩))))
          · refine aw_aald (v := .ref 61) (pc' := 20) dX11_shelfOf_19 rfl ((hx.2 46 (by decide) (by decide)).trans h0_46) (by decide) rfl (vpc (by decide)) rfl ?_
            exact aw_ra dX11_shelfOf_20 rfl (Or.inl ⟨_, rfl⟩) rfl (Nat.le_of_ble_eq_true rfl) (Nat.le_of_ble_eq_true rfl) (Or.inr (Or.inr (Or.inr (Or.inr (Or.inl ⟨rfl, rfl, rfl⟩)))))
          · refine aw_aald (v := .ref 63) (pc' := 20) dX11_shelfOf_19 rfl ((hx.2 46 (by decide) (by decide)).trans h0_46) (by decide) rfl (vpc (by decide)) rfl ?_
            exact aw_ra dX11_shelfOf_20 rfl (Or.inl ⟨_, rfl⟩) rfl (Nat.le_of_ble_eq_true rfl) (Nat.le_of_ble_eq_true rfl) (Or.inr (Or.inr (Or.inr (Or.inr (Or.inr (Or.inl ⟨rfl, rfl, rfl⟩))))))
          · refine aw_aald (v := .ref 65) (pc' := 20) dX11_shelfOf_19 rfl ((hx.2 46 (by decide) (by decide)).trans h0_46) (by decide) rfl (vpc (by decide)) rfl ?_
            exact aw_ra dX11_shelfOf_20 rfl (Or.inl ⟨_, rfl⟩) rfl (Nat.le_of_ble_eq_true rfl) (Nat.le_of_ble_eq_true rfl) (Or.inr (Or.inr (Or.inr (Or.inr (Or.inr (Or.inr (Or.inl ⟨rfl, rfl, rfl⟩)))))))
        · refine aw_null (pc' := 11) dX11_shelfOf_10 rfl ?_
          refine aw_goto (tgt := 20) dX11_shelfOf_11 (by decide) ?_
          exact aw_ra dX11_shelfOf_20 rfl (Or.inl ⟨_, rfl⟩) rfl (Nat.le_of_ble_eq_true rfl) (Nat.le_of_ble_eq_true rfl) (Or.inr (Or.inr (Or.inr (Or.inr (Or.inr (Or.inr (Or.inr ⟨c14, c15, rfl, rfl⟩)))))))
    refine aw_callVa (M' := mX11_shelfOf) (nc' := 0) (ns' := 0) (pc' := 15) dX11_log_12 rfl ml_RX11_190 kX11_shelfOf cc13 hx.1 rfl rfl rfl (Nat.le_of_ble_eq_true rfl) (rok rfl) rfl rfl (fun r19 h19 q19 => ?_)
    rcases q19 with ⟨c16, rfl, rfl⟩ | ⟨rfl, rfl, rfl⟩ | ⟨rfl, rfl, rfl⟩ | ⟨rfl, rfl, rfl⟩ | ⟨rfl, rfl, rfl⟩ | ⟨rfl, rfl, rfl⟩ | ⟨rfl, rfl, rfl⟩ | ⟨c17, c18, rfl, rfl⟩
    · refine aw_astore (lv' := [_, _, _, _, _, _, _, _]) (pc' := 17) dX11_log_15 rfl (Nat.le_of_ble_eq_true rfl) rfl rfl ?_
      refine aw_aload (pc' := 19) dX11_log_17 rfl rfl rfl ?_
      refine aw_ifnull_n (tgt := 48) dX11_log_19 (by decide) ?_
      refine aw_iconst (v := (-1)) (pc' := 49) dX11_log_48 rfl (by decide) ?_
      exact aw_ri dX11_log_49 rfl rfl (Nat.le_of_ble_eq_true rfl) (Nat.le_of_ble_eq_true rfl) ⟨(by first | (simp [sp_log, cnd, okC, okS, okW, okN, inR, n2_, n3_, n5_, n31_, c4, c16]; done) | (simp_all [sp_log, cnd, okC, okS, okW, okN, inR, n2_, n3_, n5_, n31_]; done) | skip), sm_rf⟩
    · refine aw_astore (lv' := [_, _, _, _, _, _, _, _]) (pc' := 17) dX11_log_15 rfl (Nat.le_of_ble_eq_true rfl) rfl rfl ?_
      refine aw_aload (pc' := 19) dX11_log_17 rfl rfl rfl ?_
      refine aw_ifnull_n (tgt := 48) dX11_log_19 (by decide) ?_
      refine aw_iconst (v := (-1)) (pc' := 49) dX11_log_48 rfl (by decide) ?_
      exact aw_ri dX11_log_49 rfl rfl (Nat.le_of_ble_eq_true rfl) (Nat.le_of_ble_eq_true rfl) ⟨(by first | (simp [sp_log, cnd, okC, okS, okW, okN, inR, n2_, n3_, n5_, n31_, c4]; done) | (simp_all [sp_log, cnd, okC, okS, okW, okN, inR, n2_, n3_, n5_, n31_]; done) | skip), sm_rf⟩
    · refine aw_astore (lv' := [_, _, _, _, _, _, _, _]) (pc' := 17) dX11_log_15 rfl (Nat.le_of_ble_eq_true rfl) rfl rfl ?_
      refine aw_aload (pc' := 19) dX11_log_17 rfl rfl rfl ?_
      refine aw_ifnull_n (tgt := 48) dX11_log_19 (by decide) ?_
      refine aw_iconst (v := (-1)) (pc' := 49) dX11_log_48 rfl (by decide) ?_
      exact aw_ri dX11_log_49 rfl rfl (Nat.le_of_ble_eq_true rfl) (Nat.le_of_ble_eq_true rfl) ⟨(by first | (simp [sp_log, cnd, okC, okS, okW, okN, inR, n2_, n3_, n5_, n31_, c4]; done) | (simp_all [sp_log, cnd, okC, okS, okW, okN, inR, n2_, n3_, n5_, n31_]; done) | skip), sm_rf⟩
    · refine aw_astore (lv' := [_, _, _, _, _, _, _, _]) (pc' := 17) dX11_log_15 rfl (Nat.le_of_ble_eq_true rfl) rfl rfl ?_
      refine aw_aload (pc' := 19) dX11_log_17 rfl rfl rfl ?_
      refine aw_ifnull_n (tgt := 48) dX11_log_19 (by decide) ?_
      refine aw_iconst (v := (-1)) (pc' := 49) dX11_log_48 rfl (by decide) ?_
      exact aw_ri dX11_log_49 rfl rfl (Nat.le_of_ble_eq_true rfl) (Nat.le_of_ble_eq_true rfl) ⟨(by first | (simp [sp_log, cnd, okC, okS, okW, okN, inR, n2_, n3_, n5_, n31_, c4]; done) | (simp_all [sp_log, cnd, okC, okS, okW, okN, inR, n2_, n3_, n5_, n31_]; done) | skip), sm_rf⟩
    · refine aw_astore (lv' := [_, _, _, _, _, _, _, _]) (pc' := 17) dX11_log_15 rfl (Nat.le_of_ble_eq_true rfl) rfl rfl ?_
      refine aw_aload (pc' := 19) dX11_log_17 rfl rfl rfl ?_
      refine aw_ifnull_n (tgt := 48) dX11_log_19 (by decide) ?_
      refine aw_iconst (v := (-1)) (pc' := 49) dX11_log_48 rfl (by decide) ?_
      exact aw_ri dX11_log_49 rfl rfl (Nat.le_of_ble_eq_true rfl) (Nat.le_of_ble_eq_true rfl) ⟨(by first | (simp [sp_log, cnd, okC, okS, okW, okN, inR, n2_, n3_, n5_, n31_, c4]; done) | (simp_all [sp_log, cnd, okC, okS, okW, okN, inR, n2_, n3_, n5_, n31_]; done) | skip), sm_rf⟩
    · refine aw_astore (lv' := [_, _, _, _, _, _, _, _]) (pc' := 17) dX11_log_15 rfl (Nat.le_of_ble_eq_true rfl) rfl rfl ?_
      refine aw_aload (pc' := 19) dX11_log_17 rfl rfl rfl ?_
      refine aw_ifnull_n (tgt := 48) dX11_log_19 (by decide) ?_
      refine aw_iconst (v := (-1)) (pc' := 49) dX11_log_48 rfl (by decide) ?_
      exact aw_ri dX11_log_49 rfl rfl (Nat.le_of_ble_eq_true rfl) (Nat.le_of_ble_eq_true rfl) ⟨(by first | (simp [sp_log, cnd, okC, okS, okW, okN, inR, n2_, n3_, n5_, n31_, c4]; done) | (simp_all [sp_log, cnd, okC, okS, okW, okN, inR, n2_, n3_, n5_, n31_]; done) | skip), sm_rf⟩
    · refine aw_astore (lv' := [_, _, _, _, _, _, _, _]) (pc' := 17) dX11_log_15 rfl (Nat.le_of_ble_eq_true rfl) rfl rfl ?_
      refine aw_aload (pc' := 19) dX11_log_17 rfl rfl rfl ?_
      refine aw_ifnull_n (tgt := 48) dX11_log_19 (by decide) ?_
      refine aw_iconst (v := (-1)) (pc' := 49) dX11_log_48 rfl (by decide) ?_
      exact aw_ri dX11_log_49 rfl rfl (Nat.le_of_ble_eq_true rfl) (Nat.le_of_ble_eq_true rfl) ⟨(by first | (simp [sp_log, cnd, okC, okS, okW, okN, inR, n2_, n3_, n5_, n31_, c4]; done) | (simp_all [sp_log, cnd, okC, okS, okW, okN, inR, n2_, n3_, n5_, n31_]; done) | skip), sm_rf⟩
    · refine aw_astore (lv' := [_, _, _, _, _, _, _, _]) (pc' := 17) dX11_log_15 rfl (Nat.le_of_ble_eq_true rfl) rfl rfl ?_
      refine aw_aload (pc' := 19) dX11_log_17 rfl rfl rfl ?_
      refine aw_ifnull_n (tgt := 48) dX11_log_19 (by decide) ?_
      refine aw_iconst (v := (-1)) (pc' := 49) dX11_log_48 rfl (by decide) ?_
      exact aw_ri dX11_log_49 rfl rfl (Nat.le_of_ble_eq_true rfl) (Nat.le_of_ble_eq_true rfl) ⟨(by first | (simp [sp_log, cnd, okC, okS, okW, okN, inR, n2_, n3_, n5_, n31_, c4, c17, c18]; done) | (simp_all [sp_log, cnd, okC, okS, okW, okN, inR, n2_, n3_, n5_, n31_]; done) | skip), sm_rf⟩
