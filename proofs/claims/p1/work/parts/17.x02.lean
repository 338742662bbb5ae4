set_option maxRecDepth 4000 in
theorem x_down (h : List aE) (hx : Fx 0 h) (hlen : h.length = 126) (b : Int32) (w : Int32) (t : Int32) : AM mX11_down 1 [.ref 8, .int b, .int w, .int t] h 0 0 (PI fun r h' => r = sp_down b w t ∧ Sm h h') := by
  refine am_of (lv := [some (.ref 8), some (.int b), some (.int w), some (.int t), none]) rfl (Nat.le_of_ble_eq_true rfl) rfl ?_
  refine aw_aload_n (pc' := 1) dX11_down_0 rfl rfl rfl ?_
  refine aw_get clsAll (pc' := 4) dX11_down_1 rfl fl_RX11_28 hx.1 rfl ?_
  refine aw_iload_n (pc' := 5) dX11_down_4 rfl rfl ?_
  have cc1 : AM mX0_holeOf 0 [.ref 23, .int b] h 0 0 (PA fun r h' => (b < 0 ∧ Value.null = r ∧ h = h') ∨ (¬ (b < 0) ∧ Value.null = r ∧ h = h')) := by
    refine am_of (lv := [some (.ref 23), some (.int b)]) rfl (Nat.le_of_ble_eq_true rfl) rfl ?_
    refine aw_iload_n (pc' := 1) dX0_holeOf_0 rfl rfl ?_
    refine aw_zlt (tgt := 12) (pc' := 4) dX0_holeOf_1 (by decide) rfl (fun c2 => ?_) (fun c2 => ?_)
    · refine aw_null (pc' := 13) dX0_holeOf_12 rfl ?_
      refine aw_goto (tgt := 22) dX0_holeOf_13 (by decide) ?_
      exact aw_ra dX0_holeOf_22 rfl (Or.inl ⟨_, rfl⟩) rfl (Nat.le_of_ble_eq_true rfl) (Nat.le_of_ble_eq_true rfl) (Or.inl ⟨c2, rfl, rfl⟩)
    · refine aw_iload_n (pc' := 5) dX0_holeOf_4 rfl rfl ?_
      refine aw_aload_n (pc' := 6) dX0_holeOf_5 rfl rfl rfl ?_
      refine aw_get clsAll (pc' := 9) dX0_holeOf_6 rfl fl_RX0_32 ((hx.2 15 (by decide) (by decide)).trans h0_15) rfl ?_
      refine aw_clt (tgt := 16) (pc' := 12) dX0_holeOf_9 (by decide) rfl (fun c => absurd c c2) (fun _ => ?_)
      refine aw_null (pc' := 13) dX0_holeOf_12 rfl ?_
      refine aw_goto (tgt := 22) dX0_holeOf_13 (by decide) ?_
      exact aw_ra dX0_holeOf_22 rfl (Or.inl ⟨_, rfl⟩) rfl (Nat.le_of_ble_eq_true rfl) (Nat.le_of_ble_eq_true rfl) (Or.inr ⟨c2, rfl, rfl⟩)
  refine aw_callVa (M' := mX0_holeOf) (nc' := 0) (ns' := 0) (pc' := 8) dX11_down_5 rfl ml_RX11_139 kX0_holeOf cc1 ((hx.2 15 (by decide) (by decide)).trans h0_15) rfl rfl rfl (Nat.le_of_ble_eq_true rfl) (rok rfl) rfl rfl (fun r5 h5 q5 => ?_)
  rcases q5 with ⟨c3, rfl, rfl⟩ | ⟨c4, rfl, rfl⟩
  · refine aw_astore (lv' := [_, _, _, _, _]) (pc' := 10) dX11_down_8 rfl (Nat.le_of_ble_eq_true rfl) rfl rfl ?_
    refine aw_aload (pc' := 12) dX11_down_10 rfl rfl rfl ?_
    refine aw_ifnull_n (tgt := 45) dX11_down_12 (by decide) ?_
    refine aw_iconst (v := (-1)) (pc' := 46) dX11_down_45 rfl (by decide) ?_
    exact aw_ri dX11_down_46 rfl rfl (Nat.le_of_ble_eq_true rfl) (Nat.le_of_ble_eq_true rfl) ⟨(by first | (simp [sp_down, cnd, okC, okS, okW, okN, inR, n2_, n3_, n5_, n31_, c3]; done) | (simp_all [sp_down, cnd, okC, okS, okW, okN, inR, n2_, n3_, n5_, n31_]; done) | skip), sm_rf⟩
  · refine aw_astore (lv' := [_, _, _, _, _]) (pc' := 10) dX11_down_8 rfl (Nat.le_of_ble_eq_true rfl) rfl rfl ?_
    refine aw_aload (pc' := 12) dX11_down_10 rfl rfl rfl ?_
    refine aw_ifnull_n (tgt := 45) dX11_down_12 (by decide) ?_
    refine aw_iconst (v := (-1)) (pc' := 46) dX11_down_45 rfl (by decide) ?_
    exact aw_ri dX11_down_46 rfl rfl (Nat.le_of_ble_eq_true rfl) (Nat.le_of_ble_eq_true rfl) ⟨(by first | (simp [sp_down, cnd, okC, okS, okW, okN, inR, n2_, n3_, n5_, n31_, c4]; done) | (simp_all [sp_down, cnd, okC, okS, okW, okN, inR, n2_, n3_, n5_, n31_]; done) | skip), sm_rf⟩
set_option maxRecDepth 4000 in
theorem x_below (h : List aE) (hx : Fx 0 h) (hlen : h.length = 126) (s : Int32) : AM mX11_below 0 [.ref 8, .int s] h 0 0 (PI fun r h' => r = sp_below s ∧ Sm h h') := by
  refine am_of (lv := [some (.ref 8), some (.int s)]) rfl (Nat.le_of_ble_eq_true rfl) rfl ?_
  refine aw_iload_n (pc' := 1) dX11_below_0 rfl rfl ?_
  refine aw_zlt (tgt := 10) (pc' := 4) dX11_below_1 (by decide) rfl (fun c1 => ?_) (fun c1 => ?_)
  · refine aw_iconst (v := (-1)) (pc' := 11) dX11_below_10 rfl (by decide) ?_
    exact aw_ri dX11_below_11 rfl rfl (Nat.le_of_ble_eq_true rfl) (Nat.le_of_ble_eq_true rfl) ⟨(by first | (simp [sp_below, cnd, okC, okS, okW, okN, inR, n2_, n3_, n5_, n31_, c1]; done) | (simp_all [sp_below, cnd, okC, okS, okW, okN, inR, n2_, n3_, n5_, n31_]; done) | skip), sm_rf⟩
  · refine aw_iload_n (pc' := 5) dX11_below_4 rfl rfl ?_
    refine aw_bipush (v := 9) (pc' := 7) dX11_below_5 rfl (by decide) ?_
    refine aw_cle (tgt := 12) (pc' := 10) dX11_below_7 (by decide) rfl (fun c2 => ?_) (fun c2 => ?_)
    · refine aw_iload_n (pc' := 13) dX11_below_12 rfl rfl ?_
      refine aw_if_ne (tgt := 26) (pc' := 16) dX11_below_13 (by decide) rfl (fun c3 => ?_) (fun c3 => ?_)
      · refine aw_aload_n (pc' := 27) dX11_below_26 rfl rfl rfl ?_
        refine aw_get clsAll (pc' := 30) dX11_below_27 rfl fl_RX11_76 hx.1 rfl ?_
        refine aw_get clsAll (pc' := 33) dX11_below_30 rfl fl_RX11_320 ((hx.2 30 (by decide) (by decide)).trans h0_30) rfl ?_
        refine aw_iload_n (pc' := 34) dX11_below_33 rfl rfl ?_
        refine aw_iald (v := 0) (pc' := 35) dX11_below_34 rfl ((hx.2 31 (by decide) (by decide)).trans h0_31) (ix_ (hi := 9) (b := 9) rfl (by decide) c1 c2) rfl ?_
        exact aw_ri dX11_below_35 rfl rfl (Nat.le_of_ble_eq_true rfl) (Nat.le_of_ble_eq_true rfl) ⟨(by first | (simp [sp_below, cnd, okC, okS, okW, okN, inR, n2_, n3_, n5_, n31_, c1, c2, c3]; done) | (simp_all [sp_below, cnd, okC, okS, okW, okN, inR, n2_, n3_, n5_, n31_]; done) | skip), sm_rf⟩
      · refine aw_aload_n (pc' := 17) dX11_below_16 rfl rfl rfl ?_
        refine aw_get clsAll (pc' := 20) dX11_below_17 rfl fl_RX11_76 hx.1 rfl ?_
        refine aw_get clsAll (pc' := 23) dX11_below_20 rfl fl_RX11_295 ((hx.2 30 (by decide) (by decide)).trans h0_30) rfl ?_
        refine aw_goto (tgt := 35) dX11_below_23 (by decide) ?_
        exact aw_ri dX11_below_35 rfl rfl (Nat.le_of_ble_eq_true rfl) (Nat.le_of_ble_eq_true rfl) ⟨(by first | (simp [sp_below, cnd, okC, okS, okW, okN, inR, n2_, n3_, n5_, n31_, c1, c2, c3]; done) | (simp_all [sp_below, cnd, okC, okS, okW, okN, inR, n2_, n3_, n5_, n31_]; done) | skip), sm_rf⟩
    · refine aw_iconst (v := (-1)) (pc' := 11) dX11_below_10 rfl (by decide) ?_
      exact aw_ri dX11_below_11 rfl rfl (Nat.le_of_ble_eq_true rfl) (Nat.le_of_ble_eq_true rfl) ⟨(by first | (simp [sp_below, cnd, okC, okS, okW, okN, inR, n2_, n3_, n5_, n31_, c1, c2]; done) | (simp_all [sp_below, cnd, okC, okS, okW, okN, inR, n2_, n3_, n5_, n31_]; done) | skip), sm_rf⟩
set_option maxRecDepth 4000 in
theorem x_need (h : List aE) (hx : Fx 0 h) (hlen : h.length = 126) (w : Int32) (n : Int32) : AM mX11_need 1 [.ref 8, .int w, .int n] h 0 0 (PI fun r h' => r = sp_need w n ∧ Sm h h') := by
  refine am_of (lv := [some (.ref 8), some (.int w), some (.int n)]) rfl (Nat.le_of_ble_eq_true rfl) rfl ?_
  refine aw_iload_n (pc' := 1) dX11_need_0 rfl rfl ?_
  refine aw_bipush (v := 100) (pc' := 3) dX11_need_1 rfl (by decide) ?_
  refine aw_clt (tgt := 30) (pc' := 6) dX11_need_3 (by decide) rfl (fun c1 => ?_) (fun c1 => ?_)
  · refine aw_iconst (v := (-1)) (pc' := 31) dX11_need_30 rfl (by decide) ?_
    exact aw_ri dX11_need_31 rfl rfl (Nat.le_of_ble_eq_true rfl) (Nat.le_of_ble_eq_true rfl) ⟨(by first | (simp [sp_need, cnd, okC, okS, okW, okN, inR, n2_, n3_, n5_, n31_, c1]; done) | (simp_all [sp_need, cnd, okC, okS, okW, okN, inR, n2_, n3_, n5_, n31_]; done) | skip), sm_rf⟩
  · refine aw_iload_n (pc' := 7) dX11_need_6 rfl rfl ?_
    refine aw_sipush (v := 999) (pc' := 10) dX11_need_7 rfl (by decide) ?_
    refine aw_cgt (tgt := 30) (pc' := 13) dX11_need_10 (by decide) rfl (fun c2 => ?_) (fun c2 => ?_)
    · refine aw_iconst (v := (-1)) (pc' := 31) dX11_need_30 rfl (by decide) ?_
      exact aw_ri dX11_need_31 rfl rfl (Nat.le_of_ble_eq_true rfl) (Nat.le_of_ble_eq_true rfl) ⟨(by first | (simp [sp_need, cnd, okC, okS, okW, okN, inR, n2_, n3_, n5_, n31_, c1, c2]; done) | (simp_all [sp_need, cnd, okC, okS, okW, okN, inR, n2_, n3_, n5_, n31_]; done) | skip), sm_rf⟩
    · refine aw_iload_n (pc' := 14) dX11_need_13 rfl rfl ?_
      refine aw_bipush (v := 100) (pc' := 16) dX11_need_14 rfl (by decide) ?_
      refine aw_irem (pc' := 17) dX11_need_16 rfl (by decide) ?_
      refine aw_if_eq (tgt := 30) (pc' := 20) dX11_need_17 (by decide) rfl (fun c3 => ?_) (fun c3 => ?_)
      · refine aw_iconst (v := (-1)) (pc' := 31) dX11_need_30 rfl (by decide) ?_
        exact aw_ri dX11_need_31 rfl rfl (Nat.le_of_ble_eq_true rfl) (Nat.le_of_ble_eq_true rfl) ⟨(by first | (simp [sp_need, cnd, okC, okS, okW, okN, inR, n2_, n3_, n5_, n31_, c1, c2, c3]; done) | (simp_all [sp_need, cnd, okC, okS, okW, okN, inR, n2_, n3_, n5_, n31_]; done) | skip), sm_rf⟩
      · refine aw_iload_n (pc' := 21) dX11_need_20 rfl rfl ?_
        refine aw_zlt (tgt := 30) (pc' := 24) dX11_need_21 (by decide) rfl (fun c4 => ?_) (fun c4 => ?_)
        · refine aw_iconst (v := (-1)) (pc' := 31) dX11_need_30 rfl (by decide) ?_
          exact aw_ri dX11_need_31 rfl rfl (Nat.le_of_ble_eq_true rfl) (Nat.le_of_ble_eq_true rfl) ⟨(by first | (simp [sp_need, cnd, okC, okS, okW, okN, inR, n2_, n3_, n5_, n31_, c1, c2, c3, c4]; done) | (simp_all [sp_need, cnd, okC, okS, okW, okN, inR, n2_, n3_, n5_, n31_]; done) | skip), sm_rf⟩
        · refine aw_iload_n (pc' := 25) dX11_need_24 rfl rfl ?_
          refine aw_bipush (v := 99) (pc' := 27) dX11_need_25 rfl (by decide) ?_
          refine aw_cle (tgt := 32) (pc' := 30) dX11_need_27 (by decide) rfl (fun c5 => ?_) (fun c5 => ?_)
          · refine aw_aload_n (pc' := 33) dX11_need_32 rfl rfl rfl ?_
            refine aw_get clsAll (pc' := 36) dX11_need_33 rfl fl_RX11_83 hx.1 rfl ?_
            refine aw_iload_n (pc' := 37) dX11_need_36 rfl rfl ?_
            refine aw_bipush (v := 100) (pc' := 39) dX11_need_37 rfl (by decide) ?_
            refine aw_idiv (pc' := 40) dX11_need_39 rfl (by decide) ?_
            refine aw_iload_n (pc' := 41) dX11_need_40 rfl rfl ?_
            refine aw_bipush (v := 100) (pc' := 43) dX11_need_41 rfl (by decide) ?_
            refine aw_irem (pc' := 44) dX11_need_43 rfl (by decide) ?_
            refine aw_iload_n (pc' := 45) dX11_need_44 rfl rfl ?_
            have cc6 : AM mX6_needTold 0 [.ref 42, .int (w / 100), .int (w % 100), .int n] h 0 0 (PI fun r h' => (1 = r ∧ ∃ h11 : List aE, h.set 35 (.inl (0, 10, .inl (upd (fun _ => 0) (0 : Int32).toNatClampNeg (w / 100)))) = h11 ∧ ∃ h12 : List aE, h11.set 36 (.inl (0, 10, .inl (upd (fun _ => 0) (0 : Int32).toNatClampNeg (w % 100)))) = h12 ∧ ∃ h13 : List aE, h12.set 37 (.inl (0, 10, .inl (upd (fun _ => 0) (0 : Int32).toNatClampNeg n))) = h13 ∧ ∃ h14 : List aE, h13.set 34 (.inr (6, [.ref 43, .ref 44, .ref 45, .int 1, .ref 46, .ref 47, .ref 48, .int 0, .ref 49, .int 0, .ref 50, .ref 51, .ref 52, .ref 53, .int 0])) = h14 ∧ h14 = h')) := by
              refine am_of (lv := [some (.ref 42), some (.int (w / 100)), some (.int (w % 100)), some (.int n)]) rfl (Nat.le_of_ble_eq_true rfl) rfl ?_
              refine aw_aload_n (pc' := 1) dX6_needTold_0 rfl rfl rfl ?_
              refine aw_get clsAll (pc' := 4) dX6_needTold_1 rfl fl_RX6_51 ((hx.2 34 (by decide) (by decide)).trans h0_34) rfl ?_
              refine aw_bipush (v := 10) (pc' := 6) dX6_needTold_4 rfl (by decide) ?_
              refine aw_clt (tgt := 12) (pc' := 9) dX6_needTold_6 (by decide) rfl (fun _ => ?_) (fun c => absurd (by decide) c)
              refine aw_aload_n (pc' := 13) dX6_needTold_12 rfl rfl rfl ?_
              refine aw_get clsAll (pc' := 16) dX6_needTold_13 rfl fl_RX6_11 ((hx.2 34 (by decide) (by decide)).trans h0_34) rfl ?_
              refine aw_aload_n (pc' := 17) dX6_needTold_16 rfl rfl rfl ?_
              refine aw_get clsAll (pc' := 20) dX6_needTold_17 rfl fl_RX6_51 ((hx.2 34 (by decide) (by decide)).trans h0_34) rfl ?_
              refine aw_iload_n (pc' := 21) dX6_needTold_20 rfl rfl ?_
              refine aw_iastG (pc' := 22) dX6_needTold_21 rfl ((hx.2 35 (by decide) (by decide)).trans h0_35) (vpc (by decide)) (fun h7 e7 => ?_)
              refine aw_aload_n (pc' := 23) dX6_needTold_22 rfl rfl rfl ?_
              refine aw_get clsAll (pc' := 26) dX6_needTold_23 rfl fl_RX6_15 (gsn e7 (by decide) ((hx.2 34 (by decide) (by decide)).trans h0_34)) rfl ?_
              refine aw_aload_n (pc' := 27) dX6_needTold_26 rfl rfl rfl ?_
              refine aw_get clsAll (pc' := 30) dX6_needTold_27 rfl fl_RX6_51 (gsn e7 (by decide) ((hx.2 34 (by decide) (by decide)).trans h0_34)) rfl ?_
              refine aw_iload_n (pc' := 31) dX6_needTold_30 rfl rfl ?_
              refine aw_iastG (pc' := 32) dX6_needTold_31 rfl (gsn e7 (by decide) ((hx.2 36 (by decide) (by decide)).trans h0_36)) (vpc (by decide)) (fun h8 e8 => ?_)
              refine aw_aload_n (pc' := 33) dX6_needTold_32 rfl rfl rfl ?_
              refine aw_get clsAll (pc' := 36) dX6_needTold_33 rfl fl_RX6_18 (gsn e8 (by decide) (gsn e7 (by decide) ((hx.2 34 (by decide) (by decide)).trans h0_34))) rfl ?_
              refine aw_aload_n (pc' := 37) dX6_needTold_36 rfl rfl rfl ?_
              refine aw_get clsAll (pc' := 40) dX6_needTold_37 rfl fl_RX6_51 (gsn e8 (by decide) (gsn e7 (by decide) ((hx.2 34 (by decide) (by decide)).trans h0_34))) rfl ?_
              refine aw_iload_n (pc' := 41) dX6_needTold_40 rfl rfl ?_
              refine aw_iastG (pc' := 42) dX6_needTold_41 rfl (gsn e8 (by decide) (gsn e7 (by decide) ((hx.2 37 (by decide) (by decide)).trans h0_37))) (vpc (by decide)) (fun h9 e9 => ?_)
              refine aw_aload_n (pc' := 43) dX6_needTold_42 rfl rfl rfl ?_
              refine aw_dup (pc' := 44) dX6_needTold_43 rfl rfl ?_
              refine aw_get clsAll (pc' := 47) dX6_needTold_44 rfl fl_RX6_51 (gsn e9 (by decide) (gsn e8 (by decide) (gsn e7 (by decide) ((hx.2 34 (by decide) (by decide)).trans h0_34)))) rfl ?_
              refine aw_iconst (v := 1) (pc' := 48) dX6_needTold_47 rfl (by decide) ?_
              refine aw_iadd (pc' := 49) dX6_needTold_48 rfl ?_
              refine aw_topi (v := 1) (by decide) ?_
              refine aw_putG clsAll (pc' := 52) dX6_needTold_49 rfl fl_RX6_51 (gsn e9 (by decide) (gsn e8 (by decide) (gsn e7 (by decide) ((hx.2 34 (by decide) (by decide)).trans h0_34)))) (Nat.le_of_ble_eq_true rfl) rfl (fun h10 e10 => ?_)
              refine aw_aload_n (pc' := 53) dX6_needTold_52 rfl rfl rfl ?_
              refine aw_get clsAll (pc' := 56) dX6_needTold_53 rfl fl_RX6_51 (gss e10 (gsn e9 (by decide) (gsn e8 (by decide) (gsn e7 (by decide) ((hx.2 34 (by decide) (by decide)).trans h0_34))))) rfl ?_
              exact aw_ri dX6_needTold_56 rfl rfl (Nat.le_of_ble_eq_true rfl) (Nat.le_of_ble_eq_true rfl) ⟨rfl, h7, e7, h8, e8, h9, e9, h10, e10, rfl⟩
            refine aw_callVi (M' := mX6_needTold) (nc' := 0) (ns' := 0) (pc' := 48) dX11_need_45 rfl ml_RX11_323 kX6_needTold cc6 ((hx.2 34 (by decide) (by decide)).trans h0_34) rfl rfl rfl (Nat.le_of_ble_eq_true rfl) (rok rfl) rfl rfl (fun r15 h15 q15 => ?_)
            obtain ⟨rfl, h11, e11, h12, e12, h13, e13, h14, e14, rfl⟩ := q15
            exact aw_ri dX11_need_48 rfl rfl (Nat.le_of_ble_eq_true rfl) (Nat.le_of_ble_eq_true rfl) ⟨(by first | (simp [sp_need, cnd, okC, okS, okW, okN, inR, n2_, n3_, n5_, n31_, c1, c2, c3, c4, c5]; done) | (simp_all [sp_need, cnd, okC, okS, okW, okN, inR, n2_, n3_, n5_, n31_]; done) | skip), (sm_set e14 (by decide) (sm_set e13 (by decide) (sm_set e12 (by decide) (sm_set e11 (by decide) sm_rf))))⟩
          · refine aw_iconst (v := (-1)) (pc' := 31) dX11_need_30 rfl (by decide) ?_
            exact aw_ri dX11_need_31 rfl rfl (Nat.le_of_ble_eq_true rfl) (Nat.le_of_ble_eq_true rfl) ⟨(by first | (simp [sp_need, cnd, okC, okS, okW, okN, inR, n2_, n3_, n5_, n31_, c1, c2, c3, c4, c5]; done) | (simp_all [sp_need, cnd, okC, okS, okW, okN, inR, n2_, n3_, n5_, n31_]; done) | skip), sm_rf⟩
set_option maxRecDepth 4000 in
theorem x_order (h : List aE) (hx : Fx 0 h) (hlen : h.length = 126)  : AM mX11_order 0 [.ref 8] h 0 0 (PI fun r h' => r = sp_order  ∧ Sm h h') := by
  refine am_of (lv := [some (.ref 8)]) rfl (Nat.le_of_ble_eq_true rfl) rfl ?_
  refine aw_aload_n (pc' := 1) dX11_order_0 rfl rfl rfl ?_
  refine aw_get clsAll (pc' := 4) dX11_order_1 rfl fl_RX11_83 hx.1 rfl ?_
  refine aw_get clsAll (pc' := 7) dX11_order_4 rfl fl_RX11_326 ((hx.2 34 (by decide) (by decide)).trans h0_34) rfl ?_
  refine aw_if_ne (tgt := 14) (pc' := 10) dX11_order_7 (by decide) rfl (fun c => absurd (by decide) c) (fun _ => ?_)
  refine aw_iconst (v := (-1)) (pc' := 11) dX11_order_10 rfl (by decide) ?_
  refine aw_goto (tgt := 21) dX11_order_11 (by decide) ?_
  exact aw_ri dX11_order_21 rfl rfl (Nat.le_of_ble_eq_true rfl) (Nat.le_of_ble_eq_true rfl) ⟨(by first | (simp [sp_order, cnd, okC, okS, okW, okN, inR, n2_, n3_, n5_, n31_]; done) | (simp_all [sp_order, cnd, okC, okS, okW, okN, inR, n2_, n3_, n5_, n31_]; done) | skip), sm_rf⟩
set_option maxRecDepth 4000 in
theorem x_ordered (h : List aE) (hx : Fx 0 h) (hlen : h.length = 126) (i : Int32) : AM mX11_ordered 0 [.ref 8, .int i] h 0 0 (PI fun r h' => r = sp_ordered i ∧ Sm h h') := by
  refine am_of (lv := [some (.ref 8), some (.int i)]) rfl (Nat.le_of_ble_eq_true rfl) rfl ?_
  refine aw_iload_n (pc' := 1) dX11_ordered_0 rfl rfl ?_
  refine aw_zlt (tgt := 15) (pc' := 4) dX11_ordered_1 (by decide) rfl (fun c1 => ?_) (fun c1 => ?_)
  · refine aw_iconst (v := (-1)) (pc' := 16) dX11_ordered_15 rfl (by decide) ?_
    refine aw_goto (tgt := 28) dX11_ordered_16 (by decide) ?_
    exact aw_ri dX11_ordered_28 rfl rfl (Nat.le_of_ble_eq_true rfl) (Nat.le_of_ble_eq_true rfl) ⟨(by first | (simp [sp_ordered, cnd, okC, okS, okW, okN, inR, n2_, n3_, n5_, n31_, c1]; done) | (simp_all [sp_ordered, cnd, okC, okS, okW, okN, inR, n2_, n3_, n5_, n31_]; done) | skip), sm_rf⟩
  · refine aw_iload_n (pc' := 5) dX11_ordered_4 rfl rfl ?_
    refine aw_aload_n (pc' := 6) dX11_ordered_5 rfl rfl rfl ?_
    refine aw_get clsAll (pc' := 9) dX11_ordered_6 rfl fl_RX11_83 hx.1 rfl ?_
    refine aw_get clsAll (pc' := 12) dX11_ordered_9 rfl fl_RX11_332 ((hx.2 34 (by decide) (by decide)).trans h0_34) rfl ?_
    refine aw_clt (tgt := 19) (pc' := 15) dX11_ordered_12 (by decide) rfl (fun c => absurd c c1) (fun _ => ?_)
    refine aw_iconst (v := (-1)) (pc' := 16) dX11_ordered_15 rfl (by decide) ?_
    refine aw_goto (tgt := 28) dX11_ordered_16 (by decide) ?_
    exact aw_ri dX11_ordered_28 rfl rfl (Nat.le_of_ble_eq_true rfl) (Nat.le_of_ble_eq_true rfl) ⟨(by first | (simp [sp_ordered, cnd, okC, okS, okW, okN, inR, n2_, n3_, n5_, n31_, c1]; done) | (simp_all [sp_ordered, cnd, okC, okS, okW, okN, inR, n2_, n3_, n5_, n31_]; done) | skip), sm_rf⟩
