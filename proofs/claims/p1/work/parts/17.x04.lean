set_option maxRecDepth 4000 in
theorem x_watched (h : List aE) (hx : Fx 0 h) (hlen : h.length = 126) (s : Int32) (p : Int32) : AM mX11_watched 0 [.ref 8, .int s, .int p] h 0 0 (PI fun r h' => r = sp_watched s p ∧ Sm h h') := by
  refine am_of (lv := [some (.ref 8), some (.int s), some (.int p)]) rfl (Nat.le_of_ble_eq_true rfl) rfl ?_
  refine aw_iload_n (pc' := 1) dX11_watched_0 rfl rfl ?_
  refine aw_zlt (tgt := 24) (pc' := 4) dX11_watched_1 (by decide) rfl (fun c1 => ?_) (fun c1 => ?_)
  · refine aw_iconst (v := (-1)) (pc' := 25) dX11_watched_24 rfl (by decide) ?_
    exact aw_ri dX11_watched_25 rfl rfl (Nat.le_of_ble_eq_true rfl) (Nat.le_of_ble_eq_true rfl) ⟨(by first | (simp [sp_watched, cnd, okC, okS, okW, okN, inR, n2_, n3_, n5_, n31_, c1]; done) | (simp_all [sp_watched, cnd, okC, okS, okW, okN, inR, n2_, n3_, n5_, n31_]; done) | skip), sm_rf⟩
  · refine aw_iload_n (pc' := 5) dX11_watched_4 rfl rfl ?_
    refine aw_iconst (v := 2) (pc' := 6) dX11_watched_5 rfl (by decide) ?_
    refine aw_cgt (tgt := 24) (pc' := 9) dX11_watched_6 (by decide) rfl (fun c2 => ?_) (fun c2 => ?_)
    · refine aw_iconst (v := (-1)) (pc' := 25) dX11_watched_24 rfl (by decide) ?_
      exact aw_ri dX11_watched_25 rfl rfl (Nat.le_of_ble_eq_true rfl) (Nat.le_of_ble_eq_true rfl) ⟨(by first | (simp [sp_watched, cnd, okC, okS, okW, okN, inR, n2_, n3_, n5_, n31_, c1, c2]; done) | (simp_all [sp_watched, cnd, okC, okS, okW, okN, inR, n2_, n3_, n5_, n31_]; done) | skip), sm_rf⟩
    · refine aw_iload_n (pc' := 10) dX11_watched_9 rfl rfl ?_
      refine aw_zlt (tgt := 24) (pc' := 13) dX11_watched_10 (by decide) rfl (fun c3 => ?_) (fun c3 => ?_)
      · refine aw_iconst (v := (-1)) (pc' := 25) dX11_watched_24 rfl (by decide) ?_
        exact aw_ri dX11_watched_25 rfl rfl (Nat.le_of_ble_eq_true rfl) (Nat.le_of_ble_eq_true rfl) ⟨(by first | (simp [sp_watched, cnd, okC, okS, okW, okN, inR, n2_, n3_, n5_, n31_, c1, c2, c3]; done) | (simp_all [sp_watched, cnd, okC, okS, okW, okN, inR, n2_, n3_, n5_, n31_]; done) | skip), sm_rf⟩
      · refine aw_iload_n (pc' := 14) dX11_watched_13 rfl rfl ?_
        refine aw_aload_n (pc' := 15) dX11_watched_14 rfl rfl rfl ?_
        refine aw_get clsAll (pc' := 18) dX11_watched_15 rfl fl_RX11_19 hx.1 rfl ?_
        refine aw_get clsAll (pc' := 21) dX11_watched_18 rfl fl_RX11_341 ((hx.2 6 (by decide) (by decide)).trans h0_6) rfl ?_
        refine aw_clt (tgt := 26) (pc' := 24) dX11_watched_21 (by decide) rfl (fun c => absurd c c3) (fun _ => ?_)
        refine aw_iconst (v := (-1)) (pc' := 25) dX11_watched_24 rfl (by decide) ?_
        exact aw_ri dX11_watched_25 rfl rfl (Nat.le_of_ble_eq_true rfl) (Nat.le_of_ble_eq_true rfl) ⟨(by first | (simp [sp_watched, cnd, okC, okS, okW, okN, inR, n2_, n3_, n5_, n31_, c1, c2, c3]; done) | (simp_all [sp_watched, cnd, okC, okS, okW, okN, inR, n2_, n3_, n5_, n31_]; done) | skip), sm_rf⟩
set_option maxRecDepth 4000 in
theorem x_aim (h : List aE) (hx : Fx 0 h) (hlen : h.length = 126) (c : Int32) (m : Int32) : AM mX11_aim 1 [.ref 8, .int c, .int m] h 0 0 (PI fun r h' => r = sp_aim c m ∧ Sm h h') := by
  refine am_of (lv := [some (.ref 8), some (.int c), some (.int m)]) rfl (Nat.le_of_ble_eq_true rfl) rfl ?_
  refine aw_iload_n (pc' := 1) dX11_aim_0 rfl rfl ?_
  refine aw_zlt (tgt := 20) (pc' := 4) dX11_aim_1 (by decide) rfl (fun c1 => ?_) (fun c1 => ?_)
  · refine aw_iconst (v := (-1)) (pc' := 21) dX11_aim_20 rfl (by decide) ?_
    exact aw_ri dX11_aim_21 rfl rfl (Nat.le_of_ble_eq_true rfl) (Nat.le_of_ble_eq_true rfl) ⟨(by first | (simp [sp_aim, cnd, okC, okS, okW, okN, inR, n2_, n3_, n5_, n31_, c1]; done) | (simp_all [sp_aim, cnd, okC, okS, okW, okN, inR, n2_, n3_, n5_, n31_]; done) | skip), sm_rf⟩
  · refine aw_iload_n (pc' := 5) dX11_aim_4 rfl rfl ?_
    refine aw_bipush (v := 32) (pc' := 7) dX11_aim_5 rfl (by decide) ?_
    refine aw_cge (tgt := 20) (pc' := 10) dX11_aim_7 (by decide) rfl (fun c2 => ?_) (fun c2 => ?_)
    · refine aw_iconst (v := (-1)) (pc' := 21) dX11_aim_20 rfl (by decide) ?_
      exact aw_ri dX11_aim_21 rfl rfl (Nat.le_of_ble_eq_true rfl) (Nat.le_of_ble_eq_true rfl) ⟨(by first | (simp [sp_aim, cnd, okC, okS, okW, okN, inR, n2_, n3_, n5_, n31_, c1, c2]; done) | (simp_all [sp_aim, cnd, okC, okS, okW, okN, inR, n2_, n3_, n5_, n31_]; done) | skip), sm_rf⟩
    · refine aw_iload_n (pc' := 11) dX11_aim_10 rfl rfl ?_
      refine aw_zlt (tgt := 20) (pc' := 14) dX11_aim_11 (by decide) rfl (fun c3 => ?_) (fun c3 => ?_)
      · refine aw_iconst (v := (-1)) (pc' := 21) dX11_aim_20 rfl (by decide) ?_
        exact aw_ri dX11_aim_21 rfl rfl (Nat.le_of_ble_eq_true rfl) (Nat.le_of_ble_eq_true rfl) ⟨(by first | (simp [sp_aim, cnd, okC, okS, okW, okN, inR, n2_, n3_, n5_, n31_, c1, c2, c3]; done) | (simp_all [sp_aim, cnd, okC, okS, okW, okN, inR, n2_, n3_, n5_, n31_]; done) | skip), sm_rf⟩
      · refine aw_iload_n (pc' := 15) dX11_aim_14 rfl rfl ?_
        refine aw_bipush (v := 9) (pc' := 17) dX11_aim_15 rfl (by decide) ?_
        refine aw_cle (tgt := 22) (pc' := 20) dX11_aim_17 (by decide) rfl (fun c4 => ?_) (fun c4 => ?_)
        · refine aw_aload_n (pc' := 23) dX11_aim_22 rfl rfl rfl ?_
          refine aw_get clsAll (pc' := 26) dX11_aim_23 rfl fl_RX11_83 hx.1 rfl ?_
          refine aw_iload_n (pc' := 27) dX11_aim_26 rfl rfl ?_
          have cc5 : AM mX6_aimTold 0 [.ref 42, .int m] h 0 0 (PI fun r h' => (1 = r ∧ ∃ h8 : List aE, h.set 41 (.inl (0, 6, .inl (upd (fun _ => 0) (0 : Int32).toNatClampNeg m))) = h8 ∧ ∃ h9 : List aE, h8.set 34 (.inr (6, [.ref 43, .ref 44, .ref 45, .int 0, .ref 46, .ref 47, .ref 48, .int 0, .ref 49, .int 1, .ref 50, .ref 51, .ref 52, .ref 53, .int 0])) = h9 ∧ h9 = h')) := by
            refine am_of (lv := [some (.ref 42), some (.int m)]) rfl (Nat.le_of_ble_eq_true rfl) rfl ?_
            refine aw_aload_n (pc' := 1) dX6_aimTold_0 rfl rfl rfl ?_
            refine aw_get clsAll (pc' := 4) dX6_aimTold_1 rfl fl_RX6_74 ((hx.2 34 (by decide) (by decide)).trans h0_34) rfl ?_
            refine aw_bipush (v := 6) (pc' := 6) dX6_aimTold_4 rfl (by decide) ?_
            refine aw_clt (tgt := 12) (pc' := 9) dX6_aimTold_6 (by decide) rfl (fun _ => ?_) (fun c => absurd (by decide) c)
            refine aw_aload_n (pc' := 13) dX6_aimTold_12 rfl rfl rfl ?_
            refine aw_get clsAll (pc' := 16) dX6_aimTold_13 rfl fl_RX6_30 ((hx.2 34 (by decide) (by decide)).trans h0_34) rfl ?_
            refine aw_aload_n (pc' := 17) dX6_aimTold_16 rfl rfl rfl ?_
            refine aw_get clsAll (pc' := 20) dX6_aimTold_17 rfl fl_RX6_74 ((hx.2 34 (by decide) (by decide)).trans h0_34) rfl ?_
            refine aw_iload_n (pc' := 21) dX6_aimTold_20 rfl rfl ?_
            refine aw_iastG (pc' := 22) dX6_aimTold_21 rfl ((hx.2 41 (by decide) (by decide)).trans h0_41) (vpc (by decide)) (fun h6 e6 => ?_)
            refine aw_aload_n (pc' := 23) dX6_aimTold_22 rfl rfl rfl ?_
            refine aw_dup (pc' := 24) dX6_aimTold_23 rfl rfl ?_
            refine aw_get clsAll (pc' := 27) dX6_aimTold_24 rfl fl_RX6_74 (gsn e6 (by decide) ((hx.2 34 (by decide) (by decide)).trans h0_34)) rfl ?_
            refine aw_iconst (v := 1) (pc' := 28) dX6_aimTold_27 rfl (by decide) ?_
            refine aw_iadd (pc' := 29) dX6_aimTold_28 rfl ?_
            refine aw_topi (v := 1) (by decide) ?_
            refine aw_putG clsAll (pc' := 32) dX6_aimTold_29 rfl fl_RX6_74 (gsn e6 (by decide) ((hx.2 34 (by decide) (by decide)).trans h0_34)) (Nat.le_of_ble_eq_true rfl) rfl (fun h7 e7 => ?_)
            refine aw_aload_n (pc' := 33) dX6_aimTold_32 rfl rfl rfl ?_
            refine aw_get clsAll (pc' := 36) dX6_aimTold_33 rfl fl_RX6_74 (gss e7 (gsn e6 (by decide) ((hx.2 34 (by decide) (by decide)).trans h0_34))) rfl ?_
            exact aw_ri dX6_aimTold_36 rfl rfl (Nat.le_of_ble_eq_true rfl) (Nat.le_of_ble_eq_true rfl) ⟨rfl, h6, e6, h7, e7, rfl⟩
          refine aw_callVi (M' := mX6_aimTold) (nc' := 0) (ns' := 0) (pc' := 30) dX11_aim_27 rfl ml_RX11_347 kX6_aimTold cc5 ((hx.2 34 (by decide) (by decide)).trans h0_34) rfl rfl rfl (Nat.le_of_ble_eq_true rfl) (rok rfl) rfl rfl (fun r10 h10 q10 => ?_)
          obtain ⟨rfl, h8, e8, h9, e9, rfl⟩ := q10
          exact aw_ri dX11_aim_30 rfl rfl (Nat.le_of_ble_eq_true rfl) (Nat.le_of_ble_eq_true rfl) ⟨(by first | (simp [sp_aim, cnd, okC, okS, okW, okN, inR, n2_, n3_, n5_, n31_, c1, c2, c3, c4]; done) | (simp_all [sp_aim, cnd, okC, okS, okW, okN, inR, n2_, n3_, n5_, n31_]; done) | skip), (sm_set e9 (by decide) (sm_set e8 (by decide) sm_rf))⟩
        · refine aw_iconst (v := (-1)) (pc' := 21) dX11_aim_20 rfl (by decide) ?_
          exact aw_ri dX11_aim_21 rfl rfl (Nat.le_of_ble_eq_true rfl) (Nat.le_of_ble_eq_true rfl) ⟨(by first | (simp [sp_aim, cnd, okC, okS, okW, okN, inR, n2_, n3_, n5_, n31_, c1, c2, c3, c4]; done) | (simp_all [sp_aim, cnd, okC, okS, okW, okN, inR, n2_, n3_, n5_, n31_]; done) | skip), sm_rf⟩
set_option maxRecDepth 4000 in
theorem x_rock (h : List aE) (hx : Fx 0 h) (hlen : h.length = 126) (r_ : Int32) (i : Int32) (v : Int32) : AM mX11_rock 0 [.ref 8, .int r_, .int i, .int v] h 0 0 (PI fun r h' => r = sp_rock r_ i v ∧ Sm h h') := by
  refine am_of (lv := [some (.ref 8), some (.int r_), some (.int i), some (.int v), none, none]) rfl (Nat.le_of_ble_eq_true rfl) rfl ?_
  refine aw_iload_n (pc' := 1) dX11_rock_0 rfl rfl ?_
  refine aw_zlt (tgt := 30) (pc' := 4) dX11_rock_1 (by decide) rfl (fun c1 => ?_) (fun c1 => ?_)
  · refine aw_iconst (v := (-1)) (pc' := 31) dX11_rock_30 rfl (by decide) ?_
    exact aw_ri dX11_rock_31 rfl rfl (Nat.le_of_ble_eq_true rfl) (Nat.le_of_ble_eq_true rfl) ⟨(by first | (simp [sp_rock, cnd, okC, okS, okW, okN, inR, n2_, n3_, n5_, n31_, c1]; done) | (simp_all [sp_rock, cnd, okC, okS, okW, okN, inR, n2_, n3_, n5_, n31_]; done) | skip), sm_rf⟩
  · refine aw_iload_n (pc' := 5) dX11_rock_4 rfl rfl ?_
    refine aw_iconst (v := 4) (pc' := 6) dX11_rock_5 rfl (by decide) ?_
    refine aw_cge (tgt := 30) (pc' := 9) dX11_rock_6 (by decide) rfl (fun c2 => ?_) (fun c2 => ?_)
    · refine aw_iconst (v := (-1)) (pc' := 31) dX11_rock_30 rfl (by decide) ?_
      exact aw_ri dX11_rock_31 rfl rfl (Nat.le_of_ble_eq_true rfl) (Nat.le_of_ble_eq_true rfl) ⟨(by first | (simp [sp_rock, cnd, okC, okS, okW, okN, inR, n2_, n3_, n5_, n31_, c1, c2]; done) | (simp_all [sp_rock, cnd, okC, okS, okW, okN, inR, n2_, n3_, n5_, n31_]; done) | skip), sm_rf⟩
    · refine aw_iload_n (pc' := 10) dX11_rock_9 rfl rfl ?_
      refine aw_zlt (tgt := 30) (pc' := 13) dX11_rock_10 (by decide) rfl (fun c3 => ?_) (fun c3 => ?_)
      · refine aw_iconst (v := (-1)) (pc' := 31) dX11_rock_30 rfl (by decide) ?_
        exact aw_ri dX11_rock_31 rfl rfl (Nat.le_of_ble_eq_true rfl) (Nat.le_of_ble_eq_true rfl) ⟨(by first | (simp [sp_rock, cnd, okC, okS, okW, okN, inR, n2_, n3_, n5_, n31_, c1, c2, c3]; done) | (simp_all [sp_rock, cnd, okC, okS, okW, okN, inR, n2_, n3_, n5_, n31_]; done) | skip), sm_rf⟩
      · refine aw_iload_n (pc' := 14) dX11_rock_13 rfl rfl ?_
        refine aw_bipush (v := 6) (pc' := 16) dX11_rock_14 rfl (by decide) ?_
        refine aw_cge (tgt := 30) (pc' := 19) dX11_rock_16 (by decide) rfl (fun c4 => ?_) (fun c4 => ?_)
        · refine aw_iconst (v := (-1)) (pc' := 31) dX11_rock_30 rfl (by decide) ?_
          exact aw_ri dX11_rock_31 rfl rfl (Nat.le_of_ble_eq_true rfl) (Nat.le_of_ble_eq_true rfl) ⟨(by first | (simp [sp_rock, cnd, okC, okS, okW, okN, inR, n2_, n3_, n5_, n31_, c1, c2, c3, c4]; done) | (simp_all [sp_rock, cnd, okC, okS, okW, okN, inR, n2_, n3_, n5_, n31_]; done) | skip), sm_rf⟩
        · refine aw_iload_n (pc' := 20) dX11_rock_19 rfl rfl ?_
          refine aw_iconst (v := 1) (pc' := 21) dX11_rock_20 rfl (by decide) ?_
          refine aw_clt (tgt := 30) (pc' := 24) dX11_rock_21 (by decide) rfl (fun c5 => ?_) (fun c5 => ?_)
          · refine aw_iconst (v := (-1)) (pc' := 31) dX11_rock_30 rfl (by decide) ?_
            exact aw_ri dX11_rock_31 rfl rfl (Nat.le_of_ble_eq_true rfl) (Nat.le_of_ble_eq_true rfl) ⟨(by first | (simp [sp_rock, cnd, okC, okS, okW, okN, inR, n2_, n3_, n5_, n31_, c1, c2, c3, c4, c5]; done) | (simp_all [sp_rock, cnd, okC, okS, okW, okN, inR, n2_, n3_, n5_, n31_]; done) | skip), sm_rf⟩
          · refine aw_iload_n (pc' := 25) dX11_rock_24 rfl rfl ?_
            refine aw_bipush (v := 9) (pc' := 27) dX11_rock_25 rfl (by decide) ?_
            refine aw_cle (tgt := 32) (pc' := 30) dX11_rock_27 (by decide) rfl (fun c6 => ?_) (fun c6 => ?_)
            · refine aw_iload_n (pc' := 33) dX11_rock_32 rfl rfl ?_
              refine aw_bipush (v := 6) (pc' := 35) dX11_rock_33 rfl (by decide) ?_
              refine aw_imul (pc' := 36) dX11_rock_35 rfl ?_
              refine aw_iload_n (pc' := 37) dX11_rock_36 rfl rfl ?_
              refine aw_iadd (pc' := 38) dX11_rock_37 rfl ?_
              refine aw_istore (lv' := [_, _, _, _, _, _]) (pc' := 40) dX11_rock_38 rfl (Nat.le_of_ble_eq_true rfl) rfl ?_
              refine aw_aload_n (pc' := 41) dX11_rock_40 rfl rfl rfl ?_
              refine aw_get clsAll (pc' := 44) dX11_rock_41 rfl fl_RX11_83 hx.1 rfl ?_
              refine aw_get clsAll (pc' := 47) dX11_rock_44 rfl fl_RX11_350 ((hx.2 34 (by decide) (by decide)).trans h0_34) rfl ?_
              refine aw_iload (pc' := 49) dX11_rock_47 rfl rfl ?_
              refine aw_iald (v := 1) (pc' := 50) dX11_rock_49 rfl ((hx.2 42 (by decide) (by decide)).trans h0_42) (rk_x c1 c2 c3 c4) rfl ?_
              refine aw_istore (lv' := [_, _, _, _, _, _]) (pc' := 52) dX11_rock_50 rfl (Nat.le_of_ble_eq_true rfl) rfl ?_
              refine aw_aload_n (pc' := 53) dX11_rock_52 rfl rfl rfl ?_
              refine aw_get clsAll (pc' := 56) dX11_rock_53 rfl fl_RX11_83 hx.1 rfl ?_
              refine aw_get clsAll (pc' := 59) dX11_rock_56 rfl fl_RX11_350 ((hx.2 34 (by decide) (by decide)).trans h0_34) rfl ?_
              refine aw_iload (pc' := 61) dX11_rock_59 rfl rfl ?_
              refine aw_iload_n (pc' := 62) dX11_rock_61 rfl rfl ?_
              refine aw_iastG (pc' := 63) dX11_rock_62 rfl ((hx.2 42 (by decide) (by decide)).trans h0_42) (rk_x c1 c2 c3 c4) (fun h7 e7 => ?_)
              refine aw_iload (pc' := 65) dX11_rock_63 rfl rfl ?_
              exact aw_ri dX11_rock_65 rfl rfl (Nat.le_of_ble_eq_true rfl) (Nat.le_of_ble_eq_true rfl) ⟨(by first | (simp [sp_rock, cnd, okC, okS, okW, okN, inR, n2_, n3_, n5_, n31_, c1, c2, c3, c4, c5, c6]; done) | (simp_all [sp_rock, cnd, okC, okS, okW, okN, inR, n2_, n3_, n5_, n31_]; done) | skip), (sm_set e7 (by decide) sm_rf)⟩
            · refine aw_iconst (v := (-1)) (pc' := 31) dX11_rock_30 rfl (by decide) ?_
              exact aw_ri dX11_rock_31 rfl rfl (Nat.le_of_ble_eq_true rfl) (Nat.le_of_ble_eq_true rfl) ⟨(by first | (simp [sp_rock, cnd, okC, okS, okW, okN, inR, n2_, n3_, n5_, n31_, c1, c2, c3, c4, c5, c6]; done) | (simp_all [sp_rock, cnd, okC, okS, okW, okN, inR, n2_, n3_, n5_, n31_]; done) | skip), sm_rf⟩
set_option maxRecDepth 4000 in
theorem x_aimed (h : List aE) (hx : Fx 0 h) (hlen : h.length = 126) (r_ : Int32) (y : Int32) (m : Int32) : AM mX11_aimed 1 [.ref 8, .int r_, .int y, .int m] h 0 0 (PI fun r h' => r = sp_aimed r_ y m ∧ Sm h h') := by
  refine am_of (lv := [some (.ref 8), some (.int r_), some (.int y), some (.int m), none]) rfl (Nat.le_of_ble_eq_true rfl) rfl ?_
  refine aw_iload_n (pc' := 1) dX11_aimed_0 rfl rfl ?_
  refine aw_iconst (v := 1) (pc' := 2) dX11_aimed_1 rfl (by decide) ?_
  refine aw_clt (tgt := 37) (pc' := 5) dX11_aimed_2 (by decide) rfl (fun c1 => ?_) (fun c1 => ?_)
  · refine aw_iconst (v := (-1)) (pc' := 38) dX11_aimed_37 rfl (by decide) ?_
    exact aw_ri dX11_aimed_38 rfl rfl (Nat.le_of_ble_eq_true rfl) (Nat.le_of_ble_eq_true rfl) ⟨(by first | (simp [sp_aimed, cnd, okC, okS, okW, okN, inR, n2_, n3_, n5_, n31_, c1]; done) | (simp_all [sp_aimed, cnd, okC, okS, okW, okN, inR, n2_, n3_, n5_, n31_]; done) | skip), sm_rf⟩
  · refine aw_iload_n (pc' := 6) dX11_aimed_5 rfl rfl ?_
    refine aw_iconst (v := 4) (pc' := 7) dX11_aimed_6 rfl (by decide) ?_
    refine aw_cgt (tgt := 37) (pc' := 10) dX11_aimed_7 (by decide) rfl (fun c2 => ?_) (fun c2 => ?_)
    · refine aw_iconst (v := (-1)) (pc' := 38) dX11_aimed_37 rfl (by decide) ?_
      exact aw_ri dX11_aimed_38 rfl rfl (Nat.le_of_ble_eq_true rfl) (Nat.le_of_ble_eq_true rfl) ⟨(by first | (simp [sp_aimed, cnd, okC, okS, okW, okN, inR, n2_, n3_, n5_, n31_, c1, c2]; done) | (simp_all [sp_aimed, cnd, okC, okS, okW, okN, inR, n2_, n3_, n5_, n31_]; done) | skip), sm_rf⟩
    · refine aw_iload_n (pc' := 11) dX11_aimed_10 rfl rfl ?_
      have cc3 : AM mX11_isYard 0 [.int y] h 0 0 (PI fun r h' => (y < 1 ∧ 0 = r ∧ h = h') ∨ (¬ (y < 1) ∧ 60 < y ∧ 0 = r ∧ h = h') ∨ (¬ (y < 1) ∧ ¬ (60 < y) ∧ 1 = r ∧ h = h')) := by
        refine am_of (lv := [some (.int y)]) rfl (Nat.le_of_ble_eq_true rfl) rfl ?_
        refine aw_iload_n (pc' := 1) dX11_isYard_0 rfl rfl ?_
        refine aw_iconst (v := 1) (pc' := 2) dX11_isYard_1 rfl (by decide) ?_
        refine aw_clt (tgt := 15) (pc' := 5) dX11_isYard_2 (by decide) rfl (fun c4 => ?_) (fun c4 => ?_)
        · refine aw_iconst (v := 0) (pc' := 16) dX11_isYard_15 rfl (by decide) ?_
          exact aw_ri dX11_isYard_16 rfl (by decide) (Nat.le_of_ble_eq_true rfl) (Nat.le_of_ble_eq_true rfl) (Or.inl ⟨c4, rfl, rfl⟩)
        · refine aw_iload_n (pc' := 6) dX11_isYard_5 rfl rfl ?_
          refine aw_bipush (v := 60) (pc' := 8) dX11_isYard_6 rfl (by decide) ?_
          refine aw_cgt (tgt := 15) (pc' := 11) dX11_isYard_8 (by decide) rfl (fun c5 => ?_) (fun c5 => ?_)
          · refine aw_iconst (v := 0) (pc' := 16) dX11_isYard_15 rfl (by decide) ?_
            exact aw_ri dX11_isYard_16 rfl (by decide) (Nat.le_of_ble_eq_true rfl) (Nat.le_of_ble_eq_true rfl) (Or.inr (Or.inl ⟨c4, c5, rfl, rfl⟩))
          · refine aw_iconst (v := 1) (pc' := 12) dX11_isYard_11 rfl (by decide) ?_
            refine aw_goto (tgt := 16) dX11_isYard_12 (by decide) ?_
            exact aw_ri dX11_isYard_16 rfl (by decide) (Nat.le_of_ble_eq_true rfl) (Nat.le_of_ble_eq_true rfl) (Or.inr (Or.inr ⟨c4, c5, rfl, rfl⟩))
      refine aw_callSi (M' := mX11_isYard) (nc' := 0) (ns' := 0) (pc' := 14) dX11_aimed_11 rfl ml_RX11_122 kX11_isYard cc3 rfl rfl (Nat.le_of_ble_eq_true rfl) (rok rfl) rfl rfl (fun r11 h11 q11 => ?_)
      rcases q11 with ⟨c6, rfl, rfl⟩ | ⟨c7, c8, rfl, rfl⟩ | ⟨c9, c10, rfl, rfl⟩
      · refine aw_if_eq (tgt := 37) (pc' := 17) dX11_aimed_14 (by decide) rfl (fun _ => ?_) (fun c => absurd (by decide) c)
        refine aw_iconst (v := (-1)) (pc' := 38) dX11_aimed_37 rfl (by decide) ?_
        exact aw_ri dX11_aimed_38 rfl rfl (Nat.le_of_ble_eq_true rfl) (Nat.le_of_ble_eq_true rfl) ⟨(by first | (simp [sp_aimed, cnd, okC, okS, okW, okN, inR, n2_, n3_, n5_, n31_, c1, c2, c6]; done) | (simp_all [sp_aimed, cnd, okC, okS, okW, okN, inR, n2_, n3_, n5_, n31_]; done) | skip), sm_rf⟩
      · refine aw_if_eq (tgt := 37) (pc' := 17) dX11_aimed_14 (by decide) rfl (fun _ => ?_) (fun c => absurd (by decide) c)
        refine aw_iconst (v := (-1)) (pc' := 38) dX11_aimed_37 rfl (by decide) ?_
        exact aw_ri dX11_aimed_38 rfl rfl (Nat.le_of_ble_eq_true rfl) (Nat.le_of_ble_eq_true rfl) ⟨(by first | (simp [sp_aimed, cnd, okC, okS, okW, okN, inR, n2_, n3_, n5_, n31_, c1, c2, c7, c8]; done) | (simp_all [sp_aimed, cnd, okC, okS, okW, okN, inR, n2_, n3_, n5_, n31_]; done) | skip), sm_rf⟩
      · refine aw_if_eq (tgt := 37) (pc' := 17) dX11_aimed_14 (by decide) rfl (fun c => absurd c (by decide)) (fun _ => ?_)
        refine aw_iload_n (pc' := 18) dX11_aimed_17 rfl rfl ?_
        refine aw_iconst (v := 1) (pc' := 19) dX11_aimed_18 rfl (by decide) ?_
        refine aw_clt (tgt := 37) (pc' := 22) dX11_aimed_19 (by decide) rfl (fun c12 => ?_) (fun c12 => ?_)
        · refine aw_iconst (v := (-1)) (pc' := 38) dX11_aimed_37 rfl (by decide) ?_
          exact aw_ri dX11_aimed_38 rfl rfl (Nat.le_of_ble_eq_true rfl) (Nat.le_of_ble_eq_true rfl) ⟨(by first | (simp [sp_aimed, cnd, okC, okS, okW, okN, inR, n2_, n3_, n5_, n31_, c1, c2, c9, c10, c12]; done) | (simp_all [sp_aimed, cnd, okC, okS, okW, okN, inR, n2_, n3_, n5_, n31_]; done) | skip), sm_rf⟩
        · refine aw_iload_n (pc' := 23) dX11_aimed_22 rfl rfl ?_
          refine aw_iconst (v := 2) (pc' := 24) dX11_aimed_23 rfl (by decide) ?_
          refine aw_cgt (tgt := 37) (pc' := 27) dX11_aimed_24 (by decide) rfl (fun c13 => ?_) (fun c13 => ?_)
          · refine aw_iconst (v := (-1)) (pc' := 38) dX11_aimed_37 rfl (by decide) ?_
            exact aw_ri dX11_aimed_38 rfl rfl (Nat.le_of_ble_eq_true rfl) (Nat.le_of_ble_eq_true rfl) ⟨(by first | (simp [sp_aimed, cnd, okC, okS, okW, okN, inR, n2_, n3_, n5_, n31_, c1, c2, c9, c10, c12, c13]; done) | (simp_all [sp_aimed, cnd, okC, okS, okW, okN, inR, n2_, n3_, n5_, n31_]; done) | skip), sm_rf⟩
          · refine aw_aload_n (pc' := 28) dX11_aimed_27 rfl rfl rfl ?_
            refine aw_get clsAll (pc' := 31) dX11_aimed_28 rfl fl_RX11_83 hx.1 rfl ?_
            refine aw_get clsAll (pc' := 34) dX11_aimed_31 rfl fl_RX11_353 ((hx.2 34 (by decide) (by decide)).trans h0_34) rfl ?_
            refine aw_if_ne (tgt := 39) (pc' := 37) dX11_aimed_34 (by decide) rfl (fun c => absurd (by decide) c) (fun _ => ?_)
            refine aw_iconst (v := (-1)) (pc' := 38) dX11_aimed_37 rfl (by decide) ?_
            exact aw_ri dX11_aimed_38 rfl rfl (Nat.le_of_ble_eq_true rfl) (Nat.le_of_ble_eq_true rfl) ⟨(by first | (simp [sp_aimed, cnd, okC, okS, okW, okN, inR, n2_, n3_, n5_, n31_, c1, c2, c9, c10, c12, c13]; done) | (simp_all [sp_aimed, cnd, okC, okS, okW, okN, inR, n2_, n3_, n5_, n31_]; done) | skip), sm_rf⟩
set_option maxRecDepth 4000 in
theorem x_aimedAt (h : List aE) (hx : Fx 0 h) (hlen : h.length = 126) (i : Int32) (w : Int32) : AM mX11_aimedAt 0 [.ref 8, .int i, .int w] h 0 0 (PI fun r h' => r = sp_aimedAt i w ∧ Sm h h') := by
  refine am_of (lv := [some (.ref 8), some (.int i), some (.int w)]) rfl (Nat.le_of_ble_eq_true rfl) rfl ?_
  refine aw_iload_n (pc' := 1) dX11_aimedAt_0 rfl rfl ?_
  refine aw_zlt (tgt := 24) (pc' := 4) dX11_aimedAt_1 (by decide) rfl (fun c1 => ?_) (fun c1 => ?_)
  · refine aw_iconst (v := (-1)) (pc' := 25) dX11_aimedAt_24 rfl (by decide) ?_
    exact aw_ri dX11_aimedAt_25 rfl rfl (Nat.le_of_ble_eq_true rfl) (Nat.le_of_ble_eq_true rfl) ⟨(by first | (simp [sp_aimedAt, cnd, okC, okS, okW, okN, inR, n2_, n3_, n5_, n31_, c1]; done) | (simp_all [sp_aimedAt, cnd, okC, okS, okW, okN, inR, n2_, n3_, n5_, n31_]; done) | skip), sm_rf⟩
  · refine aw_iload_n (pc' := 5) dX11_aimedAt_4 rfl rfl ?_
    refine aw_aload_n (pc' := 6) dX11_aimedAt_5 rfl rfl rfl ?_
    refine aw_get clsAll (pc' := 9) dX11_aimedAt_6 rfl fl_RX11_83 hx.1 rfl ?_
    refine aw_get clsAll (pc' := 12) dX11_aimedAt_9 rfl fl_RX11_366 ((hx.2 34 (by decide) (by decide)).trans h0_34) rfl ?_
    refine aw_cge (tgt := 24) (pc' := 15) dX11_aimedAt_12 (by decide) rfl (fun _ => ?_) (fun c => absurd c c1)
    refine aw_iconst (v := (-1)) (pc' := 25) dX11_aimedAt_24 rfl (by decide) ?_
    exact aw_ri dX11_aimedAt_25 rfl rfl (Nat.le_of_ble_eq_true rfl) (Nat.le_of_ble_eq_true rfl) ⟨(by first | (simp [sp_aimedAt, cnd, okC, okS, okW, okN, inR, n2_, n3_, n5_, n31_, c1]; done) | (simp_all [sp_aimedAt, cnd, okC, okS, okW, okN, inR, n2_, n3_, n5_, n31_]; done) | skip), sm_rf⟩
set_option maxRecDepth 4000 in
theorem x_race (h : List aE) (hx : Fx 0 h) (hlen : h.length = 126) (m : Int32) (y : Int32) (v : Int32) : AM mX11_race 1 [.ref 8, .int m, .int y, .int v] h 0 0 (PI fun r h' => r = sp_race m y v ∧ Sm h h') := by
  refine am_of (lv := [some (.ref 8), some (.int m), some (.int y), some (.int v), none, none, none]) rfl (Nat.le_of_ble_eq_true rfl) rfl ?_
  refine aw_aload_n (pc' := 1) dX11_race_0 rfl rfl rfl ?_
  refine aw_iload_n (pc' := 2) dX11_race_1 rfl rfl ?_
  have cc1 : AM mX11_machineOf 0 [.ref 8, .int m] h 0 0 (PA fun r h' => (m < 0 ∧ Value.null = r ∧ h = h') ∨ (m = 0 ∧ Value.ref 28 = r ∧ h = h') ∨ (m = 1 ∧ Value.ref 29 = r ∧ h = h') ∨ (m = 2 ∧ Value.ref 30 = r ∧ h = h') ∨ (¬ (m < 0) ∧ ¬ (m < 3) ∧ Value.null = r ∧ h = h')) := by
    refine am_of (lv := [some (.ref 8), some (.int m)]) rfl (Nat.le_of_ble_eq_true rfl) rfl ?_
    refine aw_iload_n (pc' := 1) dX11_machineOf_0 rfl rfl ?_
    refine aw_zlt (tgt := 9) (pc' := 4) dX11_machineOf_1 (by decide) rfl (fun c2 => ?_) (fun c2 => ?_)
    · refine aw_null (pc' := 10) dX11_machineOf_9 rfl ?_
      refine aw_goto (tgt := 19) dX11_machineOf_10 (by decide) ?_
      exact aw_ra dX11_machineOf_19 rfl (Or.inl ⟨_, rfl⟩) rfl (Nat.le_of_ble_eq_true rfl) (Nat.le_of_ble_eq_true rfl) (Or.inl ⟨c2, rfl, rfl⟩)
    · refine aw_iload_n (pc' := 5) dX11_machineOf_4 rfl rfl ?_
      refine aw_iconst (v := 3) (pc' := 6) dX11_machineOf_5 rfl (by decide) ?_
      refine aw_clt (tgt := 13) (pc' := 9) dX11_machineOf_6 (by decide) rfl (fun c3 => ?_) (fun c3 => ?_)
      · refine aw_aload_n (pc' := 14) dX11_machineOf_13 rfl rfl rfl ?_
        refine aw_get clsAll (pc' := 17) dX11_machineOf_14 rfl fl_RX11_34 hx.1 rfl ?_
        refine aw_iload_n (pc' := 18) dX11_machineOf_17 rfl rfl ?_
        rcases three_ c2 c3 with rfl | rfl | rfl
        · refine aw_aald (v := .ref 28) (pc' := 19) dX11_machineOf_18 rfl ((hx.2 19 (by decide) (by decide)).trans h0_19) (by decide) rfl (vpc (by decide)) rfl ?_
          exact aw_ra dX11_machineOf_19 rfl (Or.inl ⟨_, rfl⟩) rfl (Nat.le_of_ble_eq_true rfl) (Nat.le_of_ble_eq_true rfl) (Or.inr (Or.inl ⟨rfl, rfl, rfl⟩))
        · refine aw_aald (v := .ref 29) (pc' := 19) dX11_machineOf_18 rfl ((hx.2 19 (by decide) (by decide)).trans h0_19) (by decide) rfl (vpc (by decide)) rfl ?_
          exact aw_ra dX11_machineOf_19 rfl (Or.inl ⟨_, rfl⟩) rfl (Nat.le_of_ble_eq_true rfl) (Nat.le_of_ble_eq_true rfl) (Or.inr (Or.inr (Or.inl ⟨rfl, rfl, rfl⟩)))
        · refine aw_aald (v := .ref 30) (pc' := 19) dX11_machineOf_18 rfl ((hx.2 19 (by decide) (by decide)).trans h0_19) (by decide) rfl (vpc (by decide)) rfl ?_
          exact aw_ra dX11_machineOf_19 rfl (Or.inl ⟨_, rfl⟩) rfl (Nat.le_of_ble_eq_true rfl) (Nat.le_of_ble_eq_true rfl) (Or.inr (Or.inr (Or.inr (Or.inl ⟨rfl, rfl, rfl⟩))))
      · refine aw_null (pc' := 10) dX11_machineOf_9 rfl ?_
        refine aw_goto (tgt := 19) dX11_machineOf_10 (by decide) ?_
        exact aw_ra dX11_machineOf_19 rfl (Or.inl ⟨_, rfl⟩) rfl (Nat.le_of_ble_eq_true rfl) (Nat.le_of_ble_eq_true rfl) (Or.inr (Or.inr (Or.inr (Or.inr ⟨c2, c3, rfl, rfl⟩))))
  refine aw_callVa (M' := mX11_machineOf) (nc' := 0) (ns' := 0) (pc' := 5) dX11_race_2 rfl ml_RX11_158 kX11_machineOf cc1 hx.1 rfl rfl rfl (Nat.le_of_ble_eq_true rfl) (rok rfl) rfl rfl (fun r7 h7 q7 => ?_)
  rcases q7 with ⟨c4, rfl, rfl⟩ | ⟨rfl, rfl, rfl⟩ | ⟨rfl, rfl, rfl⟩ | ⟨rfl, rfl, rfl⟩ | ⟨c5, c6, rfl, rfl⟩
  · refine aw_astore (lv' := [_, _, _, _, _, _, _]) (pc' := 7) dX11_race_5 rfl (Nat.le_of_ble_eq_true rfl) rfl rfl ?_
    refine aw_aload (pc' := 9) dX11_race_7 rfl rfl rfl ?_
    refine aw_ifnull_n (tgt := 30) dX11_race_9 (by decide) ?_
    refine aw_iconst (v := (-1)) (pc' := 31) dX11_race_30 rfl (by decide) ?_
    exact aw_ri dX11_race_31 rfl rfl (Nat.le_of_ble_eq_true rfl) (Nat.le_of_ble_eq_true rfl) ⟨(by first | (simp [sp_race, cnd, okC, okS, okW, okN, inR, n2_, n3_, n5_, n31_, c4]; done) | (simp_all [sp_race, cnd, okC, okS, okW, okN, inR, n2_, n3_, n5_, n31_]; done) | skip), sm_rf⟩
  · refine aw_astore (lv' := [_, _, _, _, _, _, _]) (pc' := 7) dX11_race_5 rfl (Nat.le_of_ble_eq_true rfl) rfl rfl ?_
    refine aw_aload (pc' := 9) dX11_race_7 rfl rfl rfl ?_
    refine aw_ifnull_r (pc' := 12) dX11_race_9 rfl ?_
    refine aw_iload_n (pc' := 13) dX11_race_12 rfl rfl ?_
    have cc8 : AM mX11_isYard 0 [.int y] h 0 0 (PI fun r h' => (y < 1 ∧ 0 = r ∧ h = h') ∨ (¬ (y < 1) ∧ 60 < y ∧ 0 = r ∧ h = h') ∨ (¬ (y < 1) ∧ ¬ (60 < y) ∧ 1 = r ∧ h = h')) := by
      refine am_of (lv := [some (.int y)]) rfl (Nat.le_of_ble_eq_true rfl) rfl ?_
      refine aw_iload_n (pc' := 1) dX11_isYard_0 rfl rfl ?_
      refine aw_iconst (v := 1) (pc' := 2) dX11_isYard_1 rfl (by decide) ?_
      refine aw_clt (tgt := 15) (pc' := 5) dX11_isYard_2 (by decide) rfl (fun c9 => ?_) (fun c9 => ?_)
      · refine aw_iconst (v := 0) (pc' := 16) dX11_isYard_15 rfl (by decide) ?_
        exact aw_ri dX11_isYard_16 rfl (by decide) (Nat.le_of_ble_eq_true rfl) (Nat.le_of_ble_eq_true rfl) (Or.inl ⟨c9, rfl, rfl⟩)
      · refine aw_iload_n (pc' := 6) dX11_isYard_5 rfl rfl ?_
        refine aw_bipush (v := 60) (pc' := 8) dX11_isYard_6 rfl (by decide) ?_
        refine aw_cgt (tgt := 15) (pc' := 11) dX11_isYard_8 (by decide) rfl (fun c10 => ?_) (fun c10 => ?_)
        · refine aw_iconst (v := 0) (pc' := 16) dX11_isYard_15 rfl (by decide) ?_
          exact aw_ri dX11_isYard_16 rfl (by decide) (Nat.le_of_ble_eq_true rfl) (Nat.le_of_ble_eq_true rfl) (Or.inr (Or.inl ⟨c9, c10, rfl, rfl⟩))
        · refine aw_iconst (v := 1) (pc' := 12) dX11_isYard_11 rfl (by decide) ?_
          refine aw_goto (tgt := 16) dX11_isYard_12 (by decide) ?_
          exact aw_ri dX11_isYard_16 rfl (by decide) (Nat.le_of_ble_eq_true rfl) (Nat.le_of_ble_eq_true rfl) (Or.inr (Or.inr ⟨c9, c10, rfl, rfl⟩))
    refine aw_callSi (M' := mX11_isYard) (nc' := 0) (ns' := 0) (pc' := 16) dX11_race_13 rfl ml_RX11_122 kX11_isYard cc8 rfl rfl (Nat.le_of_ble_eq_true rfl) (rok rfl) rfl rfl (fun r16 h16 q16 => ?_)
    rcases q16 with ⟨c11, rfl, rfl⟩ | ⟨c12, c13, rfl, rfl⟩ | ⟨c14, c15, rfl, rfl⟩
    · refine aw_if_eq (tgt := 30) (pc' := 19) dX11_race_16 (by decide) rfl (fun _ => ?_) (fun c => absurd (by decide) c)
      refine aw_iconst (v := (-1)) (pc' := 31) dX11_race_30 rfl (by decide) ?_
      exact aw_ri dX11_race_31 rfl rfl (Nat.le_of_ble_eq_true rfl) (Nat.le_of_ble_eq_true rfl) ⟨(by first | (simp [sp_race, cnd, okC, okS, okW, okN, inR, n2_, n3_, n5_, n31_, c11]; done) | (simp_all [sp_race, cnd, okC, okS, okW, okN, inR, n2_, n3_, n5_, n31_]; done) | skip), sm_rf⟩
    · refine aw_if_eq (tgt := 30) (pc' := 19) dX11_race_16 (by decide) rfl (fun _ => ?_) (fun c => absurd (by decide) c)
      refine aw_iconst (v := (-1)) (pc' := 31) dX11_race_30 rfl (by decide) ?_
      exact aw_ri dX11_race_31 rfl rfl (Nat.le_of_ble_eq_true rfl) (Nat.le_of_ble_eq_true rfl) ⟨(by first | (simp [sp_race, cnd, okC, okS, okW, okN, inR, n2_, n3_, n5_, n31_, c12, c13]; done) | (simp_all [sp_race, cnd, okC, okS, okW, okN, inR, n2_, n3_, n5_, n31_]; done) | skip), sm_rf⟩
    · refine aw_if_eq (tgt := 30) (pc' := 19) dX11_race_16 (by decide) rfl (fun c => absurd c (by decide)) (fun _ => ?_)
      refine aw_iload_n (pc' := 20) dX11_race_19 rfl rfl ?_
      refine aw_iconst (v := 1) (pc' := 21) dX11_race_20 rfl (by decide) ?_
      refine aw_clt (tgt := 30) (pc' := 24) dX11_race_21 (by decide) rfl (fun c17 => ?_) (fun c17 => ?_)
      · refine aw_iconst (v := (-1)) (pc' := 31) dX11_race_30 rfl (by decide) ?_
        exact aw_ri dX11_race_31 rfl rfl (Nat.le_of_ble_eq_true rfl) (Nat.le_of_ble_eq_true rfl) ⟨(by first | (simp [sp_race, cnd, okC, okS, okW, okN, inR, n2_, n3_, n5_, n31_, c14, c15, c17]; done) | (simp_all [sp_race, cnd, okC, okS, okW, okN, inR, n2_, n3_, n5_, n31_]; done) | skip), sm_rf⟩
      · refine aw_iload_n (pc' := 25) dX11_race_24 rfl rfl ?_
        refine aw_bipush (v := 9) (pc' := 27) dX11_race_25 rfl (by decide) ?_
        refine aw_cle (tgt := 32) (pc' := 30) dX11_race_27 (by decide) rfl (fun c18 => ?_) (fun c18 => ?_)
        · refine aw_aload_n (pc' := 33) dX11_race_32 rfl rfl rfl ?_
          refine aw_get clsAll (pc' := 36) dX11_race_33 rfl fl_RX11_28 hx.1 rfl ?_
          refine aw_aload (pc' := 38) dX11_race_36 rfl rfl rfl ?_
          refine aw_get clsAll (pc' := 41) dX11_race_38 rfl fl_RX11_165 ((hx.2 20 (by decide) (by decide)).trans h0_20) rfl ?_
          have cc19 : AM mX0_holeOf 0 [.ref 23, .int (-1)] h 0 0 (PA fun r h' => (Value.null = r ∧ h = h')) := by
            refine am_of (lv := [some (.ref 23), some (.int (-1))]) rfl (Nat.le_of_ble_eq_true rfl) rfl ?_
            refine aw_iload_n (pc' := 1) dX0_holeOf_0 rfl rfl ?_
            refine aw_zlt (tgt := 12) (pc' := 4) dX0_holeOf_1 (by decide) rfl (fun _ => ?_) (fun c => absurd (by decide) c)
            refine aw_null (pc' := 13) dX0_holeOf_12 rfl ?_
            refine aw_goto (tgt := 22) dX0_holeOf_13 (by decide) ?_
            exact aw_ra dX0_holeOf_22 rfl (Or.inl ⟨_, rfl⟩) rfl (Nat.le_of_ble_eq_true rfl) (Nat.le_of_ble_eq_true rfl) ⟨rfl, rfl⟩
          refine aw_callVa (M' := mX0_holeOf) (nc' := 0) (ns' := 0) (pc' := 44) dX11_race_41 rfl ml_RX11_139 kX0_holeOf cc19 ((hx.2 15 (by decide) (by decide)).trans h0_15) rfl rfl rfl (Nat.le_of_ble_eq_true rfl) (rok rfl) rfl rfl (fun r20 h20 q20 => ?_)
          obtain ⟨rfl, rfl⟩ := q20
          refine aw_astore (lv' := [_, _, _, _, _, _, _]) (pc' := 46) dX11_race_44 rfl (Nat.le_of_ble_eq_true rfl) rfl rfl ?_
          refine aw_aload (pc' := 48) dX11_race_46 rfl rfl rfl ?_
          refine aw_ifnull_n (tgt := 68) dX11_race_48 (by decide) ?_
          refine aw_bipush (v := (-2)) (pc' := 70) dX11_race_68 rfl (by decide) ?_
          exact aw_ri dX11_race_70 rfl rfl (Nat.le_of_ble_eq_true rfl) (Nat.le_of_ble_eq_true rfl) ⟨(by first | (simp [sp_race, cnd, okC, okS, okW, okN, inR, n2_, n3_, n5_, n31_, c14, c15, c17, c18]; done) | (simp_all [sp_race, cnd, okC, okS, okW, okN, inR, n2_, n3_, n5_, n31_]; done) | skip), sm_rf⟩
        · refine aw_iconst (v := (-1)) (pc' := 31) dX11_race_30 rfl (by decide) ?_
          exact aw_ri dX11_race_31 rfl rfl (Nat.le_of_ble_eq_true rfl) (Nat.le_of_ble_eq_true rfl) ⟨(by first | (simp [sp_race, cnd, okC, okS, okW, okN, inR, n2_, n3_, n5_, n31_, c14, c15, c17, c18]; done) | (simp_all [sp_race, cnd, okC, okS, okW, okN, inR, n2_, n3_, n5_, n31_]; done) | skip), sm_rf⟩
  · refine aw_astore (lv' := [_, _, _, _, _, _, _]) (pc' := 7) dX11_race_5 rfl (Nat.le_of_ble_eq_true rfl) rfl rfl ?_
    refine aw_aload (pc' := 9) dX11_race_7 rfl rfl rfl ?_
    refine aw_ifnull_r (pc' := 12) dX11_race_9 rfl ?_
    refine aw_iload_n (pc' := 13) dX11_race_12 rfl rfl ?_
    have cc21 : AM mX11_isYard 0 [.int y] h 0 0 (PI fun r h' => (y < 1 ∧ 0 = r ∧ h = h') ∨ (¬ (y < 1) ∧ 60 < y ∧ 0 = r ∧ h = h') ∨ (¬ (y < 1) ∧ ¬ (60 < y) ∧ 1 = r ∧ h = h')) := by
      refine am_of (lv := [some (.int y)]) rfl (Nat.le_of_ble_eq_true rfl) rfl ?_
      refine aw_iload_n (pc' := 1) dX11_isYard_0 rfl rfl ?_
      refine aw_iconst (v := 1) (pc' := 2) dX11_isYard_1 rfl (by decide) ?_
      refine aw_clt (tgt := 15) (pc' := 5) dX11_isYard_2 (by decide) rfl (fun c22 => ?_) (fun c22 => ?_)
      · refine aw_iconst (v := 0) (pc' := 16) dX11_isYard_15 rfl (by decide) ?_
        exact aw_ri dX11_isYard_16 rfl (by decide) (Nat.le_of_ble_eq_true rfl) (Nat.le_of_ble_eq_true rfl) (Or.inl ⟨c22, rfl, rfl⟩)
      · refine aw_iload_n (pc' := 6) dX11_isYard_5 rfl rfl ?_
        refine aw_bipush (v := 60) (pc' := 8) dX11_isYard_6 rfl (by decide) ?_
        refine aw_cgt (tgt := 15) (pc' := 11) dX11_isYard_8 (by decide) rfl (fun c23 => ?_) (fun c23 => ?_)
        · refine aw_iconst (v := 0) (pc' := 16) dX11_isYard_15 rfl (by decide) ?_
          exact aw_ri dX11_isYard_16 rfl (by decide) (Nat.le_of_ble_eq_true rfl) (Nat.le_of_ble_eq_true rfl) (Or.inr (Or.inl ⟨c22, c23, rfl, rfl⟩))
        · refine aw_iconst (v := 1) (pc' := 12) dX11_isYard_11 rfl (by decide) ?_
          refine aw_goto (tgt := 16) dX11_isYard_12 (by decide) ?_
          exact aw_ri dX11_isYard_16 rfl (by decide) (Nat.le_of_ble_eq_true rfl) (Nat.le_of_ble_eq_true rfl) (Or.inr (Or.inr ⟨c22, c23, rfl, rfl⟩))
    refine aw_callSi (M' := mX11_isYard) (nc' := 0) (ns' := 0) (pc' := 16) dX11_race_13 rfl ml_RX11_122 kX11_isYard cc21 rfl rfl (Nat.le_of_ble_eq_true rfl) (rok rfl) rfl rfl (fun r29 h29 q29 => ?_)
    rcases q29 with ⟨c24, rfl, rfl⟩ | ⟨c25, c26, rfl, rfl⟩ | ⟨c27, c28, rfl, rfl⟩
    · refine aw_if_eq (tgt := 30) (pc' := 19) dX11_race_16 (by decide) rfl (fun _ => ?_) (fun c => absurd (by decide) c)
      refine aw_iconst (v := (-1)) (pc' := 31) dX11_race_30 rfl (by decide) ?_
      exact aw_ri dX11_race_31 rfl rfl (Nat.le_of_ble_eq_true rfl) (Nat.le_of_ble_eq_true rfl) ⟨(by first | (simp [sp_race, cnd, okC, okS, okW, okN, inR, n2_, n3_, n5_, n31_, c24]; done) | (simp_all [sp_race, cnd, okC, okS, okW, okN, inR, n2_, n3_, n5_, n31_]; done) | skip), sm_rf⟩
    · refine aw_if_eq (tgt := 30) (pc' := 19) dX11_race_16 (by decide) rfl (fun _ => ?_) (fun c => absurd (by decide) c)
      refine aw_iconst (v := (-1)) (pc' := 31) dX11_race_30 rfl (by decide) ?_
      exact aw_ri dX11_race_31 rfl rfl (Nat.le_of_ble_eq_true rfl) (Nat.le_of_ble_eq_true rfl) ⟨(by first | (simp [sp_race, cnd, okC, okS, okW, okN, inR, n2_, n3_, n5_, n31_, c25, c26]; done) | (simp_all [sp_race, cnd, okC, okS, okW, okN, inR, n2_, n3_, n5_, n31_]; done) | skip), sm_rf⟩
    · refine aw_if_eq (tgt := 30) (pc' := 19) dX11_race_16 (by decide) rfl (fun c => absurd c (by decide)) (fun _ => ?_)
      refine aw_iload_n (pc' := 20) dX11_race_19 rfl rfl ?_
      refine aw_iconst (v := 1) (pc' := 21) dX11_race_20 rfl (by decide) ?_
      refine aw_clt (tgt := 30) (pc' := 24) dX11_race_21 (by decide) rfl (fun c30 => ?_) (fun c30 => ?_)
      · refine aw_iconst (v := (-1)) (pc' := 31) dX11_race_30 rfl (by decide) ?_
        exact aw_ri dX11_race_31 rfl rfl (Nat.le_of_ble_eq_true rfl) (Nat.le_of_ble_eq_true rfl) ⟨(by first | (simp [sp_race, cnd, okC, okS, okW, okN, inR, n2_, n3_, n5_, n31_, c27, c28, c30]; done) | (simp_all [sp_race, cnd, okC, okS, okW, okN, inR, n2_, n3_, n5_, n31_]; done) | skip), sm_rf⟩
      · refine aw_iload_n (pc' := 25) dX11_race_24 rfl rfl ?_
        refine aw_bipush (v := 9) (pc' := 27) dX11_race_25 rfl (by decide) ?_
        refine aw_cle (tgt := 32) (pc' := 30) dX11_race_27 (by decide) rfl (fun c31 => ?_) (fun c31 => ?_)
        · refine aw_aload_n (pc' := 33) dX11_race_32 rfl rfl rfl ?_
          refine aw_get clsAll (pc' := 36) dX11_race_33 rfl fl_RX11_28 hx.1 rfl ?_
          refine aw_aload (pc' := 38) dX11_race_36 rfl rfl rfl ?_
          refine aw_get clsAll (pc' := 41) dX11_race_38 rfl fl_RX11_165 ((hx.2 21 (by decide) (by decide)).trans h0_21) rfl ?_
          have cc32 : AM mX0_holeOf 0 [.ref 23, .int (-1)] h 0 0 (PA fun r h' => (Value.null = r ∧ h = h')) := by
            refine am_of (lv := [some (.ref 23), some (.int (-1))]) rfl (Nat.le_of_ble_eq_true rfl) rfl ?_
            refine aw_iload_n (pc' := 1) dX0_holeOf_0 rfl rfl ?_
            refine aw_zlt (tgt := 12) (pc' := 4) dX0_holeOf_1 (by decide) rfl (fun _ => ?_) (fun c => absurd (by decide) c)
            refine aw_null (pc' := 13) dX0_holeOf_12 rfl ?_
            refine aw_goto (tgt := 22) dX0_holeOf_13 (by decide) ?_
            exact aw_ra dX0_holeOf_22 rfl (Or.inl ⟨_, rfl⟩) rfl (Nat.le_of_ble_eq_true rfl) (Nat.le_of_ble_eq_true rfl) ⟨rfl, rfl⟩
          refine aw_callVa (M' := mX0_holeOf) (nc' := 0) (ns' := 0) (pc' := 44) dX11_race_41 rfl ml_RX11_139 kX0_holeOf cc32 ((hx.2 15 (by decide) (by decide)).trans h0_15) rfl rfl rfl (Nat.le_of_ble_eq_true rfl) (rok rfl) rfl rfl (fun r33 h33 q33 => ?_)
          obtain ⟨rfl, rfl⟩ := q33
          refine aw_astore (lv' := [_, _, _, _, _, _, _]) (pc' := 46) dX11_race_44 rfl (Nat.le_of_ble_eq_true rfl) rfl rfl ?_
          refine aw_aload (pc' := 48) dX11_race_46 rfl rfl rfl ?_
          refine aw_ifnull_n (tgt := 68) dX11_race_48 (by decide) ?_
          refine aw_bipush (v := (-2)) (pc' := 70) dX11_race_68 rfl (by decide) ?_
          exact aw_ri dX11_race_70 rfl rfl (Nat.le_of_ble_eq_true rfl) (Nat.le_of_ble_eq_true rfl) ⟨(by first | (simp [sp_race, cnd, okC, okS, okW, okN, inR, n2_, n3_, n5_, n31_, c27, c28, c30, c31]; done) | (simp_all [sp_race, cnd, okC, okS, okW, okN, inR, n2_, n3_, n5_, n31_]; done) | skip), sm_rf⟩
        · refine aw_iconst (v := (-1)) (pc' := 31) dX11_race_30 rfl (by decide) ?_
          exact aw_ri dX11_race_31 rfl rfl (Nat.le_of_ble_eq_true rfl) (Nat.le_of_ble_eq_true rfl) ⟨(by first | (simp [sp_race, cnd, okC, okS, okW, okN, inR, n2_, n3_, n5_, n31_, c27, c28, c30, c31]; done) | (simp_all [sp_race, cnd, okC, okS, okW, okN, inR, n2_, n3_, n5_, n31_]; done) | skip), sm_rf⟩
  · refine aw_astore (lv' := [_, _, _, _, _, _, _]) (pc' := 7) dX11_race_5 rfl (Nat.le_of_ble_eq_true rfl) rfl rfl ?_
    refine aw_aload (pc' := 9) dX11_race_7 rfl rfl rfl ?_
    refine aw_ifnull_r (pc' := 12) dX11_race_9 rfl ?_
    refine aw_iload_n (pc' := 13) dX11_race_12 rfl rfl ?_
    have cc34 : AM mX11_isYard 0 [.int y] h 0 0 (PI fun r h' => (y < 1 ∧ 0 = r ∧ h = h') ∨ (¬ (y < 1) ∧ 60 < y ∧ 0 = r ∧ h = h') ∨ (¬ (y < 1) ∧ ¬ (60 < y) ∧ 1 = r ∧ h = h')) := by
      refine am_of (lv := [some (.int y)]) rfl (Nat.le_of_ble_eq_true rfl) rfl ?_
      refine aw_iload_n (pc' := 1) dX11_isYard_0 rfl rfl ?_
      refine aw_iconst (v := 1) (pc' := 2) dX11_isYard_1 rfl (by decide) ?_
      refine aw_clt (tgt := 15) (pc' := 5) dX11_isYard_2 (by decide) rfl (fun c35 => ?_) (fun c35 => ?_)
      · refine aw_iconst (v := 0) (pc' := 16) dX11_isYard_15 rfl (by decide) ?_
        exact aw_ri dX11_isYard_16 rfl (by decide) (Nat.le_of_ble_eq_true rfl) (Nat.le_of_ble_eq_true rfl) (Or.inl ⟨c35, rfl, rfl⟩)
      · refine aw_iload_n (pc' := 6) dX11_isYard_5 rfl rfl ?_
        refine aw_bipush (v := 60) (pc' := 8) dX11_isYard_6 rfl (by decide) ?_
        refine aw_cgt (tgt := 15) (pc' := 11) dX11_isYard_8 (by decide) rfl (fun c36 => ?_) (fun c36 => ?_)
        · refine aw_iconst (v := 0) (pc' := 16) dX11_isYard_15 rfl (by decide) ?_
          exact aw_ri dX11_isYard_16 rfl (by decide) (Nat.le_of_ble_eq_true rfl) (Nat.le_of_ble_eq_true rfl) (Or.inr (Or.inl ⟨c35, c36, rfl, rfl⟩))
        · refine aw_iconst (v := 1) (pc' := 12) dX11_isYard_11 rfl (by decide) ?_
          refine aw_goto (tgt := 16) dX11_isYard_12 (by decide) ?_
          exact aw_ri dX11_isYard_16 rfl (by decide) (Nat.le_of_ble_eq_true rfl) (Nat.le_of_ble_eq_true rfl) (Or.inr (Or.inr ⟨c35, c36, rfl, rfl⟩))
    refine aw_callSi (M' := mX11_isYard) (nc' := 0) (ns' := 0) (pc' := 16) dX11_race_13 rfl ml_RX11_122 kX11_isYard cc34 rfl rfl (Nat.le_of_ble_eq_true rfl) (rok rfl) rfl rfl (fun r42 h42 q42 => ?_)
    rcases q42 with ⟨c37, rfl, rfl⟩ | ⟨c38, c39, rfl, rfl⟩ | ⟨c40, c41, rfl, rfl⟩
    · refine aw_if_eq (tgt := 30) (pc' := 19) dX11_race_16 (by decide) rfl (fun _ => ?_) (fun c => absurd (by decide) c)
      refine aw_iconst (v := (-1)) (pc' := 31) dX11_race_30 rfl (by decide) ?_
      exact aw_ri dX11_race_31 rfl rfl (Nat.le_of_ble_eq_true rfl) (Nat.le_of_ble_eq_true rfl) ⟨(by first | (simp [sp_race, cnd, okC, okS, okW, okN, inR, n2_, n3_, n5_, n31_, c37]; done) | (simp_all [sp_race, cnd, okC, okS, okW, okN, inR, n2_, n3_, n5_, n31_]; done) | skip), sm_rf⟩
    · refine aw_if_eq (tgt := 30) (pc' := 19) dX11_race_16 (by decide) rfl (fun _ => ?_) (fun c => absurd (by decide) c)
      refine aw_iconst (v := (-1)) (pc' := 31) dX11_race_30 rfl (by decide) ?_
      exact aw_ri dX11_race_31 rfl rfl (Nat.le_of_ble_eq_true rfl) (Nat.le_of_ble_eq_true rfl) ⟨(by first | (simp [sp_race, cnd, okC, okS, okW, okN, inR, n2_, n3_, n5_, n31_, c38, c39]; done) | (simp_all [sp_race, cnd, okC, okS, okW, okN, inR, n2_, n3_, n5_, n31_]; done) | skip), sm_rf⟩
    · refine aw_if_eq (tgt := 30) (pc' := 19) dX11_race_16 (by decide) rfl (fun c => absurd c (by decide)) (fun _ => ?_)
      refine aw_iload_n (pc' := 20) dX11_race_19 rfl rfl ?_
      refine aw_iconst (v := 1) (pc' := 21) dX11_race_20 rfl (by decide) ?_
      refine aw_clt (tgt := 30) (pc' := 24) dX11_race_21 (by decide) rfl (fun c43 => ?_) (fun c43 => ?_)
      · refine aw_iconst (v := (-1)) (pc' := 31) dX11_race_30 rfl (by decide) ?_
        exact aw_ri dX11_race_31 rfl rfl (Nat.le_of_ble_eq_true rfl) (Nat.le_of_ble_eq_true rfl) ⟨(by first | (simp [sp_race, cnd, okC, okS, okW, okN, inR, n2_, n3_, n5_, n31_, c40, c41, c43]; done) | (simp_all [sp_race, cnd, okC, okS, okW, okN, inR, n2_, n3_, n5_, n31_]; done) | skip), sm_rf⟩
      · refine aw_iload_n (pc' := 25) dX11_race_24 rfl rfl ?_
        refine aw_bipush (v := 9) (pc' := 27) dX11_race_25 rfl (by decide) ?_
        refine aw_cle (tgt := 32) (pc' := 30) dX11_race_27 (by decide) rfl (fun c44 => ?_) (fun c44 => ?_)
        · refine aw_aload_n (pc' := 33) dX11_race_32 rfl rfl rfl ?_
          refine aw_get clsAll (pc' := 36) dX11_race_33 rfl fl_RX11_28 hx.1 rfl ?_
          refine aw_aload (pc' := 38) dX11_race_36 rfl rfl rfl ?_
          refine aw_get clsAll (pc' := 41) dX11_race_38 rfl fl_RX11_165 ((hx.2 22 (by decide) (by decide)).trans h0_22) rfl ?_
          have cc45 : AM mX0_holeOf 0 [.ref 23, .int (-1)] h 0 0 (PA fun r h' => (Value.null = r ∧ h = h')) := by
            refine am_of (lv := [some (.ref 23), some (.int (-1))]) rfl (Nat.le_of_ble_eq_true rfl) rfl ?_
            refine aw_iload_n (pc' := 1) dX0_holeOf_0 rfl rfl ?_
            refine aw_zlt (tgt := 12) (pc' := 4) dX0_holeOf_1 (by decide) rfl (fun _ => ?_) (fun c => absurd (by decide) c)
            refine aw_null (pc' := 13) dX0_holeOf_12 rfl ?_
            refine aw_goto (tgt := 22) dX0_holeOf_13 (by decide) ?_
            exact aw_ra dX0_holeOf_22 rfl (Or.inl ⟨_, rfl⟩) rfl (Nat.le_of_ble_eq_true rfl) (Nat.le_of_ble_eq_true rfl) ⟨rfl, rfl⟩
          refine aw_callVa (M' := mX0_holeOf) (nc' := 0) (ns' := 0) (pc' := 44) dX11_race_41 rfl ml_RX11_139 kX0_holeOf cc45 ((hx.2 15 (by decide) (by decide)).trans h0_15) rfl rfl rfl (Nat.le_of_ble_eq_true rfl) (rok rfl) rfl rfl (fun r46 h46 q46 => ?_)
          obtain ⟨rfl, rfl⟩ := q46
          refine aw_astore (lv' := [_, _, _, _, _, _, _]) (pc' := 46) dX11_race_44 rfl (Nat.le_of_ble_eq_true rfl) rfl rfl ?_
          refine aw_aload (pc' := 48) dX11_race_46 rfl rfl rfl ?_
          refine aw_ifnull_n (tgt := 68) dX11_race_48 (by decide) ?_
          refine aw_bipush (v := (-2)) (pc' := 70) dX11_race_68 rfl (by decide) ?_
          exact aw_ri dX11_race_70 rfl rfl (Nat.le_of_ble_eq_true rfl) (Nat.le_of_ble_eq_true rfl) ⟨(by first | (simp [sp_race, cnd, okC, okS, okW, okN, inR, n2_, n3_, n5_, n31_, c40, c41, c43, c44]; done) | (simp_all [sp_race, cnd, okC, okS, okW, okN, inR, n2_, n3_, n5_, n31_]; done) | skip), sm_rf⟩
        · refine aw_iconst (v := (-1)) (pc' := 31) dX11_race_30 rfl (by decide) ?_
          exact aw_ri dX11_race_31 rfl rfl (Nat.le_of_ble_eq_true rfl) (Nat.le_of_ble_eq_true rfl) ⟨(by first | (simp [sp_race, cnd, okC, okS, okW, okN, inR, n2_, n3_, n5_, n31_, c40, c41, c43, c44]; done) | (simp_all [sp_race, cnd, okC, okS, okW, okN, inR, n2_, n3_, n5_, n31_]; done) | skip), sm_rf⟩
  · refine aw_astore (lv' := [_, _, _, _, _, _, _]) (pc' := 7) dX11_race_5 rfl (Nat.le_of_ble_eq_true rfl) rfl rfl ?_
    refine aw_aload (pc' := 9) dX11_race_7 rfl rfl rfl ?_
    refine aw_ifnull_n (tgt := 30) dX11_race_9 (by decide) ?_
    refine aw_iconst (v := (-1)) (pc' := 31) dX11_race_30 rfl (by decide) ?_
    exact aw_ri dX11_race_31 rfl rfl (Nat.le_of_ble_eq_true rfl) (Nat.le_of_ble_eq_true rfl) ⟨(by first | (simp [sp_race, cnd, okC, okS, okW, okN, inR, n2_, n3_, n5_, n31_, c5, c6]; done) | (simp_all [sp_race, cnd, okC, okS, okW, okN, inR, n2_, n3_, n5_, n31_]; done) | skip), sm_rf⟩
set_option maxRecDepth 4000 in
theorem x_capsule (h : List aE) (hx : Fx 0 h) (hlen : h.length = 126) (b : Int32) : AM mX11_capsule 1 [.ref 8, .int b] h 0 0 (PI fun r h' => r = sp_capsule b ∧ Sm h h') := by
  refine am_of (lv := [some (.ref 8), some (.int b), none, none, none, none]) rfl (Nat.le_of_ble_eq_true rfl) rfl ?_
  refine aw_aload_n (pc' := 1) dX11_capsule_0 rfl rfl rfl ?_
  refine aw_get clsAll (pc' := 4) dX11_capsule_1 rfl fl_RX11_28 hx.1 rfl ?_
  refine aw_iload_n (pc' := 5) dX11_capsule_4 rfl rfl ?_
  have cc1 : AM mX0_holeOf 0 [.ref 23, .int b] h 0 0 (PA fun r h' => (b < 0 ∧ Value.null = r ∧ h = h') ∨ (¬ (b < 0) ∧ Value.null = r ∧ h = h')) := by
    refine am_of (lv := [some (.ref 23), some (.int b)]) rfl (Nat.le_of_ble_eq_true rfl) rfl ?_
    refine aw_iload_n (pc' := 1) dX0_holeOf_0 rfl rfl ?_
    refine aw_zlt (tgt := 12) (pc' := 4) dX0_holeOf_1 (by decide) rfl (fun c2 => ?_) (fun c2 => ?_)
    · refine aw_null (pc' := 13) dX0_holeOf_12 rfl ?_
      refine aw_goto (tgt := 22) dX0_holeOf_13 (by decide) ?_
      exact aw_ra dX0_holeOf_22 rfl (Or.inl ⟨_, rfl⟩) rfl (Nat.le_of_ble_eq_true rfl) (Nat.le_of_ble_eq_true rfl) (Or.inl ⟨c2, rfl, rfl⟩)
    · refine aw_iload_n (pc' := 5) dX0_holeOf_4 rfl rfl ?_
      refine aw_aload_n (pc' := 6) dX0_holeOf_5 rfl rfl rfl ?_
      refine aw_get clsAll (pc' := 9) dX0_holeOf_6 rfl fl_RX0_32 ((hx.2 15 (by decide) (by decide)).trans h0_15) rfl ?_
      refine aw_clt (tgt := 16) (pc' := 12) dX0_holeOf_9 (by decide) rfl (fun c => absurd c c2) (fun _ => ?_)
      refine aw_null (pc' := 13) dX0_holeOf_12 rfl ?_
      refine aw_goto (tgt := 22) dX0_holeOf_13 (by decide) ?_
      exact aw_ra dX0_holeOf_22 rfl (Or.inl ⟨_, rfl⟩) rfl (Nat.le_of_ble_eq_true rfl) (Nat.le_of_ble_eq_true rfl) (Or.inr ⟨c2, rfl, rfl⟩)
  refine aw_callVa (M' := mX0_holeOf) (nc' := 0) (ns' := 0) (pc' := 8) dX11_capsule_5 rfl ml_RX11_139 kX0_holeOf cc1 ((hx.2 15 (by decide) (by decide)).trans h0_15) rfl rfl rfl (Nat.le_of_ble_eq_true rfl) (rok rfl) rfl rfl (fun r5 h5 q5 => ?_)
  rcases q5 with ⟨c3, rfl, rfl⟩ | ⟨c4, rfl, rfl⟩
  · refine aw_astore_n (lv' := [_, _, _, _, _, _]) (pc' := 9) dX11_capsule_8 rfl (Nat.le_of_ble_eq_true rfl) rfl rfl ?_
    refine aw_aload_n (pc' := 10) dX11_capsule_9 rfl rfl rfl ?_
    refine aw_get clsAll (pc' := 13) dX11_capsule_10 rfl fl_RX11_28 hx.1 rfl ?_
    refine aw_iload_n (pc' := 14) dX11_capsule_13 rfl rfl ?_
    have cc6 : AM mX0_kindOf 0 [.ref 23, .int b] h 0 0 (PI fun r h' => ((-1) = r ∧ h = h')) := by
      refine am_of (lv := [some (.ref 23), some (.int b)]) rfl (Nat.le_of_ble_eq_true rfl) rfl ?_
      refine aw_iload_n (pc' := 1) dX0_kindOf_0 rfl rfl ?_
      refine aw_zlt (tgt := 12) (pc' := 4) dX0_kindOf_1 (by decide) rfl (fun _ => ?_) (fun c => absurd c3 c)
      refine aw_iconst (v := (-1)) (pc' := 13) dX0_kindOf_12 rfl (by decide) ?_
      refine aw_goto (tgt := 22) dX0_kindOf_13 (by decide) ?_
      exact aw_ri dX0_kindOf_22 rfl rfl (Nat.le_of_ble_eq_true rfl) (Nat.le_of_ble_eq_true rfl) ⟨rfl, rfl⟩
    refine aw_callVi (M' := mX0_kindOf) (nc' := 0) (ns' := 0) (pc' := 17) dX11_capsule_14 rfl ml_RX11_135 kX0_kindOf cc6 ((hx.2 15 (by decide) (by decide)).trans h0_15) rfl rfl rfl (Nat.le_of_ble_eq_true rfl) (rok rfl) rfl rfl (fun r7 h7 q7 => ?_)
    obtain ⟨rfl, rfl⟩ := q7
    refine aw_istore_n (lv' := [_, _, _, _, _, _]) (pc' := 18) dX11_capsule_17 rfl (Nat.le_of_ble_eq_true rfl) rfl ?_
    refine aw_aload_n (pc' := 19) dX11_capsule_18 rfl rfl rfl ?_
    refine aw_ifnull_n (tgt := 32) dX11_capsule_19 (by decide) ?_
    refine aw_iconst (v := (-1)) (pc' := 33) dX11_capsule_32 rfl (by decide) ?_
    exact aw_ri dX11_capsule_33 rfl rfl (Nat.le_of_ble_eq_true rfl) (Nat.le_of_ble_eq_true rfl) ⟨(by first | (simp [sp_capsule, cnd, okC, okS, okW, okN, inR, n2_, n3_, n5_, n31_, c3]; done) | (simp_all [sp_capsule, cnd, okC, okS, okW, okN, inR, n2_, n3_, n5_, n31_]; done) | skip), sm_rf⟩
  · refine aw_astore_n (lv' := [_, _, _, _, _, _]) (pc' := 9) dX11_capsule_8 rfl (Nat.le_of_ble_eq_true rfl) rfl rfl ?_
    refine aw_aload_n (pc' := 10) dX11_capsule_9 rfl rfl rfl ?_
    refine aw_get clsAll (pc' := 13) dX11_capsule_10 rfl fl_RX11_28 hx.1 rfl ?_
    refine aw_iload_n (pc' := 14) dX11_capsule_13 rfl rfl ?_
    have cc8 : AM mX0_kindOf 0 [.ref 23, .int b] h 0 0 (PI fun r h' => ((-1) = r ∧ h = h')) := by
      refine am_of (lv := [some (.ref 23), some (.int b)]) rfl (Nat.le_of_ble_eq_true rfl) rfl ?_
      refine aw_iload_n (pc' := 1) dX0_kindOf_0 rfl rfl ?_
      refine aw_zlt (tgt := 12) (pc' := 4) dX0_kindOf_1 (by decide) rfl (fun c => absurd c c4) (fun _ => ?_)
      refine aw_iload_n (pc' := 5) dX0_kindOf_4 rfl rfl ?_
      refine aw_aload_n (pc' := 6) dX0_kindOf_5 rfl rfl rfl ?_
      refine aw_get clsAll (pc' := 9) dX0_kindOf_6 rfl fl_RX0_32 ((hx.2 15 (by decide) (by decide)).trans h0_15) rfl ?_
      refine aw_clt (tgt := 16) (pc' := 12) dX0_kindOf_9 (by decide) rfl (fun c => absurd c c4) (fun _ => ?_)
      refine aw_iconst (v := (-1)) (pc' := 13) dX0_kindOf_12 rfl (by decide) ?_
      refine aw_goto (tgt := 22) dX0_kindOf_13 (by decide) ?_
      exact aw_ri dX0_kindOf_22 rfl rfl (Nat.le_of_ble_eq_true rfl) (Nat.le_of_ble_eq_true rfl) ⟨rfl, rfl⟩
    refine aw_callVi (M' := mX0_kindOf) (nc' := 0) (ns' := 0) (pc' := 17) dX11_capsule_14 rfl ml_RX11_135 kX0_kindOf cc8 ((hx.2 15 (by decide) (by decide)).trans h0_15) rfl rfl rfl (Nat.le_of_ble_eq_true rfl) (rok rfl) rfl rfl (fun r9 h9 q9 => ?_)
    obtain ⟨rfl, rfl⟩ := q9
    refine aw_istore_n (lv' := [_, _, _, _, _, _]) (pc' := 18) dX11_capsule_17 rfl (Nat.le_of_ble_eq_true rfl) rfl ?_
    refine aw_aload_n (pc' := 19) dX11_capsule_18 rfl rfl rfl ?_
    refine aw_ifnull_n (tgt := 32) dX11_capsule_19 (by decide) ?_
    refine aw_iconst (v := (-1)) (pc' := 33) dX11_capsule_32 rfl (by decide) ?_
    exact aw_ri dX11_capsule_33 rfl rfl (Nat.le_of_ble_eq_true rfl) (Nat.le_of_ble_eq_true rfl) ⟨(by first | (simp [sp_capsule, cnd, okC, okS, okW, okN, inR, n2_, n3_, n5_, n31_, c4]; done) | (simp_all [sp_capsule, cnd, okC, okS, okW, okN, inR, n2_, n3_, n5_, n31_]; done) | skip), sm_rf⟩
set_option maxRecDepth 4000 in
theorem x_up (h : List aE) (hx : Fx 0 h) (hlen : h.length = 126) (i : Int32) (w : Int32) : AM mX11_up 0 [.ref 8, .int i, .int w] h 0 0 (PI fun r h' => r = sp_up i w ∧ Sm h h') := by
  refine am_of (lv := [some (.ref 8), some (.int i), some (.int w)]) rfl (Nat.le_of_ble_eq_true rfl) rfl ?_
  refine aw_iload_n (pc' := 1) dX11_up_0 rfl rfl ?_
  refine aw_zlt (tgt := 24) (pc' := 4) dX11_up_1 (by decide) rfl (fun c1 => ?_) (fun c1 => ?_)
  · refine aw_iconst (v := (-1)) (pc' := 25) dX11_up_24 rfl (by decide) ?_
    exact aw_ri dX11_up_25 rfl rfl (Nat.le_of_ble_eq_true rfl) (Nat.le_of_ble_eq_true rfl) ⟨(by first | (simp [sp_up, cnd, okC, okS, okW, okN, inR, n2_, n3_, n5_, n31_, c1]; done) | (simp_all [sp_up, cnd, okC, okS, okW, okN, inR, n2_, n3_, n5_, n31_]; done) | skip), sm_rf⟩
  · refine aw_iload_n (pc' := 5) dX11_up_4 rfl rfl ?_
    refine aw_aload_n (pc' := 6) dX11_up_5 rfl rfl rfl ?_
    refine aw_get clsAll (pc' := 9) dX11_up_6 rfl fl_RX11_19 hx.1 rfl ?_
    refine aw_get clsAll (pc' := 12) dX11_up_9 rfl fl_RX11_390 ((hx.2 6 (by decide) (by decide)).trans h0_6) rfl ?_
    refine aw_cge (tgt := 24) (pc' := 15) dX11_up_12 (by decide) rfl (fun _ => ?_) (fun c => absurd c c1)
    refine aw_iconst (v := (-1)) (pc' := 25) dX11_up_24 rfl (by decide) ?_
    exact aw_ri dX11_up_25 rfl rfl (Nat.le_of_ble_eq_true rfl) (Nat.le_of_ble_eq_true rfl) ⟨(by first | (simp [sp_up, cnd, okC, okS, okW, okN, inR, n2_, n3_, n5_, n31_, c1]; done) | (simp_all [sp_up, cnd, okC, okS, okW, okN, inR, n2_, n3_, n5_, n31_]; done) | skip), sm_rf⟩
set_option maxRecDepth 4000 in
theorem x_raise (h : List aE) (hx : Fx 0 h) (hlen : h.length = 126) (n : Int32) : AM mX11_raise 0 [.ref 8, .int n] h 0 0 (PI fun r h' => r = sp_raise n ∧ Sm h h') := by
  refine am_of (lv := [some (.ref 8), some (.int n)]) rfl (Nat.le_of_ble_eq_true rfl) rfl ?_
  refine aw_iload_n (pc' := 1) dX11_raise_0 rfl rfl ?_
  refine aw_zlt (tgt := 11) (pc' := 4) dX11_raise_1 (by decide) rfl (fun c1 => ?_) (fun c1 => ?_)
  · refine aw_iconst (v := (-1)) (pc' := 12) dX11_raise_11 rfl (by decide) ?_
    exact aw_ri dX11_raise_12 rfl rfl (Nat.le_of_ble_eq_true rfl) (Nat.le_of_ble_eq_true rfl) ⟨(by first | (simp [sp_raise, cnd, okC, okS, okW, okN, inR, n2_, n3_, n5_, n31_, c1]; done) | (simp_all [sp_raise, cnd, okC, okS, okW, okN, inR, n2_, n3_, n5_, n31_]; done) | skip), sm_rf⟩
  · refine aw_iload_n (pc' := 5) dX11_raise_4 rfl rfl ?_
    refine aw_sipush (v := 199) (pc' := 8) dX11_raise_5 rfl (by decide) ?_
    refine aw_cle (tgt := 13) (pc' := 11) dX11_raise_8 (by decide) rfl (fun c2 => ?_) (fun c2 => ?_)
    · refine aw_aload_n (pc' := 14) dX11_raise_13 rfl rfl rfl ?_
      refine aw_get clsAll (pc' := 17) dX11_raise_14 rfl fl_RX11_19 hx.1 rfl ?_
      refine aw_get clsAll (pc' := 20) dX11_raise_17 rfl fl_RX11_390 ((hx.2 6 (by decide) (by decide)).trans h0_6) rfl ?_
      refine aw_if_ne (tgt := 28) (pc' := 23) dX11_raise_20 (by decide) rfl (fun c => absurd (by decide) c) (fun _ => ?_)
      refine aw_bipush (v := (-2)) (pc' := 25) dX11_raise_23 rfl (by decide) ?_
      refine aw_goto (tgt := 36) dX11_raise_25 (by decide) ?_
      exact aw_ri dX11_raise_36 rfl rfl (Nat.le_of_ble_eq_true rfl) (Nat.le_of_ble_eq_true rfl) ⟨(by first | (simp [sp_raise, cnd, okC, okS, okW, okN, inR, n2_, n3_, n5_, n31_, c1, c2]; done) | (simp_all [sp_raise, cnd, okC, okS, okW, okN, inR, n2_, n3_, n5_, n31_]; done) | skip), sm_rf⟩
    · refine aw_iconst (v := (-1)) (pc' := 12) dX11_raise_11 rfl (by decide) ?_
      exact aw_ri dX11_raise_12 rfl rfl (Nat.le_of_ble_eq_true rfl) (Nat.le_of_ble_eq_true rfl) ⟨(by first | (simp [sp_raise, cnd, okC, okS, okW, okN, inR, n2_, n3_, n5_, n31_, c1, c2]; done) | (simp_all [sp_raise, cnd, okC, okS, okW, okN, inR, n2_, n3_, n5_, n31_]; done) | skip), sm_rf⟩
set_option maxRecDepth 4000 in
theorem x_act (h : List aE) (hx : Fx 0 h) (hlen : h.length = 126) (b : Int32) (a : Int32) (v : Int32) : AM mX11_act 2 [.ref 8, .int b, .int a, .int v] h 0 0 (PI fun r h' => r = sp_act b a v ∧ Sm h h') := by
  refine am_of (lv := [some (.ref 8), some (.int b), some (.int a), some (.int v)]) rfl (Nat.le_of_ble_eq_true rfl) rfl ?_
  refine aw_aload_n (pc' := 1) dX11_act_0 rfl rfl rfl ?_
  refine aw_get clsAll (pc' := 4) dX11_act_1 rfl fl_RX11_28 hx.1 rfl ?_
  refine aw_iload_n (pc' := 5) dX11_act_4 rfl rfl ?_
  refine aw_iload_n (pc' := 6) dX11_act_5 rfl rfl ?_
  refine aw_iload_n (pc' := 7) dX11_act_6 rfl rfl ?_
  have cc1 : AM mX0_acted 1 [.ref 23, .int b, .int a, .int v] h 0 0 (PI fun r h' => (b < 0 ∧ 0 = r ∧ ∃ h9 : List aE, h.set 15 (.inr (0, [.ref 24, .ref 25, .ref 14, .int 0, .int 0, .int (-1), .int 0, .int 0, .int 0, .int 0, .ref 26, .int 0])) = h9 ∧ h9 = h') ∨ (¬ (b < 0) ∧ 0 = r ∧ ∃ h11 : List aE, h.set 15 (.inr (0, [.ref 24, .ref 25, .ref 14, .int 0, .int 0, .int (-1), .int 0, .int 0, .int 0, .int 0, .ref 26, .int 0])) = h11 ∧ h11 = h')) := by
    refine am_of (lv := [some (.ref 23), some (.int b), some (.int a), some (.int v), none]) rfl (Nat.le_of_ble_eq_true rfl) rfl ?_
    refine aw_aload_n (pc' := 1) dX0_acted_0 rfl rfl rfl ?_
    refine aw_iconst (v := 0) (pc' := 2) dX0_acted_1 rfl (by decide) ?_
    refine aw_putG clsAll (pc' := 5) dX0_acted_2 rfl fl_RX0_64 ((hx.2 15 (by decide) (by decide)).trans h0_15) (Nat.le_of_ble_eq_true rfl) rfl (fun h2 e2 => ?_)
    refine aw_aload_n (pc' := 6) dX0_acted_5 rfl rfl rfl ?_
    refine aw_iload_n (pc' := 7) dX0_acted_6 rfl rfl ?_
    have cc3 : AM mX0_kindOf 0 [.ref 23, .int b] h2 0 0 (PI fun r h' => (b < 0 ∧ (-1) = r ∧ h2 = h') ∨ (¬ (b < 0) ∧ (-1) = r ∧ h2 = h')) := by
      refine am_of (lv := [some (.ref 23), some (.int b)]) rfl (Nat.le_of_ble_eq_true rfl) rfl ?_
      refine aw_iload_n (pc' := 1) dX0_kindOf_0 rfl rfl ?_
      refine aw_zlt (tgt := 12) (pc' := 4) dX0_kindOf_1 (by decide) rfl (fun c4 => ?_) (fun c4 => ?_)
      · refine aw_iconst (v := (-1)) (pc' := 13) dX0_kindOf_12 rfl (by decide) ?_
        refine aw_goto (tgt := 22) dX0_kindOf_13 (by decide) ?_
        exact aw_ri dX0_kindOf_22 rfl rfl (Nat.le_of_ble_eq_true rfl) (Nat.le_of_ble_eq_true rfl) (Or.inl ⟨c4, rfl, rfl⟩)
      · refine aw_iload_n (pc' := 5) dX0_kindOf_4 rfl rfl ?_
        refine aw_aload_n (pc' := 6) dX0_kindOf_5 rfl rfl rfl ?_
        refine aw_get clsAll (pc' := 9) dX0_kindOf_6 rfl fl_RX0_32 (gss e2 ((hx.2 15 (by decide) (by decide)).trans h0_15)) rfl ?_
        refine aw_clt (tgt := 16) (pc' := 12) dX0_kindOf_9 (by decide) rfl (fun c => absurd c c4) (fun _ => ?_)
        refine aw_iconst (v := (-1)) (pc' := 13) dX0_kindOf_12 rfl (by decide) ?_
        refine aw_goto (tgt := 22) dX0_kindOf_13 (by decide) ?_
        exact aw_ri dX0_kindOf_22 rfl rfl (Nat.le_of_ble_eq_true rfl) (Nat.le_of_ble_eq_true rfl) (Or.inr ⟨c4, rfl, rfl⟩)
    refine aw_callVi (M' := mX0_kindOf) (nc' := 0) (ns' := 0) (pc' := 10) dX0_acted_7 rfl ml_RX0_35 kX0_kindOf cc3 (gss e2 ((hx.2 15 (by decide) (by decide)).trans h0_15)) rfl rfl rfl (Nat.le_of_ble_eq_true rfl) (rok rfl) rfl rfl (fun r7 h7 q7 => ?_)
    rcases q7 with ⟨c5, rfl, rfl⟩ | ⟨c6, rfl, rfl⟩
    · refine aw_istore (lv' := [_, _, _, _, _]) (pc' := 12) dX0_acted_10 rfl (Nat.le_of_ble_eq_true rfl) rfl ?_
      refine aw_iload (pc' := 14) dX0_acted_12 rfl rfl ?_
      refine aw_zge (tgt := 19) (pc' := 17) dX0_acted_14 (by decide) rfl (fun c => absurd (by decide) c) (fun _ => ?_)
      refine aw_iconst (v := 0) (pc' := 18) dX0_acted_17 rfl (by decide) ?_
      exact aw_ri dX0_acted_18 rfl rfl (Nat.le_of_ble_eq_true rfl) (Nat.le_of_ble_eq_true rfl) (Or.inl ⟨c5, rfl, h2, e2, rfl⟩)
    · refine aw_istore (lv' := [_, _, _, _, _]) (pc' := 12) dX0_acted_10 rfl (Nat.le_of_ble_eq_true rfl) rfl ?_
      refine aw_iload (pc' := 14) dX0_acted_12 rfl rfl ?_
      refine aw_zge (tgt := 19) (pc' := 17) dX0_acted_14 (by decide) rfl (fun c => absurd (by decide) c) (fun _ => ?_)
      refine aw_iconst (v := 0) (pc' := 18) dX0_acted_17 rfl (by decide) ?_
      exact aw_ri dX0_acted_18 rfl rfl (Nat.le_of_ble_eq_true rfl) (Nat.le_of_ble_eq_true rfl) (Or.inr ⟨c6, rfl, h2, e2, rfl⟩)
  refine aw_callVi (M' := mX0_acted) (nc' := 0) (ns' := 0) (pc' := 10) dX11_act_7 rfl ml_RX11_402 kX0_acted cc1 ((hx.2 15 (by decide) (by decide)).trans h0_15) rfl rfl rfl (Nat.le_of_ble_eq_true rfl) (rok rfl) rfl rfl (fun r12 h12 q12 => ?_)
  rcases q12 with ⟨c8, rfl, h9, e9, rfl⟩ | ⟨c10, rfl, h11, e11, rfl⟩
  · exact aw_ri dX11_act_10 rfl rfl (Nat.le_of_ble_eq_true rfl) (Nat.le_of_ble_eq_true rfl) ⟨(by first | (simp [sp_act, cnd, okC, okS, okW, okN, inR, n2_, n3_, n5_, n31_, c8]; done) | (simp_all [sp_act, cnd, okC, okS, okW, okN, inR, n2_, n3_, n5_, n31_]; done) | skip), (sm_set e9 (by decide) sm_rf)⟩
  · exact aw_ri dX11_act_10 rfl rfl (Nat.le_of_ble_eq_true rfl) (Nat.le_of_ble_eq_true rfl) ⟨(by first | (simp [sp_act, cnd, okC, okS, okW, okN, inR, n2_, n3_, n5_, n31_, c10]; done) | (simp_all [sp_act, cnd, okC, okS, okW, okN, inR, n2_, n3_, n5_, n31_]; done) | skip), (sm_set e11 (by decide) sm_rf)⟩
set_option maxRecDepth 4000 in
theorem x_trace (h : List aE) (hx : Fx 0 h) (hlen : h.length = 126) (i : Int32) : AM mX11_trace 0 [.ref 8, .int i] h 0 0 (PI fun r h' => r = sp_trace i ∧ Sm h h') := by
  refine am_of (lv := [some (.ref 8), some (.int i)]) rfl (Nat.le_of_ble_eq_true rfl) rfl ?_
  refine aw_iload_n (pc' := 1) dX11_trace_0 rfl rfl ?_
  refine aw_zlt (tgt := 21) (pc' := 4) dX11_trace_1 (by decide) rfl (fun c1 => ?_) (fun c1 => ?_)
  · refine aw_iconst (v := (-1)) (pc' := 22) dX11_trace_21 rfl (by decide) ?_
    refine aw_goto (tgt := 34) dX11_trace_22 (by decide) ?_
    exact aw_ri dX11_trace_34 rfl rfl (Nat.le_of_ble_eq_true rfl) (Nat.le_of_ble_eq_true rfl) ⟨(by first | (simp [sp_trace, cnd, okC, okS, okW, okN, inR, n2_, n3_, n5_, n31_, c1]; done) | (simp_all [sp_trace, cnd, okC, okS, okW, okN, inR, n2_, n3_, n5_, n31_]; done) | skip), sm_rf⟩
  · refine aw_iload_n (pc' := 5) dX11_trace_4 rfl rfl ?_
    refine aw_aload_n (pc' := 6) dX11_trace_5 rfl rfl rfl ?_
    refine aw_get clsAll (pc' := 9) dX11_trace_6 rfl fl_RX11_28 hx.1 rfl ?_
    refine aw_get clsAll (pc' := 12) dX11_trace_9 rfl fl_RX11_405 ((hx.2 15 (by decide) (by decide)).trans h0_15) rfl ?_
    refine aw_cge (tgt := 21) (pc' := 15) dX11_trace_12 (by decide) rfl (fun _ => ?_) (fun c => absurd c c1)
    refine aw_iconst (v := (-1)) (pc' := 22) dX11_trace_21 rfl (by decide) ?_
    refine aw_goto (tgt := 34) dX11_trace_22 (by decide) ?_
    exact aw_ri dX11_trace_34 rfl rfl (Nat.le_of_ble_eq_true rfl) (Nat.le_of_ble_eq_true rfl) ⟨(by first | (simp [sp_trace, cnd, okC, okS, okW, okN, inR, n2_, n3_, n5_, n31_, c1]; done) | (simp_all [sp_trace, cnd, okC, okS, okW, okN, inR, n2_, n3_, n5_, n31_]; done) | skip), sm_rf⟩
set_option maxRecDepth 4000 in
theorem x_keep (h : List aE) (hx : Fx 0 h) (hlen : h.length = 126) (s : Int32) (b : Int32) : AM mX11_keep 1 [.ref 8, .int s, .int b] h 0 0 (PI fun r h' => r = sp_keep s b ∧ Sm h h') := by
  refine am_of (lv := [some (.ref 8), some (.int s), some (.int b), none]) rfl (Nat.le_of_ble_eq_true rfl) rfl ?_
  refine aw_aload_n (pc' := 1) dX11_keep_0 rfl rfl rfl ?_
  refine aw_iload_n (pc' := 2) dX11_keep_1 rfl rfl ?_
  have cc1 : AM mX11_shelfOf 0 [.ref 8, .int s] h 0 0 (PA fun r h' => (s < 0 ∧ Value.null = r ∧ h = h') ∨ (s = 0 ∧ Value.ref 55 = r ∧ h = h') ∨ (s = 1 ∧ Value.ref 57 = r ∧ h = h') ∨ (s = 2 ∧ Value.ref 59 = r ∧ h = h') ∨ (s = 3 ∧ Value.ref 61 = r ∧ h = h') ∨ (s = 4 ∧ Value.ref 63 = r ∧ h = h') ∨ (s = 5 ∧ Value.ref 65 = r ∧ h = h') ∨ (¬ (s < 0) ∧ ¬ (s < 6) ∧ Value.null = r ∧ h = h')) := by
    refine am_of (lv := [some (.ref 8), some (.int s)]) rfl (Nat.le_of_ble_eq_true rfl) rfl ?_
    refine aw_iload_n (pc' := 1) dX11_shelfOf_0 rfl rfl ?_
    refine aw_zlt (tgt := 10) (pc' := 4) dX11_shelfOf_1 (by decide) rfl (fun c2 => ?_) (fun c2 => ?_)
    · refine aw_null (pc' := 11) dX11_shelfOf_10 rfl ?_
      refine aw_goto (tgt := 20) dX11_shelfOf_11 (by decide) ?_
      exact aw_ra dX11_shelfOf_20 rfl (Or.inl ⟨_, rfl⟩) rfl (Nat.le_of_ble_eq_true rfl) (Nat.le_of_ble_eq_true rfl) (Or.inl ⟨c2, rfl, rfl⟩)
    · refine aw_iload_n (pc' := 5) dX11_shelfOf_4 rfl rfl ?_
      refine aw_bipush (v := 6) (pc' := 7) dX11_shelfOf_5 rfl (by decide) ?_
      refine aw_clt (tgt := 14) (pc' := 10) dX11_shelfOf_7 (by decide) rfl (fun c3 => ?_) (fun c3 => ?_)
      · refine aw_aload_n (pc' := 15) dX11_shelfOf_14 rfl rfl rfl ?_
        refine aw_get clsAll (pc' := 18) dX11_shelfOf_15 rfl fl_RX11_89 hx.1 rfl ?_
        refine aw_iload_n (pc' := 19) dX11_shelfOf_18 rfl rfl ?_
        rcases six_ c2 c3 with rfl | rfl | rfl | rfl | rfl | rfl
        · refine aw_aald (v := .ref 55) (pc' := 20) dX11_shelfOf_19 rfl ((hx.2 46 (by decide) (by decide)).trans h0_46) (by decide) rfl (vpc (by decide)) rfl ?_
          exact aw_ra dX11_shelfOf_20 rfl (Or.inl ⟨_, rfl⟩) rfl (Nat.le_of_ble_eq_true rfl) (Nat.le_of_ble_eq_true rfl) (Or.inr (Or.inl ⟨rfl, rfl, rfl⟩))
        · refine aw_aald (v := .ref 57) (pc' := 20) dX11_shelfOf_19 rfl ((hx.2 46 (by decide) (by decide)).trans h0_46) (by decide) rfl (vpc (by decide)) rfl ?_
          exact aw_ra dX11_shelfOf_20 rfl (Or.inl ⟨_, rfl⟩) rfl (Nat.le_of_ble_eq_true rfl) (Nat.le_of_ble_eq_true rfl) (Or.inr (Or.inr (Or.inl ⟨rfl, rfl, rfl⟩)))
        · refine aw_aald (v := .ref 59) (pc' := 20) dX11_shelfOf_19 rfl ((hx.2 46 (by decide) (by decide)).trans h0_46) (by decide) rfl (vpc (by decide)) rfl ?_
          exact aw_ra dX11_shelfOf_20 rfl (Or.inl ⟨_, rfl⟩) rfl (Nat.le_of_ble_eq_true rfl) (Nat.le_of_ble_eq_true rfl) (Or.inr (Or.inr (Or.inr (Or.inl ⟨rfl, rfl, rfl⟩))))
        · refine aw_aald (v := .ref 61) (pc' := 20) dX11_shelfOf_19 rfl ((hx.2 46 (by decide) (by decide)).trans h0_46) (by decide) rfl (vpc (by decide)) rfl ?_
          exact aw_ra dX11_shelfOf_20 rfl (Or.inl ⟨_, rfl⟩) rfl (Nat.le_of_ble_eq_true rfl) (Nat.le_of_ble_eq_true rfl) (Or.inr (Or.inr (Or.inr (Or.inr (Or.inl ⟨rfl, rfl, rfl⟩)))))
        · refine aw_aald (v := .ref 63) (pc' := 20) dX11_shelfOf_19 rfl ((hx.2 46 (by decide) (by decide)).trans h0_46) (by decide) rfl (vpc (by decide)) rfl ?_
          exact aw_ra dX11_shelfOf_20 rfl (Or.inl ⟨_, rfl⟩) rfl (Nat.le_of_ble_eq_true rfl) (Nat.le_of_ble_eq_true rfl) (Or.inr (Or.inr (Or.inr (Or.inr (Or.inr (Or.inl ⟨rfl, rfl, rfl⟩))))))
        · refine aw_aald (v := .ref 65) (pc' := 20) dX11_shelfOf_19 rfl ((hx.2 46 (by decide) (by decide)).trans h0_46) (by decide) rfl (vpc (by decide)) rfl ?_
          exact aw_ra dX11_shelfOf_20 rfl (Or.inl ⟨_, rfl⟩) rfl (Nat.le_of_ble_eq_true rfl) (Nat.le_of_ble_eq_true rfl) (Or.inr (Or.inr (Or.inr (Or.inr (Or.inr (Or.inr (Or.inl ⟨rfl, rfl, rfl⟩)))))))
      · refine aw_null (pc' := 11) dX11_shelfOf_10 rfl ?_
        refine aw_goto (tgt := 20) dX11_shelfOf_11 (by decide) ?_
        exact aw_ra dX11_shelfOf_20 rfl (Or.inl ⟨_, rfl⟩) rfl (Nat.le_of_ble_eq_true rfl) (Nat.le_of_ble_eq_true rfl) (Or.inr (Or.inr (Or.inr (Or.inr (Or.inr (Or.inr (Or.inr ⟨c2, c3, rfl, rfl⟩)))))))
  refine aw_callVa (M' := mX11_shelfOf) (nc' := 0) (ns' := 0) (pc' := 5) dX11_keep_2 rfl ml_RX11_190 kX11_shelfOf cc1 hx.1 rfl rfl rfl (Nat.le_of_ble_eq_true rfl) (rok rfl) rfl rfl (fun r7 h7 q7 => ?_)
  rcases q7 with ⟨c4, rfl, rfl⟩ | ⟨rfl, rfl, rfl⟩ | ⟨rfl, rfl, rfl⟩ | ⟨rfl, rfl, rfl⟩ | ⟨rfl, rfl, rfl⟩ | ⟨rfl, rfl, rfl⟩ | ⟨rfl, rfl, rfl⟩ | ⟨c5, c6, rfl, rfl⟩
  · refine aw_astore_n (lv' := [_, _, _, _]) (pc' := 6) dX11_keep_5 rfl (Nat.le_of_ble_eq_true rfl) rfl rfl ?_
    refine aw_aload_n (pc' := 7) dX11_keep_6 rfl rfl rfl ?_
    refine aw_ifnull_n (tgt := 26) dX11_keep_7 (by decide) ?_
    refine aw_iconst (v := (-1)) (pc' := 27) dX11_keep_26 rfl (by decide) ?_
    exact aw_ri dX11_keep_27 rfl rfl (Nat.le_of_ble_eq_true rfl) (Nat.le_of_ble_eq_true rfl) ⟨(by first | (simp [sp_keep, cnd, okC, okS, okW, okN, inR, n2_, n3_, n5_, n31_, c4]; done) | (simp_all [sp_keep, cnd, okC, okS, okW, okN, inR, n2_, n3_, n5_, n31_]; done) | skip), sm_rf⟩
  · refine aw_astore_n (lv' := [_, _, _, _]) (pc' := 6) dX11_keep_5 rfl (Nat.le_of_ble_eq_true rfl) rfl rfl ?_
    refine aw_aload_n (pc' := 7) dX11_keep_6 rfl rfl rfl ?_
    refine aw_ifnull_r (pc' := 10) dX11_keep_7 rfl ?_
    refine aw_iload_n (pc' := 11) dX11_keep_10 rfl rfl ?_
    refine aw_iconst (v := (-1)) (pc' := 12) dX11_keep_11 rfl (by decide) ?_
    refine aw_icmp_eq (tgt := 28) (pc' := 15) dX11_keep_12 (by decide) rfl (fun c8 => ?_) (fun c8 => ?_)
    · refine aw_aload_n (pc' := 29) dX11_keep_28 rfl rfl rfl ?_
      refine aw_iload_n (pc' := 30) dX11_keep_29 rfl rfl ?_
      refine aw_iconst (v := (-1)) (pc' := 31) dX11_keep_30 rfl (by decide) ?_
      refine aw_icmp_ne (tgt := 38) (pc' := 34) dX11_keep_31 (by decide) rfl (fun c => absurd c8 c) (fun _ => ?_)
      refine aw_iconst (v := 0) (pc' := 35) dX11_keep_34 rfl (by decide) ?_
      refine aw_goto (tgt := 39) dX11_keep_35 (by decide) ?_
      refine aw_putG clsAll (pc' := 42) dX11_keep_39 rfl fl_RX11_194 ((hx.2 47 (by decide) (by decide)).trans h0_47) (Nat.le_of_ble_eq_true rfl) rfl (fun h9 e9 => ?_)
      refine aw_aload_n (pc' := 43) dX11_keep_42 rfl rfl rfl ?_
      refine aw_iload_n (pc' := 44) dX11_keep_43 rfl rfl ?_
      refine aw_putG clsAll (pc' := 47) dX11_keep_44 rfl fl_RX11_411 (gss e9 ((hx.2 47 (by decide) (by decide)).trans h0_47)) (Nat.le_of_ble_eq_true rfl) rfl (fun h10 e10 => ?_)
      refine aw_iconst (v := 1) (pc' := 48) dX11_keep_47 rfl (by decide) ?_
      exact aw_ri dX11_keep_48 rfl rfl (Nat.le_of_ble_eq_true rfl) (Nat.le_of_ble_eq_true rfl) ⟨(by first | (simp [sp_keep, cnd, okC, okS, okW, okN, inR, n2_, n3_, n5_, n31_, c8]; done) | (simp_all [sp_keep, cnd, okC, okS, okW, okN, inR, n2_, n3_, n5_, n31_]; done) | skip), (sm_set e10 (by decide) (sm_set e9 (by decide) sm_rf))⟩
    · refine aw_aload_n (pc' := 16) dX11_keep_15 rfl rfl rfl ?_
      refine aw_get clsAll (pc' := 19) dX11_keep_16 rfl fl_RX11_28 hx.1 rfl ?_
      refine aw_iload_n (pc' := 20) dX11_keep_19 rfl rfl ?_
      have cc11 : AM mX0_kindOf 0 [.ref 23, .int b] h 0 0 (PI fun r h' => (b < 0 ∧ (-1) = r ∧ h = h') ∨ (¬ (b < 0) ∧ (-1) = r ∧ h = h')) := by
        refine am_of (lv := [some (.ref 23), some (.int b)]) rfl (Nat.le_of_ble_eq_true rfl) rfl ?_
        refine aw_iload_n (pc' := 1) dX0_kindOf_0 rfl rfl ?_
        refine aw_zlt (tgt := 12) (pc' := 4) dX0_kindOf_1 (by decide) rfl (fun c12 => ?_) (fun c12 => ?_)
        · refine aw_iconst (v := (-1)) (pc' := 13) dX0_kindOf_12 rfl (by decide) ?_
          refine aw_goto (tgt := 22) dX0_kindOf_13 (by decide) ?_
          exact aw_ri dX0_kindOf_22 rfl rfl (Nat.le_of_ble_eq_true rfl) (Nat.le_of_ble_eq_true rfl) (Or.inl ⟨c12, rfl, rfl⟩)
        · refine aw_iload_n (pc' := 5) dX0_kindOf_4 rfl rfl ?_
          refine aw_aload_n (pc' := 6) dX0_kindOf_5 rfl rfl rfl ?_
          refine aw_get clsAll (pc' := 9) dX0_kindOf_6 rfl fl_RX0_32 ((hx.2 15 (by decide) (by decide)).trans h0_15) rfl ?_
          refine aw_clt (tgt := 16) (pc' := 12) dX0_kindOf_9 (by decide) rfl (fun c => absurd c c12) (fun _ => ?_)
          refine aw_iconst (v := (-1)) (pc' := 13) dX0_kindOf_12 rfl (by decide) ?_
          refine aw_goto (tgt := 22) dX0_kindOf_13 (by decide) ?_
          exact aw_ri dX0_kindOf_22 rfl rfl (Nat.le_of_ble_eq_true rfl) (Nat.le_of_ble_eq_true rfl) (Or.inr ⟨c12, rfl, rfl⟩)
      refine aw_callVi (M' := mX0_kindOf) (nc' := 0) (ns' := 0) (pc' := 23) dX11_keep_20 rfl ml_RX11_135 kX0_kindOf cc11 ((hx.2 15 (by decide) (by decide)).trans h0_15) rfl rfl rfl (Nat.le_of_ble_eq_true rfl) (rok rfl) rfl rfl (fun r15 h15 q15 => ?_)
      rcases q15 with ⟨c13, rfl, rfl⟩ | ⟨c14, rfl, rfl⟩
      · refine aw_zge (tgt := 28) (pc' := 26) dX11_keep_23 (by decide) rfl (fun c => absurd (by decide) c) (fun _ => ?_)
        refine aw_iconst (v := (-1)) (pc' := 27) dX11_keep_26 rfl (by decide) ?_
        exact aw_ri dX11_keep_27 rfl rfl (Nat.le_of_ble_eq_true rfl) (Nat.le_of_ble_eq_true rfl) ⟨(by first | (simp [sp_keep, cnd, okC, okS, okW, okN, inR, n2_, n3_, n5_, n31_, c8, c13]; done) | (simp_all [sp_keep, cnd, okC, okS, okW, okN, inR, n2_, n3_, n5_, n31_]; done) | skip), sm_rf⟩
      · refine aw_zge (tgt := 28) (pc' := 26) dX11_keep_23 (by decide) rfl (fun c => absurd (by decide) c) (fun _ => ?_)
        refine aw_iconst (v := (-1)) (pc' := 27) dX11_keep_26 rfl (by decide) ?_
        exact aw_ri dX11_keep_27 rfl rfl (Nat.le_of_ble_eq_true rfl) (Nat.le_of_ble_eq_true rfl) ⟨(by first | (simp [sp_keep, cnd, okC, okS, okW, okN, inR, n2_, n3_, n5_, n31_, c8, c14]; done) | (simp_all [sp_keep, cnd, okC, okS, okW, okN, inR, n2_, n3_, n5_, n31_]; done) | skip), sm_rf⟩
  · refine aw_astore_n (lv' := [_, _, _, _]) (pc' := 6) dX11_keep_5 rfl (Nat.le_of_ble_eq_true rfl) rfl rfl ?_
    refine aw_aload_n (pc' := 7) dX11_keep_6 rfl rfl rfl ?_
    refine aw_ifnull_r (pc' := 10) dX11_keep_7 rfl ?_
    refine aw_iload_n (pc' := 11) dX11_keep_10 rfl rfl ?_
    refine aw_iconst (v := (-1)) (pc' := 12) dX11_keep_11 rfl (by decide) ?_
    refine aw_icmp_eq (tgt := 28) (pc' := 15) dX11_keep_12 (by decide) rfl (fun c16 => ?_) (fun c16 => ?_)
    · refine aw_aload_n (pc' := 29) dX11_keep_28 rfl rfl rfl ?_
      refine aw_iload_n (pc' := 30) dX11_keep_29 rfl rfl ?_
      refine aw_iconst (v := (-1)) (pc' := 31) dX11_keep_30 rfl (by decide) ?_
      refine aw_icmp_ne (tgt := 38) (pc' := 34) dX11_keep_31 (by decide) rfl (fun c => absurd c16 c) (fun _ => ?_)
      refine aw_iconst (v := 0) (pc' := 35) dX11_keep_34 rfl (by decide) ?_
      refine aw_goto (tgt := 39) dX11_keep_35 (by decide) ?_
      refine aw_putG clsAll (pc' := 42) dX11_keep_39 rfl fl_RX11_194 ((hx.2 49 (by decide) (by decide)).trans h0_49) (Nat.le_of_ble_eq_true rfl) rfl (fun h17 e17 => ?_)
      refine aw_aload_n (pc' := 43) dX11_keep_42 rfl rfl rfl ?_
      refine aw_iload_n (pc' := 44) dX11_keep_43 rfl rfl ?_
      refine aw_putG clsAll (pc' := 47) dX11_keep_44 rfl fl_RX11_411 (gss e17 ((hx.2 49 (by decide) (by decide)).trans h0_49)) (Nat.le_of_ble_eq_true rfl) rfl (fun h18 e18 => ?_)
      refine aw_iconst (v := 1) (pc' := 48) dX11_keep_47 rfl (by decide) ?_
      exact aw_ri dX11_keep_48 rfl rfl (Nat.le_of_ble_eq_true rfl) (Nat.le_of_ble_eq_true rfl) ⟨(by first | (simp [sp_keep, cnd, okC, okS, okW, okN, inR, n2_, n3_, n5_, n31_, c16]; done) | (simp_all [sp_keep, cnd, okC, okS, okW, okN, inR, n2_, n3_, n5_, n31_]; done) | skip), (sm_set e18 (by decide) (sm_set e17 (by decide) sm_rf))⟩
    · refine aw_aload_n (pc' := 16) dX11_keep_15 rfl rfl rfl ?_
      refine aw_get clsAll (pc' := 19) dX11_keep_16 rfl fl_RX11_28 hx.1 rfl ?_
      refine aw_iload_n (pc' := 20) dX11_keep_19 rfl rfl ?_
      have cc19 : AM mX0_kindOf 0 [.ref 23, .int b] h 0 0 (PI fun r h' => (b < 0 ∧ (-1) = r ∧ h = h') ∨ (¬ (b < 0) ∧ (-1) = r ∧ h = h')) := by
        refine am_of (lv := [some (.ref 23), some (.int b)]) rfl (Nat.le_of_ble_eq_true rfl) rfl ?_
        refine aw_iload_n (pc' := 1) dX0_kindOf_0 rfl rfl ?_
        refine aw_zlt (tgt := 12) (pc' := 4) dX0_kindOf_1 (by decide) rfl (fun c20 => ?_) (fun c20 => ?_)
        · refine aw_iconst (v := (-1)) (pc' := 13) dX0_kindOf_12 rfl (by decide) ?_
          refine aw_goto (tgt := 22) dX0_kindOf_13 (by decide) ?_
          exact aw_ri dX0_kindOf_22 rfl rfl (Nat.le_of_ble_eq_true rfl) (Nat.le_of_ble_eq_true rfl) (Or.inl ⟨c20, rfl, rfl⟩)
        · refine aw_iload_n (pc' := 5) dX0_kindOf_4 rfl rfl ?_
          refine aw_aload_n (pc' := 6) dX0_kindOf_5 rfl rfl rfl ?_
          refine aw_get clsAll (pc' := 9) dX0_kindOf_6 rfl fl_RX0_32 ((hx.2 15 (by decide) (by decide)).trans h0_15) rfl ?_
          refine aw_clt (tgt := 16) (pc' := 12) dX0_kindOf_9 (by decide) rfl (fun c => absurd c c20) (fun _ => ?_)
          refine aw_iconst (v := (-1)) (pc' := 13) dX0_kindOf_12 rfl (by decide) ?_
          refine aw_goto (tgt := 22) dX0_kindOf_13 (by decide) ?_
          exact aw_ri dX0_kindOf_22 rfl rfl (Nat.le_of_ble_eq_true rfl) (Nat.le_of_ble_eq_true rfl) (Or.inr ⟨c20, rfl, rfl⟩)
      refine aw_callVi (M' := mX0_kindOf) (nc' := 0) (ns' := 0) (pc' := 23) dX11_keep_20 rfl ml_RX11_135 kX0_kindOf cc19 ((hx.2 15 (by decide) (by decide)).trans h0_15) rfl rfl rfl (Nat.le_of_ble_eq_true rfl) (rok rfl) rfl rfl (fun r23 h23 q23 => ?_)
      rcases q23 with ⟨c21, rfl, rfl⟩ | ⟨c22, rfl, rfl⟩
      · refine aw_zge (tgt := 28) (pc' := 26) dX11_keep_23 (by decide) rfl (fun c => absurd (by decide) c) (fun _ => ?_)
        refine aw_iconst (v := (-1)) (pc' := 27) dX11_keep_26 rfl (by decide) ?_
        exact aw_ri dX11_keep_27 rfl rfl (Nat.le_of_ble_eq_true rfl) (Nat.le_of_ble_eq_true rfl) ⟨(by first | (simp [sp_keep, cnd, okC, okS, okW, okN, inR, n2_, n3_, n5_, n31_, c16, c21]; done) | (simp_all [sp_keep, cnd, okC, okS, okW, okN, inR, n2_, n3_, n5_, n31_]; done) | skip), sm_rf⟩
      · refine aw_zge (tgt := 28) (pc' := 26) dX11_keep_23 (by decide) rfl (fun c => absurd (by decide) c) (fun _ => ?_)
        refine aw_iconst (v := (-1)) (pc' := 27) dX11_keep_26 rfl (by decide) ?_
        exact aw_ri dX11_keep_27 rfl rfl (Nat.le_of_ble_eq_true rfl) (Nat.le_of_ble_eq_true rfl) ⟨(by first | (simp [sp_keep, cnd, okC, okS, okW, okN, inR, n2_, n3_, n5_, n31_, c16, c22]; done) | (simp_all [sp_keep, cnd, okC, okS, okW, okN, inR, n2_, n3_, n5_, n31_]; done) | skip), sm_rf⟩
  · refine aw_astore_n (lv' := [_, _, _, _]) (pc' := 6) dX11_keep_5 rfl (Nat.le_of_ble_eq_true rfl) rfl rfl ?_
    refine aw_aload_n (pc' := 7) dX11_keep_6 rfl rfl rfl ?_
    refine aw_ifnull_r (pc' := 10) dX11_keep_7 rfl ?_
    refine aw_iload_n (pc' := 11) dX11_keep_10 rfl rfl ?_
    refine aw_iconst (v := (-1)) (pc' := 12) dX11_keep_11 rfl (by decide) ?_
    refine aw_icmp_eq (tgt := 28) (pc' := 15) dX11_keep_12 (by decide) rfl (fun c24 => ?_) (fun c24 => ?_)
    · refine aw_aload_n (pc' := 29) dX11_keep_28 rfl rfl rfl ?_
      refine aw_iload_n (pc' := 30) dX11_keep_29 rfl rfl ?_
      refine aw_iconst (v := (-1)) (pc' := 31) dX11_keep_30 rfl (by decide) ?_
      refine aw_icmp_ne (tgt := 38) (pc' := 34) dX11_keep_31 (by decide) rfl (fun c => absurd c24 c) (fun _ => ?_)
      refine aw_iconst (v := 0) (pc' := 35) dX11_keep_34 rfl (by decide) ?_
      refine aw_goto (tgt := 39) dX11_keep_35 (by decide) ?_
      refine aw_putG clsAll (pc' := 42) dX11_keep_39 rfl fl_RX11_194 ((hx.2 51 (by decide) (by decide)).trans h0_51) (Nat.le_of_ble_eq_true rfl) rfl (fun h25 e25 => ?_)
      refine aw_aload_n (pc' := 43) dX11_keep_42 rfl rfl rfl ?_
      refine aw_iload_n (pc' := 44) dX11_keep_43 rfl rfl ?_
      refine aw_putG clsAll (pc' := 47) dX11_keep_44 rfl fl_RX11_411 (gss e25 ((hx.2 51 (by decide) (by decide)).trans h0_51)) (Nat.le_of_ble_eq_true rfl) rfl (fun h26 e26 => ?_)
      refine aw_iconst (v := 1) (pc' := 48) dX11_keep_47 rfl (by decide) ?_
      exact aw_ri dX11_keep_48 rfl rfl (Nat.le_of_ble_eq_true rfl) (Nat.le_of_ble_eq_true rfl) ⟨(by first | (simp [sp_keep, cnd, okC, okS, okW, okN, inR, n2_, n3_, n5_, n31_, c24]; done) | (simp_all [sp_keep, cnd, okC, okS, okW, okN, inR, n2_, n3_, n5_, n31_]; done) | skip), (sm_set e26 (by decide) (sm_set e25 (by decide) sm_rf))⟩
    · refine aw_aload_n (pc' := 16) dX11_keep_15 rfl rfl rfl ?_
      refine aw_get clsAll (pc' := 19) dX11_keep_16 rfl fl_RX11_28 hx.1 rfl ?_
      refine aw_iload_n (pc' := 20) dX11_keep_19 rfl rfl ?_
      have cc27 : AM mX0_kindOf 0 [.ref 23, .int b] h 0 0 (PI fun r h' => (b < 0 ∧ (-1) = r ∧ h = h') ∨ (¬ (b < 0) ∧ (-1) = r ∧ h = h')) := by
        refine am_of (lv := [some (.ref 23), some (.int b)]) rfl (Nat.le_of_ble_eq_true rfl) rfl ?_
        refine aw_iload_n (pc' := 1) dX0_kindOf_0 rfl rfl ?_
        refine aw_zlt (tgt := 12) (pc' := 4) dX0_kindOf_1 (by decide) rfl (fun c28 => ?_) (fun c28 => ?_)
        · refine aw_iconst (v := (-1)) (pc' := 13) dX0_kindOf_12 rfl (by decide) ?_
          refine aw_goto (tgt := 22) dX0_kindOf_13 (by decide) ?_
          exact aw_ri dX0_kindOf_22 rfl rfl (Nat.le_of_ble_eq_true rfl) (Nat.le_of_ble_eq_true rfl) (Or.inl ⟨c28, rfl, rfl⟩)
        · refine aw_iload_n (pc' := 5) dX0_kindOf_4 rfl rfl ?_
          refine aw_aload_n (pc' := 6) dX0_kindOf_5 rfl rfl rfl ?_
          refine aw_get clsAll (pc' := 9) dX0_kindOf_6 rfl fl_RX0_32 ((hx.2 15 (by decide) (by decide)).trans h0_15) rfl ?_
          refine aw_clt (tgt := 16) (pc' := 12) dX0_kindOf_9 (by decide) rfl (fun c => absurd c c28) (fun _ => ?_)
          refine aw_iconst (v := (-1)) (pc' := 13) dX0_kindOf_12 rfl (by decide) ?_
          refine aw_goto (tgt := 22) dX0_kindOf_13 (by decide) ?_
          exact aw_ri dX0_kindOf_22 rfl rfl (Nat.le_of_ble_eq_true rfl) (Nat.le_of_ble_eq_true rfl) (Or.inr ⟨c28, rfl, rfl⟩)
      refine aw_callVi (M' := mX0_kindOf) (nc' := 0) (ns' := 0) (pc' := 23) dX11_keep_20 rfl ml_RX11_135 kX0_kindOf cc27 ((hx.2 15 (by decide) (by decide)).trans h0_15) rfl rfl rfl (Nat.le_of_ble_eq_true rfl) (rok rfl) rfl rfl (fun r31 h31 q31 => ?_)
      rcases q31 with ⟨c29, rfl, rfl⟩ | ⟨c30, rfl, rfl⟩
      · refine aw_zge (tgt := 28) (pc' := 26) dX11_keep_23 (by decide) rfl (fun c => absurd (by decide) c) (fun _ => ?_)
        refine aw_iconst (v := (-1)) (pc' := 27) dX11_keep_26 rfl (by decide) ?_
        exact aw_ri dX11_keep_27 rfl rfl (Nat.le_of_ble_eq_true rfl) (Nat.le_of_ble_eq_true rfl) ⟨(by first | (simp [sp_keep, cnd, okC, okS, okW, okN, inR, n2_, n3_, n5_, n31_, c24, c29]; done) | (simp_all [sp_keep, cnd, okC, okS, okW, okN, inR, n2_, n3_, n5_, n31_]; done) | skip), sm_rf⟩
      · refine aw_zge (tgt := 28) (pc' := 26) dX11_keep_23 (by decide) rfl (fun c => absurd (by decide) c) (fun _ => ?_)
        refine aw_iconst (v := (-1)) (pc' := 27) dX11_keep_26 rfl (by decide) ?_
        exact aw_ri dX11_keep_27 rfl rfl (Nat.le_of_ble_eq_true rfl) (Nat.le_of_ble_eq_true rfl) ⟨(by first | (simp [sp_keep, cnd, okC, okS, okW, okN, inR, n2_, n3_, n5_, n31_, c24, c30]; done) | (simp_all [sp_keep, cnd, okC, okS, okW, okN, inR, n2_, n3_, n5_, n31_]; done) | skip), sm_rf⟩
  · refine aw_astore_n (lv' := [_, _, _, _]) (pc' := 6) dX11_keep_5 rfl (Nat.le_of_ble_eq_true rfl) rfl rfl ?_
    refine aw_aload_n (pc' := 7) dX11_keep_6 rfl rfl rfl ?_
    refine aw_ifnull_r (pc' := 10) dX11_keep_7 rfl ?_
    refine aw_iload_n (pc' := 11) dX11_keep_10 rfl rfl ?_
    refine aw_iconst (v := (-1)) (pc' := 12) dX11_keep_11 rfl (by decide) ?_
    refine aw_icmp_eq (tgt := 28) (pc' := 15) dX11_keep_12 (by decide) rfl (fun c32 => ?_) (fun c32 => ?_)
    · refine aw_aload_n (pc' := 29) dX11_keep_28 rfl rfl rfl ?_
      refine aw_iload_n (pc' := 30) dX11_keep_29 rfl rfl ?_
      refine aw_iconst (v := (-1)) (pc' := 31) dX11_keep_30 rfl (by decide) ?_
      refine aw_icmp_ne (tgt := 38) (pc' := 34) dX11_keep_31 (by decide) rfl (fun c => absurd c32 c) (fun _ => ?_)
      refine aw_iconst (v := 0) (pc' := 35) dX11_keep_34 rfl (by decide) ?_
      refine aw_goto (tgt := 39) dX11_keep_35 (by decide) ?_
      refine aw_putG clsAll (pc' := 42) dX11_keep_39 rfl fl_RX11_194 ((hx.2 53 (by decide) (by decide)).trans h0_53) (Nat.le_of_ble_eq_true rfl) rfl (fun h33 e33 => ?_)
      refine aw_aload_n (pc' := 43) dX11_keep_42 rfl rfl rfl ?_
      refine aw_iload_n (pc' := 44) dX11_keep_43 rfl rfl ?_
      refine aw_putG clsAll (pc' := 47) dX11_keep_44 rfl fl_RX11_411 (gss e33 ((hx.2 53 (by decide) (by decide)).trans h0_53)) (Nat.le_of_ble_eq_true rfl) rfl (fun h34 e34 => ?_)
      refine aw_iconst (v := 1) (pc' := 48) dX11_keep_47 rfl (by decide) ?_
      exact aw_ri dX11_keep_48 rfl rfl (Nat.le_of_ble_eq_true rfl) (Nat.le_of_ble_eq_true rfl) ⟨(by first | (simp [sp_keep, cnd, okC, okS, okW, okN, inR, n2_, n3_, n5_, n31_, c32]; done) | (simp_all [sp_keep, cnd, okC, okS, okW, okN, inR, n2_, n3_, n5_, n31_]; done) | skip), (sm_set e34 (by decide) (sm_set e33 (by decide) sm_rf))⟩
    · refine aw_aload_n (pc' := 16) dX11_keep_15 rfl rfl rfl ?_
      refine aw_get clsAll (pc' := 19) dX11_keep_16 rfl fl_RX11_28 hx.1 rfl ?_
      refine aw_iload_n (pc' := 20) dX11_keep_19 rfl rfl ?_
      have cc35 : AM mX0_kindOf 0 [.ref 23, .int b] h 0 0 (PI fun r h' => (b < 0 ∧ (-1) = r ∧ h = h') ∨ (¬ (b < 0) ∧ (-1) = r ∧ h = h')) := by
        refine am_of (lv := [some (.ref 23), some (.int b)]) rfl (Nat.le_of_ble_eq_true rfl) rfl ?_
        refine aw_iload_n (pc' := 1) dX0_kindOf_0 rfl rfl ?_
        refine aw_zlt (tgt := 12) (pc' := 4) dX0_kindOf_1 (by decide) rfl (fun c36 => ?_) (fun c36 => ?_)
        · refine aw_iconst (v := (-1)) (pc' := 13) dX0_kindOf_12 rfl (by decide) ?_
          refine aw_goto (tgt := 22) dX0_kindOf_13 (by decide) ?_
          exact aw_ri dX0_kindOf_22 rfl rfl (Nat.le_of_ble_eq_true rfl) (Nat.le_of_ble_eq_true rfl) (Or.inl ⟨c36, rfl, rfl⟩)
        · refine aw_iload_n (pc' := 5) dX0_kindOf_4 rfl rfl ?_
          refine aw_aload_n (pc' := 6) dX0_kindOf_5 rfl rfl rfl ?_
          refine aw_get clsAll (pc' := 9) dX0_kindOf_6 rfl fl_RX0_32 ((hx.2 15 (by decide) (by decide)).trans h0_15) rfl ?_
          refine aw_clt (tgt := 16) (pc' := 12) dX0_kindOf_9 (by decide) rfl (fun c => absurd c c36) (fun _ => ?_)
          refine aw_iconst (v := (-1)) (pc' := 13) dX0_kindOf_12 rfl (by decide) ?_
          refine aw_goto (tgt := 22) dX0_kindOf_13 (by decide) ?_
          exact aw_ri dX0_kindOf_22 rfl rfl (Nat.le_of_ble_eq_true rfl) (Nat.le_of_ble_eq_true rfl) (Or.inr ⟨c36, rfl, rfl⟩)
      refine aw_callVi (M' := mX0_kindOf) (nc' := 0) (ns' := 0) (pc' := 23) dX11_keep_20 rfl ml_RX11_135 kX0_kindOf cc35 ((hx.2 15 (by decide) (by decide)).trans h0_15) rfl rfl rfl (Nat.le_of_ble_eq_true rfl) (rok rfl) rfl rfl (fun r39 h39 q39 => ?_)
      rcases q39 with ⟨c37, rfl, rfl⟩ | ⟨c38, rfl, rfl⟩
      · refine aw_zge (tgt := 28) (pc' := 26) dX11_keep_23 (by decide) rfl (fun c => absurd (by decide) c) (fun _ => ?_)
        refine aw_iconst (v := (-1)) (pc' := 27) dX11_keep_26 rfl (by decide) ?_
        exact aw_ri dX11_keep_27 rfl rfl (Nat.le_of_ble_eq_true rfl) (Nat.le_of_ble_eq_true rfl) ⟨(by first | (simp [sp_keep, cnd, okC, okS, okW, okN, inR, n2_, n3_, n5_, n31_, c32, c37]; done) | (simp_all [sp_keep, cnd, okC, okS, okW, okN, inR, n2_, n3_, n5_, n31_]; done) | skip), sm_rf⟩
      · refine aw_zge (tgt := 28) (pc' := 26) dX11_keep_23 (by decide) rfl (fun c => absurd (by decide) c) (fun _ => ?_)
        refine aw_iconst (v := (-1)) (pc' := 27) dX11_keep_26 rfl (by decide) ?_
        exact aw_ri dX11_keep_27 rfl rfl (Nat.le_of_ble_eq_true rfl) (Nat.le_of_ble_eq_true rfl) ⟨(by first | (simp [sp_keep, cnd, okC, okS, okW, okN, inR, n2_, n3_, n5_, n31_, c32, c38]; done) | (simp_all [sp_keep, cnd, okC, okS, okW, okN, inR, n2_, n3_, n5_, n31_]; done) | skip), sm_rf⟩
  · refine aw_astore_n (lv' := [_, _, _, _]) (pc' := 6) dX11_keep_5 rfl (Nat.le_of_ble_eq_true rfl) rfl rfl ?_
    refine aw_aload_n (pc' := 7) dX11_keep_6 rfl rfl rfl ?_
    refine aw_ifnull_r (pc' := 10) dX11_keep_7 rfl ?_
    refine aw_iload_n (pc' := 11) dX11_keep_10 rfl rfl ?_
    refine aw_iconst (v := (-1)) (pc' := 12) dX11_keep_11 rfl (by decide) ?_
    refine aw_icmp_eq (tgt := 28) (pc' := 15) dX11_keep_12 (by decide) rfl (fun c40 => ?_) (fun c40 => ?_)
    · refine aw_aload_n (pc' := 29) dX11_keep_28 rfl rfl rfl ?_
      refine aw_iload_n (pc' := 30) dX11_keep_29 rfl rfl ?_
      refine aw_iconst (v := (-1)) (pc' := 31) dX11_keep_30 rfl (by decide) ?_
      refine aw_icmp_ne (tgt := 38) (pc' := 34) dX11_keep_31 (by decide) rfl (fun c => absurd c40 c) (fun _ => ?_)
      refine aw_iconst (v := 0) (pc' := 35) dX11_keep_34 rfl (by decide) ?_
      refine aw_goto (tgt := 39) dX11_keep_35 (by decide) ?_
      refine aw_putG clsAll (pc' := 42) dX11_keep_39 rfl fl_RX11_194 ((hx.2 55 (by decide) (by decide)).trans h0_55) (Nat.le_of_ble_eq_true rfl) rfl (fun h41 e41 => ?_)
      refine aw_aload_n (pc' := 43) dX11_keep_42 rfl rfl rfl ?_
      refine aw_iload_n (pc' := 44) dX11_keep_43 rfl rfl ?_
      refine aw_putG clsAll (pc' := 47) dX11_keep_44 rfl fl_RX11_411 (gss e41 ((hx.2 55 (by decide) (by decide)).trans h0_55)) (Nat.le_of_ble_eq_true rfl) rfl (fun h42 e42 => ?_)
      refine aw_iconst (v := 1) (pc' := 48) dX11_keep_47 rfl (by decide) ?_
      exact aw_ri dX11_keep_48 rfl rfl (Nat.le_of_ble_eq_true rfl) (Nat.le_of_ble_eq_true rfl) ⟨(by first | (simp [sp_keep, cnd, okC, okS, okW, okN, inR, n2_, n3_, n5_, n31_, c40]; done) | (simp_all [sp_keep, cnd, okC, okS, okW, okN, inR, n2_, n3_, n5_, n31_]; done) | skip), (sm_set e42 (by decide) (sm_set e41 (by decide) sm_rf))⟩
    · refine aw_aload_n (pc' := 16) dX11_keep_15 rfl rfl rfl ?_
      refine aw_get clsAll (pc' := 19) dX11_keep_16 rfl fl_RX11_28 hx.1 rfl ?_
      refine aw_iload_n (pc' := 20) dX11_keep_19 rfl rfl ?_
      have cc43 : AM mX0_kindOf 0 [.ref 23, .int b] h 0 0 (PI fun r h' => (b < 0 ∧ (-1) = r ∧ h = h') ∨ (¬ (b < 0) ∧ (-1) = r ∧ h = h')) := by
        refine am_of (lv := [some (.ref 23), some (.int b)]) rfl (Nat.le_of_ble_eq_true rfl) rfl ?_
        refine aw_iload_n (pc' := 1) dX0_kindOf_0 rfl rfl ?_
        refine aw_zlt (tgt := 12) (pc' := 4) dX0_kindOf_1 (by decide) rfl (fun c44 => ?_) (fun c44 => ?_)
        · refine aw_iconst (v := (-1)) (pc' := 13) dX0_kindOf_12 rfl (by decide) ?_
          refine aw_goto (tgt := 22) dX0_kindOf_13 (by decide) ?_
          exact aw_ri dX0_kindOf_22 rfl rfl (Nat.le_of_ble_eq_true rfl) (Nat.le_of_ble_eq_true rfl) (Or.inl ⟨c44, rfl, rfl⟩)
        · refine aw_iload_n (pc' := 5) dX0_kindOf_4 rfl rfl ?_
          refine aw_aload_n (pc' := 6) dX0_kindOf_5 rfl rfl rfl ?_
          refine aw_get clsAll (pc' := 9) dX0_kindOf_6 rfl fl_RX0_32 ((hx.2 15 (by decide) (by decide)).trans h0_15) rfl ?_
          refine aw_clt (tgt := 16) (pc' := 12) dX0_kindOf_9 (by decide) rfl (fun c => absurd c c44) (fun _ => ?_)
          refine aw_iconst (v := (-1)) (pc' := 13) dX0_kindOf_12 rfl (by decide) ?_
          refine aw_goto (tgt := 22) dX0_kindOf_13 (by decide) ?_
          exact aw_ri dX0_kindOf_22 rfl rfl (Nat.le_of_ble_eq_true rfl) (Nat.le_of_ble_eq_true rfl) (Or.inr ⟨c44, rfl, rfl⟩)
      refine aw_callVi (M' := mX0_kindOf) (nc' := 0) (ns' := 0) (pc' := 23) dX11_keep_20 rfl ml_RX11_135 kX0_kindOf cc43 ((hx.2 15 (by decide) (by decide)).trans h0_15) rfl rfl rfl (Nat.le_of_ble_eq_true rfl) (rok rfl) rfl rfl (fun r47 h47 q47 => ?_)
      rcases q47 with ⟨c45, rfl, rfl⟩ | ⟨c46, rfl, rfl⟩
      · refine aw_zge (tgt := 28) (pc' := 26) dX11_keep_23 (by decide) rfl (fun c => absurd (by decide) c) (fun _ => ?_)
        refine aw_iconst (v := (-1)) (pc' := 27) dX11_keep_26 rfl (by decide) ?_
        exact aw_ri dX11_keep_27 rfl rfl (Nat.le_of_ble_eq_true rfl) (Nat.le_of_ble_eq_true rfl) ⟨(by first | (simp [sp_keep, cnd, okC, okS, okW, okN, inR, n2_, n3_, n5_, n31_, c40, c45]; done) | (simp_all [sp_keep, cnd, okC, okS, okW, okN, inR, n2_, n3_, n5_, n31_]; done) | skip), sm_rf⟩
      · refine aw_zge (tgt := 28) (pc' := 26) dX11_keep_23 (by decide) rfl (fun c => absurd (by decide) c) (fun _ => ?_)
        refine aw_iconst (v := (-1)) (pc' := 27) dX11_keep_26 rfl (by decide) ?_
        exact aw_ri dX11_keep_27 rfl rfl (Nat.le_of_ble_eq_true rfl) (Nat.le_of_ble_eq_true rfl) ⟨(by first | (simp [sp_keep, cnd, okC, okS, okW, okN, inR, n2_, n3_, n5_, n31_, c40, c46]; done) | (simp_all [sp_keep, cnd, okC, okS, okW, okN, inR, n2_, n3_, n5_, n31_]; done) | skip), sm_rf⟩
  · refine aw_astore_n (lv' := [_, _, _, _]) (pc' := 6) dX11_keep_5 rfl (Nat.le_of_ble_eq_true rfl) rfl rfl ?_
    refine aw_aload_n (pc' := 7) dX11_keep_6 rfl rfl rfl ?_
    refine aw_ifnull_r (pc' := 10) dX11_keep_7 rfl ?_
    refine aw_iload_n (pc' := 11) dX11_keep_10 rfl rfl ?_
    refine aw_iconst (v := (-1)) (pc' := 12) dX11_keep_11 rfl (by decide) ?_
    refine aw_icmp_eq (tgt := 28) (pc' := 15) dX11_keep_12 (by decide) rfl (fun c48 => ?_) (fun c48 => ?_)
    · refine aw_aload_n (pc' := 29) dX11_keep_28 rfl rfl rfl ?_
      refine aw_iload_n (pc' := 30) dX11_keep_29 rfl rfl ?_
      refine aw_iconst (v := (-1)) (pc' := 31) dX11_keep_30 rfl (by decide) ?_
      refine aw_icmp_ne (tgt := 38) (pc' := 34) dX11_keep_31 (by decide) rfl (fun c => absurd c48 c) (fun _ => ?_)
      refine aw_iconst (v := 0) (pc' := 35) dX11_keep_34 rfl (by decide) ?_
      refine aw_goto (tgt := 39) dX11_keep_35 (by decide) ?_
      refine aw_putG clsAll (pc' := 42) dX11_keep_39 rfl fl_RX11_194 ((hx.2 57 (by decide) (by decide)).trans h0_57) (Nat.le_of_ble_eq_true rfl) rfl (fun h49 e49 => ?_)
      refine aw_aload_n (pc' := 43) dX11_keep_42 rfl rfl rfl ?_
      refine aw_iload_n (pc' := 44) dX11_keep_43 rfl rfl ?_
      refine aw_putG clsAll (pc' := 47) dX11_keep_44 rfl fl_RX11_411 (gss e49 ((hx.2 57 (by decide) (by decide)).trans h0_57)) (Nat.le_of_ble_eq_true rfl) rfl (fun h50 e50 => ?_)
      refine aw_iconst (v := 1) (pc' := 48) dX11_keep_47 rfl (by decide) ?_
      exact aw_ri dX11_keep_48 rfl rfl (Nat.le_of_ble_eq_true rfl) (Nat.le_of_ble_eq_true rfl) ⟨(by first | (simp [sp_keep, cnd, okC, okS, okW, okN, inR, n2_, n3_, n5_, n31_, c48]; done) | (simp_all [sp_keep, cnd, okC, okS, okW, okN, inR, n2_, n3_, n5_, n31_]; done) | skip), (sm_set e50 (by decide) (sm_set e49 (by decide) sm_rf))⟩
    · refine aw_aload_n (pc' := 16) dX11_keep_15 rfl rfl rfl ?_
      refine aw_get clsAll (pc' := 19) dX11_keep_16 rfl fl_RX11_28 hx.1 rfl ?_
      refine aw_iload_n (pc' := 20) dX11_keep_19 rfl rfl ?_
      have cc51 : AM mX0_kindOf 0 [.ref 23, .int b] h 0 0 (PI fun r h' => (b < 0 ∧ (-1) = r ∧ h = h') ∨ (¬ (b < 0) ∧ (-1) = r ∧ h = h')) := by
        refine am_of (lv := [some (.ref 23), some (.int b)]) rfl (Nat.le_of_ble_eq_true rfl) rfl ?_
        refine aw_iload_n (pc' := 1) dX0_kindOf_0 rfl rfl ?_
        refine aw_zlt (tgt := 12) (pc' := 4) dX0_kindOf_1 (by decide) rfl (fun c52 => ?_) (fun c52 => ?_)
        · refine aw_iconst (v := (-1)) (pc' := 13) dX0_kindOf_12 rfl (by decide) ?_
          refine aw_goto (tgt := 22) dX0_kindOf_13 (by decide) ?_
          exact aw_ri dX0_kindOf_22 rfl rfl (Nat.le_of_ble_eq_true rfl) (Nat.le_of_ble_eq_true rfl) (Or.inl ⟨c52, rfl, rfl⟩)
        · refine aw_iload_n (pc' := 5) dX0_kindOf_4 rfl rfl ?_
          refine aw_aload_n (pc' := 6) dX0_kindOf_5 rfl rfl rfl ?_
          refine aw_get clsAll (pc' := 9) dX0_kindOf_6 rfl fl_RX0_32 ((hx.2 15 (by decide) (by decide)).trans h0_15) rfl ?_
          refine aw_clt (tgt := 16) (pc' := 12) dX0_kindOf_9 (by decide) rfl (fun c => absurd c c52) (fun _ => ?_)
          refine aw_iconst (v := (-1)) (pc' := 13) dX0_kindOf_12 rfl (by decide) ?_
          refine aw_goto (tgt := 22) dX0_kindOf_13 (by decide) ?_
          exact aw_ri dX0_kindOf_22 rfl rfl (Nat.le_of_ble_eq_true rfl) (Nat.le_of_ble_eq_true rfl) (Or.inr ⟨c52, rfl, rfl⟩)
      refine aw_callVi (M' := mX0_kindOf) (nc' := 0) (ns' := 0) (pc' := 23) dX11_keep_20 rfl ml_RX11_135 kX0_kindOf cc51 ((hx.2 15 (by decide) (by decide)).trans h0_15) rfl rfl rfl (Nat.le_of_ble_eq_true rfl) (rok rfl) rfl rfl (fun r55 h55 q55 => ?_)
      rcases q55 with ⟨c53, rfl, rfl⟩ | ⟨c54, rfl, rfl⟩
      · refine aw_zge (tgt := 28) (pc' := 26) dX11_keep_23 (by decide) rfl (fun c => absurd (by decide) c) (fun _ => ?_)
        refine aw_iconst (v := (-1)) (pc' := 27) dX11_keep_26 rfl (by decide) ?_
        exact aw_ri dX11_keep_27 rfl rfl (Nat.le_of_ble_eq_true rfl) (Nat.le_of_ble_eq_true rfl) ⟨(by first | (simp [sp_keep, cnd, okC, okS, okW, okN, inR, n2_, n3_, n5_, n31_, c48, c53]; done) | (simp_all [sp_keep, cnd, okC, okS, okW, okN, inR, n2_, n3_, n5_, n31_]; done) | skip), sm_rf⟩
      · refine aw_zge (tgt := 28) (pc' := 26) dX11_keep_23 (by decide) rfl (fun c => absurd (by decide) c) (fun _ => ?_)
        refine aw_iconst (v := (-1)) (pc' := 27) dX11_keep_26 rfl (by decide) ?_
        exact aw_ri dX11_keep_27 rfl rfl (Nat.le_of_ble_eq_true rfl) (Nat.le_of_ble_eq_true rfl) ⟨(by first | (simp [sp_keep, cnd, okC, okS, okW, okN, inR, n2_, n3_, n5_, n31_, c48, c54]; done) | (simp_all [sp_keep, cnd, okC, okS, okW, okN, inR, n2_, n3_, n5_, n31_]; done) | skip), sm_rf⟩
  · refine aw_astore_n (lv' := [_, _, _, _]) (pc' := 6) dX11_keep_5 rfl (Nat.le_of_ble_eq_true rfl) rfl rfl ?_
    refine aw_aload_n (pc' := 7) dX11_keep_6 rfl rfl rfl ?_
    refine aw_ifnull_n (tgt := 26) dX11_keep_7 (by decide) ?_
    refine aw_iconst (v := (-1)) (pc' := 27) dX11_keep_26 rfl (by decide) ?_
    exact aw_ri dX11_keep_27 rfl rfl (Nat.le_of_ble_eq_true rfl) (Nat.le_of_ble_eq_true rfl) ⟨(by first | (simp [sp_keep, cnd, okC, okS, okW, okN, inR, n2_, n3_, n5_, n31_, c5, c6]; done) | (simp_all [sp_keep, cnd, okC, okS, okW, okN, inR, n2_, n3_, n5_, n31_]; done) | skip), sm_rf⟩
set_option maxRecDepth 4000 in
theorem x_row (h : List aE) (hx : Fx 0 h) (hlen : h.length = 126) (s : Int32) (t : Int32) (n : Int32) : AM mX11_row 2 [.ref 8, .int s, .int t, .int n] h 0 0 (PI fun r h' => r = sp_row s t n ∧ Sm h h') := by
  refine am_of (lv := [some (.ref 8), some (.int s), some (.int t), some (.int n), none]) rfl (Nat.le_of_ble_eq_true rfl) rfl ?_
  refine aw_aload_n (pc' := 1) dX11_row_0 rfl rfl rfl ?_
  refine aw_iload_n (pc' := 2) dX11_row_1 rfl rfl ?_
  have cc1 : AM mX11_shelfOf 0 [.ref 8, .int s] h 0 0 (PA fun r h' => (s < 0 ∧ Value.null = r ∧ h = h') ∨ (s = 0 ∧ Value.ref 55 = r ∧ h = h') ∨ (s = 1 ∧ Value.ref 57 = r ∧ h = h') ∨ (s = 2 ∧ Value.ref 59 = r ∧ h = h') ∨ (s = 3 ∧ Value.ref 61 = r ∧ h = h') ∨ (s = 4 ∧ Value.ref 63 = r ∧ h = h') ∨ (s = 5 ∧ Value.ref 65 = r ∧ h = h') ∨ (¬ (s < 0) ∧ ¬ (s < 6) ∧ Value.null = r ∧ h = h')) := by
    refine am_of (lv := [some (.ref 8), some (.int s)]) rfl (Nat.le_of_ble_eq_true rfl) rfl ?_
    refine aw_iload_n (pc' := 1) dX11_shelfOf_0 rfl rfl ?_
    refine aw_zlt (tgt := 10) (pc' := 4) dX11_shelfOf_1 (by decide) rfl (fun c2 => ?_) (fun c2 => ?_)
    · refine aw_null (pc' := 11) dX11_shelfOf_10 rfl ?_
      refine aw_goto (tgt := 20) dX11_shelfOf_11 (by decide) ?_
      exact aw_ra dX11_shelfOf_20 rfl (Or.inl ⟨_, rfl⟩) rfl (Nat.le_of_ble_eq_true rfl) (Nat.le_of_ble_eq_true rfl) (Or.inl ⟨c2, rfl, rfl⟩)
    · refine aw_iload_n (pc' := 5) dX11_shelfOf_4 rfl rfl ?_
      refine aw_bipush (v := 6) (pc' := 7) dX11_shelfOf_5 rfl (by decide) ?_
      refine aw_clt (tgt := 14) (pc' := 10) dX11_shelfOf_7 (by decide) rfl (fun c3 => ?_) (fun c3 => ?_)
      · refine aw_aload_n (pc' := 15) dX11_shelfOf_14 rfl rfl rfl ?_
        refine aw_get clsAll (pc' := 18) dX11_shelfOf_15 rfl fl_RX11_89 hx.1 rfl ?_
        refine aw_iload_n (pc' := 19) dX11_shelfOf_18 rfl rfl ?_
        rcases six_ c2 c3 with rfl | rfl | rfl | rfl | rfl | rfl
        · refine aw_aald (v := .ref 55) (pc' := 20) dX11_shelfOf_19 rfl ((hx.2 46 (by decide) (by decide)).trans h0_46) (by decide) rfl (vpc (by decide)) rfl ?_
          exact aw_ra dX11_shelfOf_20 rfl (Or.inl ⟨_, rfl⟩) rfl (Nat.le_of_ble_eq_true rfl) (Nat.le_of_ble_eq_true rfl) (Or.inr (Or.inl ⟨rfl, rfl, rfl⟩))
        · refine aw_aald (v := .ref 57) (pc' := 20) dX11_shelfOf_19 rfl ((hx.2 46 (by decide) (by decide)).trans h0_46) (by decide) rfl (vpc (by decide)) rfl ?_
          exact aw_ra dX11_shelfOf_20 rfl (Or.inl ⟨_, rfl⟩) rfl (Nat.le_of_ble_eq_true rfl) (Nat.le_of_ble_eq_true rfl) (Or.inr (Or.inr (Or.inl ⟨rfl, rfl, rfl⟩)))
        · refine aw_aald (v := .ref 59) (pc' := 20) dX11_shelfOf_19 rfl ((hx.2 46 (by decide) (by decide)).trans h0_46) (by decide) rfl (vpc (by decide)) rfl ?_
          exact aw_ra dX11_shelfOf_20 rfl (Or.inl ⟨_, rfl⟩) rfl (Nat.le_of_ble_eq_true rfl) (Nat.le_of_ble_eq_true rfl) (Or.inr (Or.inr (Or.inr (Or.inl ⟨rfl, rfl, rfl⟩))))
        · refine aw_aald (v := .ref 61) (pc' := 20) dX11_shelfOf_19 rfl ((hx.2 46 (by decide) (by decide)).trans h0_46) (by decide) rfl (vpc (by decide)) rfl ?_
          exact aw_ra dX11_shelfOf_20 rfl (Or.inl ⟨_, rfl⟩) rfl (Nat.le_of_ble_eq_true rfl) (Nat.le_of_ble_eq_true rfl) (Or.inr (Or.inr (Or.inr (Or.inr (Or.inl ⟨rfl, rfl, rfl⟩)))))
        · refine aw_aald (v := .ref 63) (pc' := 20) dX11_shelfOf_19 rfl ((hx.2 46 (by decide) (by decide)).trans h0_46) (by decide) rfl (vpc (by decide)) rfl ?_
          exact aw_ra dX11_shelfOf_20 rfl (Or.inl ⟨_, rfl⟩) rfl (Nat.le_of_ble_eq_true rfl) (Nat.le_of_ble_eq_true rfl) (Or.inr (Or.inr (Or.inr (Or.inr (Or.inr (Or.inl ⟨rfl, rfl, rfl⟩))))))
        · refine aw_aald (v := .ref 65) (pc' := 20) dX11_shelfOf_19 rfl ((hx.2 46 (by decide) (by decide)).trans h0_46) (by decide) rfl (vpc (by decide)) rfl ?_
          exact aw_ra dX11_shelfOf_20 rfl (Or.inl ⟨_, rfl⟩) rfl (Nat.le_of_ble_eq_true rfl) (Nat.le_of_ble_eq_true rfl) (Or.inr (Or.inr (Or.inr (Or.inr (Or.inr (Or.inr (Or.inl ⟨rfl, rfl, rfl⟩)))))))
      · refine aw_null (pc' := 11) dX11_shelfOf_10 rfl ?_
        refine aw_goto (tgt := 20) dX11_shelfOf_11 (by decide) ?_
        exact aw_ra dX11_shelfOf_20 rfl (Or.inl ⟨_, rfl⟩) rfl (Nat.le_of_ble_eq_true rfl) (Nat.le_of_ble_eq_true rfl) (Or.inr (Or.inr (Or.inr (Or.inr (Or.inr (Or.inr (Or.inr ⟨c2, c3, rfl, rfl⟩)))))))
  refine aw_callVa (M' := mX11_shelfOf) (nc' := 0) (ns' := 0) (pc' := 5) dX11_row_2 rfl ml_RX11_190 kX11_shelfOf cc1 hx.1 rfl rfl rfl (Nat.le_of_ble_eq_true rfl) (rok rfl) rfl rfl (fun r7 h7 q7 => ?_)
  rcases q7 with ⟨c4, rfl, rfl⟩ | ⟨rfl, rfl, rfl⟩ | ⟨rfl, rfl, rfl⟩ | ⟨rfl, rfl, rfl⟩ | ⟨rfl, rfl, rfl⟩ | ⟨rfl, rfl, rfl⟩ | ⟨rfl, rfl, rfl⟩ | ⟨c5, c6, rfl, rfl⟩
  · refine aw_astore (lv' := [_, _, _, _, _]) (pc' := 7) dX11_row_5 rfl (Nat.le_of_ble_eq_true rfl) rfl rfl ?_
    refine aw_aload (pc' := 9) dX11_row_7 rfl rfl rfl ?_
    refine aw_ifnull_n (tgt := 27) dX11_row_9 (by decide) ?_
    refine aw_iconst (v := (-1)) (pc' := 28) dX11_row_27 rfl (by decide) ?_
    exact aw_ri dX11_row_28 rfl rfl (Nat.le_of_ble_eq_true rfl) (Nat.le_of_ble_eq_true rfl) ⟨(by first | (simp [sp_row, cnd, okC, okS, okW, okN, inR, n2_, n3_, n5_, n31_, c4]; done) | (simp_all [sp_row, cnd, okC, okS, okW, okN, inR, n2_, n3_, n5_, n31_]; done) | skip), sm_rf⟩
  · refine aw_astore (lv' := [_, _, _, _, _]) (pc' := 7) dX11_row_5 rfl (Nat.le_of_ble_eq_true rfl) rfl rfl ?_
    refine aw_aload (pc' := 9) dX11_row_7 rfl rfl rfl ?_
    refine aw_ifnull_r (pc' := 12) dX11_row_9 rfl ?_
    refine aw_iload_n (pc' := 13) dX11_row_12 rfl rfl ?_
    refine aw_zlt (tgt := 27) (pc' := 16) dX11_row_13 (by decide) rfl (fun c8 => ?_) (fun c8 => ?_)
    · refine aw_iconst (v := (-1)) (pc' := 28) dX11_row_27 rfl (by decide) ?_
      exact aw_ri dX11_row_28 rfl rfl (Nat.le_of_ble_eq_true rfl) (Nat.le_of_ble_eq_true rfl) ⟨(by first | (simp [sp_row, cnd, okC, okS, okW, okN, inR, n2_, n3_, n5_, n31_, c8]; done) | (simp_all [sp_row, cnd, okC, okS, okW, okN, inR, n2_, n3_, n5_, n31_]; done) | skip), sm_rf⟩
    · refine aw_iload_n (pc' := 17) dX11_row_16 rfl rfl ?_
      refine aw_iconst (v := 4) (pc' := 18) dX11_row_17 rfl (by decide) ?_
      refine aw_cgt (tgt := 27) (pc' := 21) dX11_row_18 (by decide) rfl (fun c9 => ?_) (fun c9 => ?_)
      · refine aw_iconst (v := (-1)) (pc' := 28) dX11_row_27 rfl (by decide) ?_
        exact aw_ri dX11_row_28 rfl rfl (Nat.le_of_ble_eq_true rfl) (Nat.le_of_ble_eq_true rfl) ⟨(by first | (simp [sp_row, cnd, okC, okS, okW, okN, inR, n2_, n3_, n5_, n31_, c8, c9]; done) | (simp_all [sp_row, cnd, okC, okS, okW, okN, inR, n2_, n3_, n5_, n31_]; done) | skip), sm_rf⟩
      · refine aw_iload_n (pc' := 22) dX11_row_21 rfl rfl ?_
        refine aw_bipush (v := 60) (pc' := 24) dX11_row_22 rfl (by decide) ?_
        refine aw_cle (tgt := 29) (pc' := 27) dX11_row_24 (by decide) rfl (fun c10 => ?_) (fun c10 => ?_)
        · refine aw_iload_n (pc' := 30) dX11_row_29 rfl rfl ?_
          refine aw_zge (tgt := 36) (pc' := 33) dX11_row_30 (by decide) rfl (fun c11 => ?_) (fun c11 => ?_)
          · refine aw_aload (pc' := 38) dX11_row_36 rfl rfl rfl ?_
            refine aw_iload_n (pc' := 39) dX11_row_38 rfl rfl ?_
            refine aw_iload_n (pc' := 40) dX11_row_39 rfl rfl ?_
            have cc12 : AM mX8_becomesRow 1 [.ref 55, .int t, .int n] h 0 0 (PV fun h' => (∃ h17 : List aE, h.set 47 (.inr (8, [.int 2, .int 0, .int 0, .int 0, .ref 56])) = h17 ∧ ∃ h18 : List aE, h17.set 47 (.inr (8, [.int 2, .int 0, .int t, .int 0, .ref 56])) = h18 ∧ ∃ h19 : List aE, h18.set 47 (.inr (8, [.int 2, .int 0, .int t, .int n, .ref 56])) = h19 ∧ ∃ h20 : List aE, h19.set 48 (.inl (3, 60, .inr (.inl (fun _ => 0)))) = h20 ∧ h20 = h')) := by
              refine am_of (lv := [some (.ref 55), some (.int t), some (.int n)]) rfl (Nat.le_of_ble_eq_true rfl) rfl ?_
              refine aw_aload_n (pc' := 1) dX8_becomesRow_0 rfl rfl rfl ?_
              refine aw_iconst (v := 2) (pc' := 2) dX8_becomesRow_1 rfl (by decide) ?_
              refine aw_putG clsAll (pc' := 5) dX8_becomesRow_2 rfl fl_RX8_15 ((hx.2 47 (by decide) (by decide)).trans h0_47) (Nat.le_of_ble_eq_true rfl) rfl (fun h13 e13 => ?_)
              refine aw_aload_n (pc' := 6) dX8_becomesRow_5 rfl rfl rfl ?_
              refine aw_iload_n (pc' := 7) dX8_becomesRow_6 rfl rfl ?_
              refine aw_putG clsAll (pc' := 10) dX8_becomesRow_7 rfl fl_RX8_19 (gss e13 ((hx.2 47 (by decide) (by decide)).trans h0_47)) (Nat.le_of_ble_eq_true rfl) rfl (fun h14 e14 => ?_)
              refine aw_aload_n (pc' := 11) dX8_becomesRow_10 rfl rfl rfl ?_
              refine aw_iload_n (pc' := 12) dX8_becomesRow_11 rfl rfl ?_
              refine aw_putG clsAll (pc' := 15) dX8_becomesRow_12 rfl fl_RX8_22 (gss e14 (gss e13 ((hx.2 47 (by decide) (by decide)).trans h0_47))) (Nat.le_of_ble_eq_true rfl) rfl (fun h15 e15 => ?_)
              refine aw_aload_n (pc' := 16) dX8_becomesRow_15 rfl rfl rfl ?_
              refine aw_get clsAll (pc' := 19) dX8_becomesRow_16 rfl fl_RX8_11 (gss e15 (gss e14 (gss e13 ((hx.2 47 (by decide) (by decide)).trans h0_47)))) rfl ?_
              refine aw_lconst (v := 0) (pc' := 20) dX8_becomesRow_19 rfl (by decide) ?_
              refine aw_callSv (M' := mJ7_fill_d0a16) (nc' := 0) (ns' := 0) (pc' := 23) dX8_becomesRow_20 rfl ml_RX8_25 kJ7_fill_d0a16 (c_filll 0 (gsn e15 (by decide) (gsn e14 (by decide) (gsn e13 (by decide) ((hx.2 48 (by decide) (by decide)).trans h0_48)))) (by decide)) rfl rfl (Nat.le_of_ble_eq_true rfl) (rok rfl) rfl rfl (fun h16 q16 => ?_)
              exact aw_rv dX8_becomesRow_23 rfl (Nat.le_of_ble_eq_true rfl) (Nat.le_of_ble_eq_true rfl) ⟨h13, e13, h14, e14, h15, e15, h16, q16, rfl⟩
            refine aw_callVv (M' := mX8_becomesRow) (nc' := 0) (ns' := 0) (pc' := 43) dX11_row_40 rfl ml_RX11_414 kX8_becomesRow cc12 ((hx.2 47 (by decide) (by decide)).trans h0_47) rfl rfl rfl (Nat.le_of_ble_eq_true rfl) (rok rfl) rfl rfl (fun h21 q21 => ?_)
            obtain ⟨h17, e17, h18, e18, h19, e19, h20, e20, rfl⟩ := q21
            refine aw_iconst (v := 1) (pc' := 44) dX11_row_43 rfl (by decide) ?_
            exact aw_ri dX11_row_44 rfl rfl (Nat.le_of_ble_eq_true rfl) (Nat.le_of_ble_eq_true rfl) ⟨(by first | (simp [sp_row, cnd, okC, okS, okW, okN, inR, n2_, n3_, n5_, n31_, c8, c9, c10, c11]; done) | (simp_all [sp_row, cnd, okC, okS, okW, okN, inR, n2_, n3_, n5_, n31_]; done) | skip), (sm_set e20 (by decide) (sm_set e19 (by decide) (sm_set e18 (by decide) (sm_set e17 (by decide) sm_rf))))⟩
          · refine aw_bipush (v := (-14)) (pc' := 35) dX11_row_33 rfl (by decide) ?_
            exact aw_ri dX11_row_35 rfl rfl (Nat.le_of_ble_eq_true rfl) (Nat.le_of_ble_eq_true rfl) ⟨(by first | (simp [sp_row, cnd, okC, okS, okW, okN, inR, n2_, n3_, n5_, n31_, c8, c9, c10, c11]; done) | (simp_all [sp_row, cnd, okC, okS, okW, okN, inR, n2_, n3_, n5_, n31_]; done) | skip), sm_rf⟩
        · refine aw_iconst (v := (-1)) (pc' := 28) dX11_row_27 rfl (by decide) ?_
          exact aw_ri dX11_row_28 rfl rfl (Nat.le_of_ble_eq_true rfl) (Nat.le_of_ble_eq_true rfl) ⟨(by first | (simp [sp_row, cnd, okC, okS, okW, okN, inR, n2_, n3_, n5_, n31_, c8, c9, c10]; done) | (simp_all [sp_row, cnd, okC, okS, okW, okN, inR, n2_, n3_, n5_, n31_]; done) | skip), sm_rf⟩
  · refine aw_astore (lv' := [_, _, _, _, _]) (pc' := 7) dX11_row_5 rfl (Nat.le_of_ble_eq_true rfl) rfl rfl ?_
    refine aw_aload (pc' := 9) dX11_row_7 rfl rfl rfl ?_
    refine aw_ifnull_r (pc' := 12) dX11_row_9 rfl ?_
    refine aw_iload_n (pc' := 13) dX11_row_12 rfl rfl ?_
    refine aw_zlt (tgt := 27) (pc' := 16) dX11_row_13 (by decide) rfl (fun c22 => ?_) (fun c22 => ?_)
    · refine aw_iconst (v := (-1)) (pc' := 28) dX11_row_27 rfl (by decide) ?_
      exact aw_ri dX11_row_28 rfl rfl (Nat.le_of_ble_eq_true rfl) (Nat.le_of_ble_eq_true rfl) ⟨(by first | (simp [sp_row, cnd, okC, okS, okW, okN, inR, n2_, n3_, n5_, n31_, c22]; done) | (simp_all [sp_row, cnd, okC, okS, okW, okN, inR, n2_, n3_, n5_, n31_]; done) | skip), sm_rf⟩
    · refine aw_iload_n (pc' := 17) dX11_row_16 rfl rfl ?_
      refine aw_iconst (v := 4) (pc' := 18) dX11_row_17 rfl (by decide) ?_
      refine aw_cgt (tgt := 27) (pc' := 21) dX11_row_18 (by decide) rfl (fun c23 => ?_) (fun c23 => ?_)
      · refine aw_iconst (v := (-1)) (pc' := 28) dX11_row_27 rfl (by decide) ?_
        exact aw_ri dX11_row_28 rfl rfl (Nat.le_of_ble_eq_true rfl) (Nat.le_of_ble_eq_true rfl) ⟨(by first | (simp [sp_row, cnd, okC, okS, okW, okN, inR, n2_, n3_, n5_, n31_, c22, c23]; done) | (simp_all [sp_row, cnd, okC, okS, okW, okN, inR, n2_, n3_, n5_, n31_]; done) | skip), sm_rf⟩
      · refine aw_iload_n (pc' := 22) dX11_row_21 rfl rfl ?_
        refine aw_bipush (v := 60) (pc' := 24) dX11_row_22 rfl (by decide) ?_
        refine aw_cle (tgt := 29) (pc' := 27) dX11_row_24 (by decide) rfl (fun c24 => ?_) (fun c24 => ?_)
        · refine aw_iload_n (pc' := 30) dX11_row_29 rfl rfl ?_
          refine aw_zge (tgt := 36) (pc' := 33) dX11_row_30 (by decide) rfl (fun c25 => ?_) (fun c25 => ?_)
          · refine aw_aload (pc' := 38) dX11_row_36 rfl rfl rfl ?_
            refine aw_iload_n (pc' := 39) dX11_row_38 rfl rfl ?_
            refine aw_iload_n (pc' := 40) dX11_row_39 rfl rfl ?_
            have cc26 : AM mX8_becomesRow 1 [.ref 57, .int t, .int n] h 0 0 (PV fun h' => (∃ h31 : List aE, h.set 49 (.inr (8, [.int 2, .int 0, .int 0, .int 0, .ref 58])) = h31 ∧ ∃ h32 : List aE, h31.set 49 (.inr (8, [.int 2, .int 0, .int t, .int 0, .ref 58])) = h32 ∧ ∃ h33 : List aE, h32.set 49 (.inr (8, [.int 2, .int 0, .int t, .int n, .ref 58])) = h33 ∧ ∃ h34 : List aE, h33.set 50 (.inl (3, 60, .inr (.inl (fun _ => 0)))) = h34 ∧ h34 = h')) := by
              refine am_of (lv := [some (.ref 57), some (.int t), some (.int n)]) rfl (Nat.le_of_ble_eq_true rfl) rfl ?_
              refine aw_aload_n (pc' := 1) dX8_becomesRow_0 rfl rfl rfl ?_
              refine aw_iconst (v := 2) (pc' := 2) dX8_becomesRow_1 rfl (by decide) ?_
              refine aw_putG clsAll (pc' := 5) dX8_becomesRow_2 rfl fl_RX8_15 ((hx.2 49 (by decide) (by decide)).trans h0_49) (Nat.le_of_ble_eq_true rfl) rfl (fun h27 e27 => ?_)
              refine aw_aload_n (pc' := 6) dX8_becomesRow_5 rfl rfl rfl ?_
              refine aw_iload_n (pc' := 7) dX8_becomesRow_6 rfl rfl ?_
              refine aw_putG clsAll (pc' := 10) dX8_becomesRow_7 rfl fl_RX8_19 (gss e27 ((hx.2 49 (by decide) (by decide)).trans h0_49)) (Nat.le_of_ble_eq_true rfl) rfl (fun h28 e28 => ?_)
              refine aw_aload_n (pc' := 11) dX8_becomesRow_10 rfl rfl rfl ?_
              refine aw_iload_n (pc' := 12) dX8_becomesRow_11 rfl rfl ?_
              refine aw_putG clsAll (pc' := 15) dX8_becomesRow_12 rfl fl_RX8_22 (gss e28 (gss e27 ((hx.2 49 (by decide) (by decide)).trans h0_49))) (Nat.le_of_ble_eq_true rfl) rfl (fun h29 e29 => ?_)
              refine aw_aload_n (pc' := 16) dX8_becomesRow_15 rfl rfl rfl ?_
              refine aw_get clsAll (pc' := 19) dX8_becomesRow_16 rfl fl_RX8_11 (gss e29 (gss e28 (gss e27 ((hx.2 49 (by decide) (by decide)).trans h0_49)))) rfl ?_
              refine aw_lconst (v := 0) (pc' := 20) dX8_becomesRow_19 rfl (by decide) ?_
              refine aw_callSv (M' := mJ7_fill_d0a16) (nc' := 0) (ns' := 0) (pc' := 23) dX8_becomesRow_20 rfl ml_RX8_25 kJ7_fill_d0a16 (c_filll 0 (gsn e29 (by decide) (gsn e28 (by decide) (gsn e27 (by decide) ((hx.2 50 (by decide) (by decide)).trans h0_50)))) (by decide)) rfl rfl (Nat.le_of_ble_eq_true rfl) (rok rfl) rfl rfl (fun h30 q30 => ?_)
              exact aw_rv dX8_becomesRow_23 rfl (Nat.le_of_ble_eq_true rfl) (Nat.le_of_ble_eq_true rfl) ⟨h27, e27, h28, e28, h29, e29, h30, q30, rfl⟩
            refine aw_callVv (M' := mX8_becomesRow) (nc' := 0) (ns' := 0) (pc' := 43) dX11_row_40 rfl ml_RX11_414 kX8_becomesRow cc26 ((hx.2 49 (by decide) (by decide)).trans h0_49) rfl rfl rfl (Nat.le_of_ble_eq_true rfl) (rok rfl) rfl rfl (fun h35 q35 => ?_)
            obtain ⟨h31, e31, h32, e32, h33, e33, h34, e34, rfl⟩ := q35
            refine aw_iconst (v := 1) (pc' := 44) dX11_row_43 rfl (by decide) ?_
            exact aw_ri dX11_row_44 rfl rfl (Nat.le_of_ble_eq_true rfl) (Nat.le_of_ble_eq_true rfl) ⟨(by first | (simp [sp_row, cnd, okC, okS, okW, okN, inR, n2_, n3_, n5_, n31_, c22, c23, c24, c25]; done) | (simp_all [sp_row, cnd, okC, okS, okW, okN, inR, n2_, n3_, n5_, n31_]; done) | skip), (sm_set e34 (by decide) (sm_set e33 (by decide) (sm_set e32 (by decide) (sm_set e31 (by decide) sm_rf))))⟩
          · refine aw_bipush (v := (-14)) (pc' := 35) dX11_row_33 rfl (by decide) ?_
            exact aw_ri dX11_row_35 rfl rfl (Nat.le_of_ble_eq_true rfl) (Nat.le_of_ble_eq_true rfl) ⟨(by first | (simp [sp_row, cnd, okC, okS, okW, okN, inR, n2_, n3_, n5_, n31_, c22, c23, c24, c25]; done) | (simp_all [sp_row, cnd, okC, okS, okW, okN, inR, n2_, n3_, n5_, n31_]; done) | skip), sm_rf⟩
        · refine aw_iconst (v := (-1)) (pc' := 28) dX11_row_27 rfl (by decide) ?_
          exact aw_ri dX11_row_28 rfl rfl (Nat.le_of_ble_eq_true rfl) (Nat.le_of_ble_eq_true rfl) ⟨(by first | (simp [sp_row, cnd, okC, okS, okW, okN, inR, n2_, n3_, n5_, n31_, c22, c23, c24]; done) | (simp_all [sp_row, cnd, okC, okS, okW, okN, inR, n2_, n3_, n5_, n31_]; done) | skip), sm_rf⟩
  · refine aw_astore (lv' := [_, _, _, _, _]) (pc' := 7) dX11_row_5 rfl (Nat.le_of_ble_eq_true rfl) rfl rfl ?_
    refine aw_aload (pc' := 9) dX11_row_7 rfl rfl rfl ?_
    refine aw_ifnull_r (pc' := 12) dX11_row_9 rfl ?_
    refine aw_iload_n (pc' := 13) dX11_row_12 rfl rfl ?_
    refine aw_zlt (tgt := 27) (pc' := 16) dX11_row_13 (by decide) rfl (fun c36 => ?_) (fun c36 => ?_)
    · refine aw_iconst (v := (-1)) (pc' := 28) dX11_row_27 rfl (by decide) ?_
      exact aw_ri dX11_row_28 rfl rfl (Nat.le_of_ble_eq_true rfl) (Nat.le_of_ble_eq_true rfl) ⟨(by first | (simp [sp_row, cnd, okC, okS, okW, okN, inR, n2_, n3_, n5_, n31_, c36]; done) | (simp_all [sp_row, cnd, okC, okS, okW, okN, inR, n2_, n3_, n5_, n31_]; done) | skip), sm_rf⟩
    · refine aw_iload_n (pc' := 17) dX11_row_16 rfl rfl ?_
      refine aw_iconst (v := 4) (pc' := 18) dX11_row_17 rfl (by decide) ?_
      refine aw_cgt (tgt := 27) (pc' := 21) dX11_row_18 (by decide) rfl (fun c37 => ?_) (fun c37 => ?_)
      · refine aw_iconst (v := (-1)) (pc' := 28) dX11_row_27 rfl (by decide) ?_
        exact aw_ri dX11_row_28 rfl rfl (Nat.le_of_ble_eq_true rfl) (Nat.le_of_ble_eq_true rfl) ⟨(by first | (simp [sp_row, cnd, okC, okS, okW, okN, inR, n2_, n3_, n5_, n31_, c36, c37]; done) | (simp_all [sp_row, cnd, okC, okS, okW, okN, inR, n2_, n3_, n5_, n31_]; done) | skip), sm_rf⟩
      · refine aw_iload_n (pc' := 22) dX11_row_21 rfl rfl ?_
        refine aw_bipush (v := 60) (pc' := 24) dX11_row_22 rfl (by decide) ?_
        refine aw_cle (tgt := 29) (pc' := 27) dX11_row_24 (by decide) rfl (fun c38 => ?_) (fun c38 => ?_)
        · refine aw_iload_n (pc' := 30) dX11_row_29 rfl rfl ?_
          refine aw_zge (tgt := 36) (pc' := 33) dX11_row_30 (by decide) rfl (fun c39 => ?_) (fun c39 => ?_)
          · refine aw_aload (pc' := 38) dX11_row_36 rfl rfl rfl ?_
            refine aw_iload_n (pc' := 39) dX11_row_38 rfl rfl ?_
            refine aw_iload_n (pc' := 40) dX11_row_39 rfl rfl ?_
            have cc40 : AM mX8_becomesRow 1 [.ref 59, .int t, .int n] h 0 0 (PV fun h' => (∃ h45 : List aE, h.set 51 (.inr (8, [.int 2, .int 0, .int 0, .int 0, .ref 60])) = h45 ∧ ∃ h46 : List aE, h45.set 51 (.inr (8, [.int 2, .int 0, .int t, .int 0, .ref 60])) = h46 ∧ ∃ h47 : List aE, h46.set 51 (.inr (8, [.int 2, .int 0, .int t, .int n, .ref 60])) = h47 ∧ ∃ h48 : List aE, h47.set 52 (.inl (3, 60, .inr (.inl (fun _ => 0)))) = h48 ∧ h48 = h')) := by
              refine am_of (lv := [some (.ref 59), some (.int t), some (.int n)]) rfl (Nat.le_of_ble_eq_true rfl) rfl ?_
              refine aw_aload_n (pc' := 1) dX8_becomesRow_0 rfl rfl rfl ?_
              refine aw_iconst (v := 2) (pc' := 2) dX8_becomesRow_1 rfl (by decide) ?_
              refine aw_putG clsAll (pc' := 5) dX8_becomesRow_2 rfl fl_RX8_15 ((hx.2 51 (by decide) (by decide)).trans h0_51) (Nat.le_of_ble_eq_true rfl) rfl (fun h41 e41 => ?_)
              refine aw_aload_n (pc' := 6) dX8_becomesRow_5 rfl rfl rfl ?_
              refine aw_iload_n (pc' := 7) dX8_becomesRow_6 rfl rfl ?_
              refine aw_putG clsAll (pc' := 10) dX8_becomesRow_7 rfl fl_RX8_19 (gss e41 ((hx.2 51 (by decide) (by decide)).trans h0_51)) (Nat.le_of_ble_eq_true rfl) rfl (fun h42 e42 => ?_)
              refine aw_aload_n (pc' := 11) dX8_becomesRow_10 rfl rfl rfl ?_
              refine aw_iload_n (pc' := 12) dX8_becomesRow_11 rfl rfl ?_
              refine aw_putG clsAll (pc' := 15) dX8_becomesRow_12 rfl fl_RX8_22 (gss e42 (gss e41 ((hx.2 51 (by decide) (by decide)).trans h0_51))) (Nat.le_of_ble_eq_true rfl) rfl (fun h43 e43 => ?_)
              refine aw_aload_n (pc' := 16) dX8_becomesRow_15 rfl rfl rfl ?_
              refine aw_get clsAll (pc' := 19) dX8_becomesRow_16 rfl fl_RX8_11 (gss e43 (gss e42 (gss e41 ((hx.2 51 (by decide) (by decide)).trans h0_51)))) rfl ?_
              refine aw_lconst (v := 0) (pc' := 20) dX8_becomesRow_19 rfl (by decide) ?_
              refine aw_callSv (M' := mJ7_fill_d0a16) (nc' := 0) (ns' := 0) (pc' := 23) dX8_becomesRow_20 rfl ml_RX8_25 kJ7_fill_d0a16 (c_filll 0 (gsn e43 (by decide) (gsn e42 (by decide) (gsn e41 (by decide) ((hx.2 52 (by decide) (by decide)).trans h0_52)))) (by decide)) rfl rfl (Nat.le_of_ble_eq_true rfl) (rok rfl) rfl rfl (fun h44 q44 => ?_)
              exact aw_rv dX8_becomesRow_23 rfl (Nat.le_of_ble_eq_true rfl) (Nat.le_of_ble_eq_true rfl) ⟨h41, e41, h42, e42, h43, e43, h44, q44, rfl⟩
            refine aw_callVv (M' := mX8_becomesRow) (nc' := 0) (ns' := 0) (pc' := 43) dX11_row_40 rfl ml_RX11_414 kX8_becomesRow cc40 ((hx.2 51 (by decide) (by decide)).trans h0_51) rfl rfl rfl (Nat.le_of_ble_eq_true rfl) (rok rfl) rfl rfl (fun h49 q49 => ?_)
            obtain ⟨h45, e45, h46, e46, h47, e47, h48, e48, rfl⟩ := q49
            refine aw_iconst (v := 1) (pc' := 44) dX11_row_43 rfl (by decide) ?_
            exact aw_ri dX11_row_44 rfl rfl (Nat.le_of_ble_eq_true rfl) (Nat.le_of_ble_eq_true rfl) ⟨(by first | (simp [sp_row, cnd, okC, okS, okW, okN, inR, n2_, n3_, n5_, n31_, c36, c37, c38, c39]; done) | (simp_all [sp_row, cnd, okC, okS, okW, okN, inR, n2_, n3_, n5_, n31_]; done) | skip), (sm_set e48 (by decide) (sm_set e47 (by decide) (sm_set e46 (by decide) (sm_set e45 (by decide) sm_rf))))⟩
          · refine aw_bipush (v := (-14)) (pc' := 35) dX11_row_33 rfl (by decide) ?_
            exact aw_ri dX11_row_35 rfl rfl (Nat.le_of_ble_eq_true rfl) (Nat.le_of_ble_eq_true rfl) ⟨(by first | (simp [sp_row, cnd, okC, okS, okW, okN, inR, n2_, n3_, n5_, n31_, c36, c37, c38, c39]; done) | (simp_all [sp_row, cnd, okC, okS, okW, okN, inR, n2_, n3_, n5_, n31_]; done) | skip), sm_rf⟩
        · refine aw_iconst (v := (-1)) (pc' := 28) dX11_row_27 rfl (by decide) ?_
          exact aw_ri dX11_row_28 rfl rfl (Nat.le_of_ble_eq_true rfl) (Nat.le_of_ble_eq_true rfl) ⟨(by first | (simp [sp_row, cnd, okC, okS, okW, okN, inR, n2_, n3_, n5_, n31_, c36, c37, c38]; done) | (simp_all [sp_row, cnd, okC, okS, okW, okN, inR, n2_, n3_, n5_, n31_]; done) | skip), sm_rf⟩
  · refine aw_astore (lv' := [_, _, _, _, _]) (pc' := 7) dX11_row_5 rfl (Nat.le_of_ble_eq_true rfl) rfl rfl ?_
    refine aw_aload (pc' := 9) dX11_row_7 rfl rfl rfl ?_
    refine aw_ifnull_r (pc' := 12) dX11_row_9 rfl ?_
    refine aw_iload_n (pc' := 13) dX11_row_12 rfl rfl ?_
    refine aw_zlt (tgt := 27) (pc' := 16) dX11_row_13 (by decide) rfl (fun c50 => ?_) (fun c50 => ?_)
    · refine aw_iconst (v := (-1)) (pc' := 28) dX11_row_27 rfl (by decide) ?_
      exact aw_ri dX11_row_28 rfl rfl (Nat.le_of_ble_eq_true rfl) (Nat.le_of_ble_eq_true rfl) ⟨(by first | (simp [sp_row, cnd, okC, okS, okW, okN, inR, n2_, n3_, n5_, n31_, c50]; done) | (simp_all [sp_row, cnd, okC, okS, okW, okN, inR, n2_, n3_, n5_, n31_]; done) | skip), sm_rf⟩
    · refine aw_iload_n (pc' := 17) dX11_row_16 rfl rfl ?_
      refine aw_iconst (v := 4) (pc' := 18) dX11_row_17 rfl (by decide) ?_
      refine aw_cgt (tgt := 27) (pc' := 21) dX11_row_18 (by decide) rfl (fun c51 => ?_) (fun c51 => ?_)
      · refine aw_iconst (v := (-1)) (pc' := 28) dX11_row_27 rfl (by decide) ?_
        exact aw_ri dX11_row_28 rfl rfl (Nat.le_of_ble_eq_true rfl) (Nat.le_of_ble_eq_true rfl) ⟨(by first | (simp [sp_row, cnd, okC, okS, okW, okN, inR, n2_, n3_, n5_, n31_, c50, c51]; done) | (simp_all [sp_row, cnd, okC, okS, okW, okN, inR, n2_, n3_, n5_, n31_]; done) | skip), sm_rf⟩
      · refine aw_iload_n (pc' := 22) dX11_row_21 rfl rfl ?_
        refine aw_bipush (v := 60) (pc' := 24) dX11_row_22 rfl (by decide) ?_
        refine aw_cle (tgt := 29) (pc' := 27) dX11_row_24 (by decide) rfl (fun c52 => ?_) (fun c52 => ?_)
        · refine aw_iload_n (pc' := 30) dX11_row_29 rfl rfl ?_
          refine aw_zge (tgt := 36) (pc' := 33) dX11_row_30 (by decide) rfl (fun c53 => ?_) (fun c53 => ?_)
          · refine aw_aload (pc' := 38) dX11_row_36 rfl rfl rfl ?_
            refine aw_iload_n (pc' := 39) dX11_row_38 rfl rfl ?_
            refine aw_iload_n (pc' := 40) dX11_row_39 rfl rfl ?_
            have cc54 : AM mX8_becomesRow 1 [.ref 61, .int t, .int n] h 0 0 (PV fun h' => (∃ h59 : List aE, h.set 53 (.inr (8, [.int 2, .int 0, .int 0, .int 0, .ref 62])) = h59 ∧ ∃ h60 : List aE, h59.set 53 (.inr (8, [.int 2, .int 0, .int t, .int 0, .ref 62])) = h60 ∧ ∃ h61 : List aE, h60.set 53 (.inr (8, [.int 2, .int 0, .int t, .int n, .ref 62])) = h61 ∧ ∃ h62 : List aE, h61.set 54 (.inl (3, 60, .inr (.inl (fun _ => 0)))) = h62 ∧ h62 = h')) := by
              refine am_of (lv := [some (.ref 61), some (.int t), some (.int n)]) rfl (Nat.le_of_ble_eq_true rfl) rfl ?_
              refine aw_aload_n (pc' := 1) dX8_becomesRow_0 rfl rfl rfl ?_
              refine aw_iconst (v := 2) (pc' := 2) dX8_becomesRow_1 rfl (by decide) ?_
              refine aw_putG clsAll (pc' := 5) dX8_becomesRow_2 rfl fl_RX8_15 ((hx.2 53 (by decide) (by decide)).trans h0_53) (Nat.le_of_ble_eq_true rfl) rfl (fun h55 e55 => ?_)
              refine aw_aload_n (pc' := 6) dX8_becomesRow_5 rfl rfl rfl ?_
              refine aw_iload_n (pc' := 7) dX8_becomesRow_6 rfl rfl ?_
              refine aw_putG clsAll (pc' := 10) dX8_becomesRow_7 rfl fl_RX8_19 (gss e55 ((hx.2 53 (by decide) (by decide)).trans h0_53)) (Nat.le_of_ble_eq_true rfl) rfl (fun h56 e56 => ?_)
              refine aw_aload_n (pc' := 11) dX8_becomesRow_10 rfl rfl rfl ?_
              refine aw_iload_n (pc' := 12) dX8_becomesRow_11 rfl rfl ?_
              refine aw_putG clsAll (pc' := 15) dX8_becomesRow_12 rfl fl_RX8_22 (gss e56 (gss e55 ((hx.2 53 (by decide) (by decide)).trans h0_53))) (Nat.le_of_ble_eq_true rfl) rfl (fun h57 e57 => ?_)
              refine aw_aload_n (pc' := 16) dX8_becomesRow_15 rfl rfl rfl ?_
              refine aw_get clsAll (pc' := 19) dX8_becomesRow_16 rfl fl_RX8_11 (gss e57 (gss e56 (gss e55 ((hx.2 53 (by decide) (by decide)).trans h0_53)))) rfl ?_
              refine aw_lconst (v := 0) (pc' := 20) dX8_becomesRow_19 rfl (by decide) ?_
              refine aw_callSv (M' := mJ7_fill_d0a16) (nc' := 0) (ns' := 0) (pc' := 23) dX8_becomesRow_20 rfl ml_RX8_25 kJ7_fill_d0a16 (c_filll 0 (gsn e57 (by decide) (gsn e56 (by decide) (gsn e55 (by decide) ((hx.2 54 (by decide) (by decide)).trans h0_54)))) (by decide)) rfl rfl (Nat.le_of_ble_eq_true rfl) (rok rfl) rfl rfl (fun h58 q58 => ?_)
              exact aw_rv dX8_becomesRow_23 rfl (Nat.le_of_ble_eq_true rfl) (Nat.le_of_ble_eq_true rfl) ⟨h55, e55, h56, e56, h57, e57, h58, q58, rfl⟩
            refine aw_callVv (M' := mX8_becomesRow) (nc' := 0) (ns' := 0) (pc' := 43) dX11_row_40 rfl ml_RX11_414 kX8_becomesRow cc54 ((hx.2 53 (by decide) (by decide)).trans h0_53) rfl rfl rfl (Nat.le_of_ble_eq_true rfl) (rok rfl) rfl rfl (fun h63 q63 => ?_)
            obtain ⟨h59, e59, h60, e60, h61, e61, h62, e62, rfl⟩ := q63
            refine aw_iconst (v := 1) (pc' := 44) dX11_row_43 rfl (by decide) ?_
            exact aw_ri dX11_row_44 rfl rfl (Nat.le_of_ble_eq_true rfl) (Nat.le_of_ble_eq_true rfl) ⟨(by first | (simp [sp_row, cnd, okC, okS, okW, okN, inR, n2_, n3_, n5_, n31_, c50, c51, c52, c53]; done) | (simp_all [sp_row, cnd, okC, okS, okW, okN, inR, n2_, n3_, n5_, n31_]; done) | skip), (sm_set e62 (by decide) (sm_set e61 (by decide) (sm_set e60 (by decide) (sm_set e59 (by decide) sm_rf))))⟩
          · refine aw_bipush (v := (-14)) (pc' := 35) dX11_row_33 rfl (by decide) ?_
            exact aw_ri dX11_row_35 rfl rfl (Nat.le_of_ble_eq_true rfl) (Nat.le_of_ble_eq_true rfl) ⟨(by first | (simp [sp_row, cnd, okC, okS, okW, okN, inR, n2_, n3_, n5_, n31_, c50, c51, c52, c53]; done) | (simp_all [sp_row, cnd, okC, okS, okW, okN, inR, n2_, n3_, n5_, n31_]; done) | skip), sm_rf⟩
        · refine aw_iconst (v := (-1)) (pc' := 28) dX11_row_27 rfl (by decide) ?_
          exact aw_ri dX11_row_28 rfl rfl (Nat.le_of_ble_eq_true rfl) (Nat.le_of_ble_eq_true rfl) ⟨(by first | (simp [sp_row, cnd, okC, okS, okW, okN, inR, n2_, n3_, n5_, n31_, c50, c51, c52]; done) | (simp_all [sp_row, cnd, okC, okS, okW, okN, inR, n2_, n3_, n5_, n31_]; done) | skip), sm_rf⟩
  · refine aw_astore (lv' := [_, _, _, _, _]) (pc' := 7) dX11_row_5 rfl (Nat.le_of_ble_eq_true rfl) rfl rfl ?_
    refine aw_aload (pc' := 9) dX11_row_7 rfl rfl rfl ?_
    refine aw_ifnull_r (pc' := 12) dX11_row_9 rfl ?_
    refine aw_iload_n (pc' := 13) dX11_row_12 rfl rfl ?_
    refine aw_zlt (tgt := 27) (pc' := 16) dX11_row_13 (by decide) rfl (fun c64 => ?_) (fun c64 => ?_)
    · refine aw_iconst (v := (-1)) (pc' := 28) dX11_row_27 rfl (by decide) ?_
      exact aw_ri dX11_row_28 rfl rfl (Nat.le_of_ble_eq_true rfl) (Nat.le_of_ble_eq_true rfl) ⟨(by first | (simp [sp_row, cnd, okC, okS, okW, okN, inR, n2_, n3_, n5_, n31_, c64]; done) | (simp_all [sp_row, cnd, okC, okS, okW, okN, inR, n2_, n3_, n5_, n31_]; done) | skip), sm_rf⟩
    · refine aw_iload_n (pc' := 17) dX11_row_16 rfl rfl ?_
      refine aw_iconst (v := 4) (pc' := 18) dX11_row_17 rfl (by decide) ?_
      refine aw_cgt (tgt := 27) (pc' := 21) dX11_row_18 (by decide) rfl (fun c65 => ?_) (fun c65 => ?_)
      · refine aw_iconst (v := (-1)) (pc' := 28) dX11_row_27 rfl (by decide) ?_
        exact aw_ri dX11_row_28 rfl rfl (Nat.le_of_ble_eq_true rfl) (Nat.le_of_ble_eq_true rfl) ⟨(by first | (simp [sp_row, cnd, okC, okS, okW, okN, inR, n2_, n3_, n5_, n31_, c64, c65]; done) | (simp_all [sp_row, cnd, okC, okS, okW, okN, inR, n2_, n3_, n5_, n31_]; done) | skip), sm_rf⟩
      · refine aw_iload_n (pc' := 22) dX11_row_21 rfl rfl ?_
        refine aw_bipush (v := 60) (pc' := 24) dX11_row_22 rfl (by decide) ?_
        refine aw_cle (tgt := 29) (pc' := 27) dX11_row_24 (by decide) rfl (fun c66 => ?_) (fun c66 => ?_)
        · refine aw_iload_n (pc' := 30) dX11_row_29 rfl rfl ?_
          refine aw_zge (tgt := 36) (pc' := 33) dX11_row_30 (by decide) rfl (fun c67 => ?_) (fun c67 => ?_)
          · refine aw_aload (pc' := 38) dX11_row_36 rfl rfl rfl ?_
            refine aw_iload_n (pc' := 39) dX11_row_38 rfl rfl ?_
            refine aw_iload_n (pc' := 40) dX11_row_39 rfl rfl ?_
            have cc68 : AM mX8_becomesRow 1 [.ref 63, .int t, .int n] h 0 0 (PV fun h' => (∃ h73 : List aE, h.set 55 (.inr (8, [.int 2, .int 0, .int 0, .int 0, .ref 64])) = h73 ∧ ∃ h74 : List aE, h73.set 55 (.inr (8, [.int 2, .int 0, .int t, .int 0, .ref 64])) = h74 ∧ ∃ h75 : List aE, h74.set 55 (.inr (8, [.int 2, .int 0, .int t, .int n, .ref 64])) = h75 ∧ ∃ h76 : List aE, h75.set 56 (.inl (3, 60, .inr (.inl (fun _ => 0)))) = h76 ∧ h76 = h')) := by
              refine am_of (lv := [some (.ref 63), some (.int t), some (.int n)]) rfl (Nat.le_of_ble_eq_true rfl) rfl ?_
              refine aw_aload_n (pc' := 1) dX8_becomesRow_0 rfl rfl rfl ?_
              refine aw_iconst (v := 2) (pc' := 2) dX8_becomesRow_1 rfl (by decide) ?_
              refine aw_putG clsAll (pc' := 5) dX8_becomesRow_2 rfl fl_RX8_15 ((hx.2 55 (by decide) (by decide)).trans h0_55) (Nat.le_of_ble_eq_true rfl) rfl (fun h69 e69 => ?_)
              refine aw_aload_n (pc' := 6) dX8_becomesRow_5 rfl rfl rfl ?_
              refine aw_iload_n (pc' := 7) dX8_becomesRow_6 rfl rfl ?_
              refine aw_putG clsAll (pc' := 10) dX8_becomesRow_7 rfl fl_RX8_19 (gss e69 ((hx.2 55 (by decide) (by decide)).trans h0_55)) (Nat.le_of_ble_eq_true rfl) rfl (fun h70 e70 => ?_)
              refine aw_aload_n (pc' := 11) dX8_becomesRow_10 rfl rfl rfl ?_
              refine aw_iload_n (pc' := 12) dX8_becomesRow_11 rfl rfl ?_
              refine aw_putG clsAll (pc' := 15) dX8_becomesRow_12 rfl fl_RX8_22 (gss e70 (gss e69 ((hx.2 55 (by decide) (by decide)).trans h0_55))) (Nat.le_of_ble_eq_true rfl) rfl (fun h71 e71 => ?_)
              refine aw_aload_n (pc' := 16) dX8_becomesRow_15 rfl rfl rfl ?_
              refine aw_get clsAll (pc' := 19) dX8_becomesRow_16 rfl fl_RX8_11 (gss e71 (gss e70 (gss e69 ((hx.2 55 (by decide) (by decide)).trans h0_55)))) rfl ?_
              refine aw_lconst (v := 0) (pc' := 20) dX8_becomesRow_19 rfl (by decide) ?_
              refine aw_callSv (M' := mJ7_fill_d0a16) (nc' := 0) (ns' := 0) (pc' := 23) dX8_becomesRow_20 rfl ml_RX8_25 kJ7_fill_d0a16 (c_filll 0 (gsn e71 (by decide) (gsn e70 (by decide) (gsn e69 (by decide) ((hx.2 56 (by decide) (by decide)).trans h0_56)))) (by decide)) rfl rfl (Nat.le_of_ble_eq_true rfl) (rok rfl) rfl rfl (fun h72 q72 => ?_)
              exact aw_rv dX8_becomesRow_23 rfl (Nat.le_of_ble_eq_true rfl) (Nat.le_of_ble_eq_true rfl) ⟨h69, e69, h70, e70, h71, e71, h72, q72, rfl⟩
            refine aw_callVv (M' := mX8_becomesRow) (nc' := 0) (ns' := 0) (pc' := 43) dX11_row_40 rfl ml_RX11_414 kX8_becomesRow cc68 ((hx.2 55 (by decide) (by decide)).trans h0_55) rfl rfl rfl (Nat.le_of_ble_eq_true rfl) (rok rfl) rfl rfl (fun h77 q77 => ?_)
            obtain ⟨h73, e73, h74, e74, h75, e75, h76, e76, rfl⟩ := q77
            refine aw_iconst (v := 1) (pc' := 44) dX11_row_43 rfl (by decide) ?_
            exact aw_ri dX11_row_44 rfl rfl (Nat.le_of_ble_eq_true rfl) (Nat.le_of_ble_eq_true rfl) ⟨(by first | (simp [sp_row, cnd, okC, okS, okW, okN, inR, n2_, n3_, n5_, n31_, c64, c65, c66, c67]; done) | (simp_all [sp_row, cnd, okC, okS, okW, okN, inR, n2_, n3_, n5_, n31_]; done) | skip), (sm_set e76 (by decide) (sm_set e75 (by decide) (sm_set e74 (by decide) (sm_set e73 (by decide) sm_rf))))⟩
          · refine aw_bipush (v := (-14)) (pc' := 35) dX11_row_33 rfl (by decide) ?_
            exact aw_ri dX11_row_35 rfl rfl (Nat.le_of_ble_eq_true rfl) (Nat.le_of_ble_eq_true rfl) ⟨(by first | (simp [sp_row, cnd, okC, okS, okW, okN, inR, n2_, n3_, n5_, n31_, c64, c65, c66, c67]; done) | (simp_all [sp_row, cnd, okC, okS, okW, okN, inR, n2_, n3_, n5_, n31_]; done) | skip), sm_rf⟩
        · refine aw_iconst (v := (-1)) (pc' := 28) dX11_row_27 rfl (by decide) ?_
          exact aw_ri dX11_row_28 rfl rfl (Nat.le_of_ble_eq_true rfl) (Nat.le_of_ble_eq_true rfl) ⟨(by first | (simp [sp_row, cnd, okC, okS, okW, okN, inR, n2_, n3_, n5_, n31_, c64, c65, c66]; done) | (simp_all [sp_row, cnd, okC, okS, okW, okN, inR, n2_, n3_, n5_, n31_]; done) | skip), sm_rf⟩
  · refine aw_astore (lv' := [_, _, _, _, _]) (pc' := 7) dX11_row_5 rfl (Nat.le_of_ble_eq_true rfl) rfl rfl ?_
    refine aw_aload (pc' := 9) dX11_row_7 rfl rfl rfl ?_
    refine aw_ifnull_r (pc' := 12) dX11_row_9 rfl ?_
    refine aw_iload_n (pc' := 13) dX11_row_12 rfl rfl ?_
    refine aw_zlt (tgt := 27) (pc' := 16) dX11_row_13 (by decide) rfl (fun c78 => ?_) (fun c78 => ?_)
    · refine aw_iconst (v := (-1)) (pc' := 28) dX11_row_27 rfl (by decide) ?_
      exact aw_ri dX11_row_28 rfl rfl (Nat.le_of_ble_eq_true rfl) (Nat.le_of_ble_eq_true rfl) ⟨(by first | (simp [sp_row, cnd, okC, okS, okW, okN, inR, n2_, n3_, n5_, n31_, c78]; done) | (simp_all [sp_row, cnd, okC, okS, okW, okN, inR, n2_, n3_, n5_, n31_]; done) | skip), sm_rf⟩
    · refine aw_iload_n (pc' := 17) dX11_row_16 rfl rfl ?_
      refine aw_iconst (v := 4) (pc' := 18) dX11_row_17 rfl (by decide) ?_
      refine aw_cgt (tgt := 27) (pc' := 21) dX11_row_18 (by decide) rfl (fun c79 => ?_) (fun c79 => ?_)
      · refine aw_iconst (v := (-1)) (pc' := 28) dX11_row_27 rfl (by decide) ?_
        exact aw_ri dX11_row_28 rfl rfl (Nat.le_of_ble_eq_true rfl) (Nat.le_of_ble_eq_true rfl) ⟨(by first | (simp [sp_row, cnd, okC, okS, okW, okN, inR, n2_, n3_, n5_, n31_, c78, c79]; done) | (simp_all [sp_row, cnd, okC, okS, okW, okN, inR, n2_, n3_, n5_, n31_]; done) | skip), sm_rf⟩
      · refine aw_iload_n (pc' := 22) dX11_row_21 rfl rfl ?_
        refine aw_bipush (v := 60) (pc' := 24) dX11_row_22 rfl (by decide) ?_
        refine aw_cle (tgt := 29) (pc' := 27) dX11_row_24 (by decide) rfl (fun c80 => ?_) (fun c80 => ?_)
        · refine aw_iload_n (pc' := 30) dX11_row_29 rfl rfl ?_
          refine aw_zge (tgt := 36) (pc' := 33) dX11_row_30 (by decide) rfl (fun c81 => ?_) (fun c81 => ?_)
          · refine aw_aload (pc' := 38) dX11_row_36 rfl rfl rfl ?_
            refine aw_iload_n (pc' := 39) dX11_row_38 rfl rfl ?_
            refine aw_iload_n (pc' := 40) dX11_row_39 rfl rfl ?_
            have cc82 : AM mX8_becomesRow 1 [.ref 65, .int t, .int n] h 0 0 (PV fun h' => (∃ h87 : List aE, h.set 57 (.inr (8, [.int 2, .int 0, .int 0, .int 0, .ref 66])) = h87 ∧ ∃ h88 : List aE, h87.set 57 (.inr (8, [.int 2, .int 0, .int t, .int 0, .ref 66])) = h88 ∧ ∃ h89 : List aE, h88.set 57 (.inr (8, [.int 2, .int 0, .int t, .int n, .ref 66])) = h89 ∧ ∃ h90 : List aE, h89.set 58 (.inl (3, 60, .inr (.inl (fun _ => 0)))) = h90 ∧ h90 = h')) := by
              refine am_of (lv := [some (.ref 65), some (.int t), some (.int n)]) rfl (Nat.le_of_ble_eq_true rfl) rfl ?_
              refine aw_aload_n (pc' := 1) dX8_becomesRow_0 rfl rfl rfl ?_
              refine aw_iconst (v := 2) (pc' := 2) dX8_becomesRow_1 rfl (by decide) ?_
              refine aw_putG clsAll (pc' := 5) dX8_becomesRow_2 rfl fl_RX8_15 ((hx.2 57 (by decide) (by decide)).trans h0_57) (Nat.le_of_ble_eq_true rfl) rfl (fun h83 e83 => ?_)
              refine aw_aload_n (pc' := 6) dX8_becomesRow_5 rfl rfl rfl ?_
              refine aw_iload_n (pc' := 7) dX8_becomesRow_6 rfl rfl ?_
              refine aw_putG clsAll (pc' := 10) dX8_becomesRow_7 rfl fl_RX8_19 (gss e83 ((hx.2 57 (by decide) (by decide)).trans h0_57)) (Nat.le_of_ble_eq_true rfl) rfl (fun h84 e84 => ?_)
              refine aw_aload_n (pc' := 11) dX8_becomesRow_10 rfl rfl rfl ?_
              refine aw_iload_n (pc' := 12) dX8_becomesRow_11 rfl rfl ?_
              refine aw_putG clsAll (pc' := 15) dX8_becomesRow_12 rfl fl_RX8_22 (gss e84 (gss e83 ((hx.2 57 (by decide) (by decide)).trans h0_57))) (Nat.le_of_ble_eq_true rfl) rfl (fun h85 e85 => ?_)
              refine aw_aload_n (pc' := 16) dX8_becomesRow_15 rfl rfl rfl ?_
              refine aw_get clsAll (pc' := 19) dX8_becomesRow_16 rfl fl_RX8_11 (gss e85 (gss e84 (gss e83 ((hx.2 57 (by decide) (by decide)).trans h0_57)))) rfl ?_
              refine aw_lconst (v := 0) (pc' := 20) dX8_becomesRow_19 rfl (by decide) ?_
              refine aw_callSv (M' := mJ7_fill_d0a16) (nc' := 0) (ns' := 0) (pc' := 23) dX8_becomesRow_20 rfl ml_RX8_25 kJ7_fill_d0a16 (c_filll 0 (gsn e85 (by decide) (gsn e84 (by decide) (gsn e83 (by decide) ((hx.2 58 (by decide) (by decide)).trans h0_58)))) (by decide)) rfl rfl (Nat.le_of_ble_eq_true rfl) (rok rfl) rfl rfl (fun h86 q86 => ?_)
              exact aw_rv dX8_becomesRow_23 rfl (Nat.le_of_ble_eq_true rfl) (Nat.le_of_ble_eq_true rfl) ⟨h83, e83, h84, e84, h85, e85, h86, q86, rfl⟩
            refine aw_callVv (M' := mX8_becomesRow) (nc' := 0) (ns' := 0) (pc' := 43) dX11_row_40 rfl ml_RX11_414 kX8_becomesRow cc82 ((hx.2 57 (by decide) (by decide)).trans h0_57) rfl rfl rfl (Nat.le_of_ble_eq_true rfl) (rok rfl) rfl rfl (fun h91 q91 => ?_)
            obtain ⟨h87, e87, h88, e88, h89, e89, h90, e90, rfl⟩ := q91
            refine aw_iconst (v := 1) (pc' := 44) dX11_row_43 rfl (by decide) ?_
            exact aw_ri dX11_row_44 rfl rfl (Nat.le_of_ble_eq_true rfl) (Nat.le_of_ble_eq_true rfl) ⟨(by first | (simp [sp_row, cnd, okC, okS, okW, okN, inR, n2_, n3_, n5_, n31_, c78, c79, c80, c81]; done) | (simp_all [sp_row, cnd, okC, okS, okW, okN, inR, n2_, n3_, n5_, n31_]; done) | skip), (sm_set e90 (by decide) (sm_set e89 (by decide) (sm_set e88 (by decide) (sm_set e87 (by decide) sm_rf))))⟩
          · refine aw_bipush (v := (-14)) (pc' := 35) dX11_row_33 rfl (by decide) ?_
            exact aw_ri dX11_row_35 rfl rfl (Nat.le_of_ble_eq_true rfl) (Nat.le_of_ble_eq_true rfl) ⟨(by first | (simp [sp_row, cnd, okC, okS, okW, okN, inR, n2_, n3_, n5_, n31_, c78, c79, c80, c81]; done) | (simp_all [sp_row, cnd, okC, okS, okW, okN, inR, n2_, n3_, n5_, n31_]; done) | skip), sm_rf⟩
        · refine aw_iconst (v := (-1)) (pc' := 28) dX11_row_27 rfl (by decide) ?_
          exact aw_ri dX11_row_28 rfl rfl (Nat.le_of_ble_eq_true rfl) (Nat.le_of_ble_eq_true rfl) ⟨(by first | (simp [sp_row, cnd, okC, okS, okW, okN, inR, n2_, n3_, n5_, n31_, c78, c79, c80]; done) | (simp_all [sp_row, cnd, okC, okS, okW, okN, inR, n2_, n3_, n5_, n31_]; done) | skip), sm_rf⟩
  · refine aw_astore (lv' := [_, _, _, _, _]) (pc' := 7) dX11_row_5 rfl (Nat.le_of_ble_eq_true rfl) rfl rfl ?_
    refine aw_aload (pc' := 9) dX11_row_7 rfl rfl rfl ?_
    refine aw_ifnull_n (tgt := 27) dX11_row_9 (by decide) ?_
    refine aw_iconst (v := (-1)) (pc' := 28) dX11_row_27 rfl (by decide) ?_
    exact aw_ri dX11_row_28 rfl rfl (Nat.le_of_ble_eq_true rfl) (Nat.le_of_ble_eq_true rfl) ⟨(by first | (simp [sp_row, cnd, okC, okS, okW, okN, inR, n2_, n3_, n5_, n31_, c5, c6]; done) | (simp_all [sp_row, cnd, okC, okS, okW, okN, inR, n2_, n3_, n5_, n31_]; done) | skip), sm_rf⟩
set_option maxRecDepth 4000 in
theorem x_put (h : List aE) (hx : Fx 0 h) (hlen : h.length = 126) (s : Int32) (i : Int32) (lv_ : Int64) : AM mX11_put 1 [.ref 8, .int s, .int i, .long lv_] h 0 0 (PI fun r h' => r = sp_put s i ∧ Sm h h') := by
  refine am_of (lv := [some (.ref 8), some (.int s), some (.int i), some (.long lv_), none, none, none]) rfl (Nat.le_of_ble_eq_true rfl) rfl ?_
  refine aw_aload_n (pc' := 1) dX11_put_0 rfl rfl rfl ?_
  refine aw_iload_n (pc' := 2) dX11_put_1 rfl rfl ?_
  have cc1 : AM mX11_shelfOf 0 [.ref 8, .int s] h 0 0 (PA fun r h' => (s < 0 ∧ Value.null = r ∧ h = h') ∨ (s = 0 ∧ Value.ref 55 = r ∧ h = h') ∨ (s = 1 ∧ Value.ref 57 = r ∧ h = h') ∨ (s = 2 ∧ Value.ref 59 = r ∧ h = h') ∨ (s = 3 ∧ Value.ref 61 = r ∧ h = h') ∨ (s = 4 ∧ Value.ref 63 = r ∧ h = h') ∨ (s = 5 ∧ Value.ref 65 = r ∧ h = h') ∨ (¬ (s < 0) ∧ ¬ (s < 6) ∧ Value.null = r ∧ h = h')) := by
    refine am_of (lv := [some (.ref 8), some (.int s)]) rfl (Nat.le_of_ble_eq_true rfl) rfl ?_
    refine aw_iload_n (pc' := 1) dX11_shelfOf_0 rfl rfl ?_
    refine aw_zlt (tgt := 10) (pc' := 4) dX11_shelfOf_1 (by decide) rfl (fun c2 => ?_) (fun c2 => ?_)
    · refine aw_null (pc' := 11) dX11_shelfOf_10 rfl ?_
      refine aw_goto (tgt := 20) dX11_shelfOf_11 (by decide) ?_
      exact aw_ra dX11_shelfOf_20 rfl (Or.inl ⟨_, rfl⟩) rfl (Nat.le_of_ble_eq_true rfl) (Nat.le_of_ble_eq_true rfl) (Or.inl ⟨c2, rfl, rfl⟩)
    · refine aw_iload_n (pc' := 5) dX11_shelfOf_4 rfl rfl ?_
      refine aw_bipush (v := 6) (pc' := 7) dX11_shelfOf_5 rfl (by decide) ?_
      refine aw_clt (tgt := 14) (pc' := 10) dX11_shelfOf_7 (by decide) rfl (fun c3 => ?_) (fun c3 => ?_)
      · refine aw_aload_n (pc' := 15) dX11_shelfOf_14 rfl rfl rfl ?_
        refine aw_get clsAll (pc' := 18) dX11_shelfOf_15 rfl fl_RX11_89 hx.1 rfl ?_
        refine aw_iload_n (pc' := 19) dX11_shelfOf_18 rfl rfl ?_
        rcases six_ c2 c3 with rfl | rfl | rfl | rfl | rfl | rfl
        · refine aw_aald (v := .ref 55) (pc' := 20) dX11_shelfOf_19 rfl ((hx.2 46 (by decide) (by decide)).trans h0_46) (by decide) rfl (vpc (by decide)) rfl ?_
          exact aw_ra dX11_shelfOf_20 rfl (Or.inl ⟨_, rfl⟩) rfl (Nat.le_of_ble_eq_true rfl) (Nat.le_of_ble_eq_true rfl) (Or.inr (Or.inl ⟨rfl, rfl, rfl⟩))
        · refine aw_aald (v := .ref 57) (pc' := 20) dX11_shelfOf_19 rfl ((hx.2 46 (by decide) (by decide)).trans h0_46) (by decide) rfl (vpc (by decide)) rfl ?_
          exact aw_ra dX11_shelfOf_20 rfl (Or.inl ⟨_, rfl⟩) rfl (Nat.le_of_ble_eq_true rfl) (Nat.le_of_ble_eq_true rfl) (Or.inr (Or.inr (Or.inl ⟨rfl, rfl, rfl⟩)))
        · refine aw_aald (v := .ref 59) (pc' := 20) dX11_shelfOf_19 rfl ((hx.2 46 (by decide) (by decide)).trans h0_46) (by decide) rfl (vpc (by decide)) rfl ?_
          exact aw_ra dX11_shelfOf_20 rfl (Or.inl ⟨_, rfl⟩) rfl (Nat.le_of_ble_eq_true rfl) (Nat.le_of_ble_eq_true rfl) (Or.inr (Or.inr (Or.inr (Or.inl ⟨rfl, rfl, rfl⟩))))
        · refine aw_aald (v := .ref 61) (pc' := 20) dX11_shelfOf_19 rfl ((hx.2 46 (by decide) (by decide)).trans h0_46) (by decide) rfl (vpc (by decide)) rfl ?_
          exact aw_ra dX11_shelfOf_20 rfl (Or.inl ⟨_, rfl⟩) rfl (Nat.le_of_ble_eq_true rfl) (Nat.le_of_ble_eq_true rfl) (Or.inr (Or.inr (Or.inr (Or.inr (Or.inl ⟨rfl, rfl, rfl⟩)))))
        · refine aw_aald (v := .ref 63) (pc' := 20) dX11_shelfOf_19 rfl ((hx.2 46 (by decide) (by decide)).trans h0_46) (by decide) rfl (vpc (by decide)) rfl ?_
          exact aw_ra dX11_shelfOf_20 rfl (Or.inl ⟨_, rfl⟩) rfl (Nat.le_of_ble_eq_true rfl) (Nat.le_of_ble_eq_true rfl) (Or.inr (Or.inr (Or.inr (Or.inr (Or.inr (Or.inl ⟨rfl, rfl, rfl⟩))))))
        · refine aw_aald (v := .ref 65) (pc' := 20) dX11_shelfOf_19 rfl ((hx.2 46 (by decide) (by decide)).trans h0_46) (by decide) rfl (vpc (by decide)) rfl ?_
          exact aw_ra dX11_shelfOf_20 rfl (Or.inl ⟨_, rfl⟩) rfl (Nat.le_of_ble_eq_true rfl) (Nat.le_of_ble_eq_true rfl) (Or.inr (Or.inr (Or.inr (Or.inr (Or.inr (Or.inr (Or.inl ⟨rfl, rfl, rfl⟩)))))))
      · refine aw_null (pc' := 11) dX11_shelfOf_10 rfl ?_
        refine aw_goto (tgt := 20) dX11_shelfOf_11 (by decide) ?_
        exact aw_ra dX11_shelfOf_20 rfl (Or.inl ⟨_, rfl⟩) rfl (Nat.le_of_ble_eq_true rfl) (Nat.le_of_ble_eq_true rfl) (Or.inr (Or.inr (Or.inr (Or.inr (Or.inr (Or.inr (Or.inr ⟨c2, c3, rfl, rfl⟩)))))))
  refine aw_callVa (M' := mX11_shelfOf) (nc' := 0) (ns' := 0) (pc' := 5) dX11_put_2 rfl ml_RX11_190 kX11_shelfOf cc1 hx.1 rfl rfl rfl (Nat.le_of_ble_eq_true rfl) (rok rfl) rfl rfl (fun r7 h7 q7 => ?_)
  rcases q7 with ⟨c4, rfl, rfl⟩ | ⟨rfl, rfl, rfl⟩ | ⟨rfl, rfl, rfl⟩ | ⟨rfl, rfl, rfl⟩ | ⟨rfl, rfl, rfl⟩ | ⟨rfl, rfl, rfl⟩ | ⟨rfl, rfl, rfl⟩ | ⟨c5, c6, rfl, rfl⟩
  · refine aw_astore (lv' := [_, _, _, _, _, _, _]) (pc' := 7) dX11_put_5 rfl (Nat.le_of_ble_eq_true rfl) rfl rfl ?_
    refine aw_aload (pc' := 9) dX11_put_7 rfl rfl rfl ?_
    refine aw_ifnull_n (tgt := 36) dX11_put_9 (by decide) ?_
    refine aw_iconst (v := (-1)) (pc' := 37) dX11_put_36 rfl (by decide) ?_
    exact aw_ri dX11_put_37 rfl rfl (Nat.le_of_ble_eq_true rfl) (Nat.le_of_ble_eq_true rfl) ⟨(by first | (simp [sp_put, cnd, okC, okS, okW, okN, inR, n2_, n3_, n5_, n31_, c4]; done) | (simp_all [sp_put, cnd, okC, okS, okW, okN, inR, n2_, n3_, n5_, n31_]; done) | skip), sm_rf⟩
  · refine aw_astore (lv' := [_, _, _, _, _, _, _]) (pc' := 7) dX11_put_5 rfl (Nat.le_of_ble_eq_true rfl) rfl rfl ?_
    refine aw_aload (pc' := 9) dX11_put_7 rfl rfl rfl ?_
    refine aw_ifnull_r (pc' := 12) dX11_put_9 rfl ?_
    refine aw_aload (pc' := 14) dX11_put_12 rfl rfl rfl ?_
    have cc8 : AM mX8_isReal 0 [.ref 55] h 0 0 (PI fun r h' => (0 = r ∧ h = h')) := by
      refine am_of (lv := [some (.ref 55)]) rfl (Nat.le_of_ble_eq_true rfl) rfl ?_
      refine aw_aload_n (pc' := 1) dX8_isReal_0 rfl rfl rfl ?_
      refine aw_get clsAll (pc' := 4) dX8_isReal_1 rfl fl_RX8_15 ((hx.2 47 (by decide) (by decide)).trans h0_47) rfl ?_
      refine aw_iconst (v := 2) (pc' := 5) dX8_isReal_4 rfl (by decide) ?_
      refine aw_icmp_ne (tgt := 28) (pc' := 8) dX8_isReal_5 (by decide) rfl (fun _ => ?_) (fun c => absurd c (by decide))
      refine aw_iconst (v := 0) (pc' := 29) dX8_isReal_28 rfl (by decide) ?_
      exact aw_ri dX8_isReal_29 rfl (by decide) (Nat.le_of_ble_eq_true rfl) (Nat.le_of_ble_eq_true rfl) ⟨rfl, rfl⟩
    refine aw_callVi (M' := mX8_isReal) (nc' := 0) (ns' := 0) (pc' := 17) dX11_put_14 rfl ml_RX11_197 kX8_isReal cc8 ((hx.2 47 (by decide) (by decide)).trans h0_47) rfl rfl rfl (Nat.le_of_ble_eq_true rfl) (rok rfl) rfl rfl (fun r9 h9 q9 => ?_)
    obtain ⟨rfl, rfl⟩ := q9
    refine aw_if_eq (tgt := 38) (pc' := 20) dX11_put_17 (by decide) rfl (fun _ => ?_) (fun c => absurd (by decide) c)
    refine aw_aload (pc' := 40) dX11_put_38 rfl rfl rfl ?_
    refine aw_iload_n (pc' := 41) dX11_put_40 rfl rfl ?_
    have cc10 : AM mX8_refusal 0 [.ref 55, .int i] h 0 0 (PI fun r h' => ((-11) = r ∧ h = h')) := by
      refine am_of (lv := [some (.ref 55), some (.int i)]) rfl (Nat.le_of_ble_eq_true rfl) rfl ?_
      refine aw_aload_n (pc' := 1) dX8_refusal_0 rfl rfl rfl ?_
      refine aw_get clsAll (pc' := 4) dX8_refusal_1 rfl fl_RX8_15 ((hx.2 47 (by decide) (by decide)).trans h0_47) rfl ?_
      refine aw_if_ne (tgt := 10) (pc' := 7) dX8_refusal_4 (by decide) rfl (fun c => absurd (by decide) c) (fun _ => ?_)
      refine aw_bipush (v := (-11)) (pc' := 9) dX8_refusal_7 rfl (by decide) ?_
      exact aw_ri dX8_refusal_9 rfl rfl (Nat.le_of_ble_eq_true rfl) (Nat.le_of_ble_eq_true rfl) ⟨rfl, rfl⟩
    refine aw_callVi (M' := mX8_refusal) (nc' := 0) (ns' := 0) (pc' := 44) dX11_put_41 rfl ml_RX11_421 kX8_refusal cc10 ((hx.2 47 (by decide) (by decide)).trans h0_47) rfl rfl rfl (Nat.le_of_ble_eq_true rfl) (rok rfl) rfl rfl (fun r11 h11 q11 => ?_)
    obtain ⟨rfl, rfl⟩ := q11
    refine aw_istore (lv' := [_, _, _, _, _, _, _]) (pc' := 46) dX11_put_44 rfl (Nat.le_of_ble_eq_true rfl) rfl ?_
    refine aw_iload (pc' := 48) dX11_put_46 rfl rfl ?_
    refine aw_if_ne (tgt := 64) (pc' := 51) dX11_put_48 (by decide) rfl (fun _ => ?_) (fun c => absurd c (by decide))
    refine aw_iload (pc' := 66) dX11_put_64 rfl rfl ?_
    refine aw_if_ne (tgt := 73) (pc' := 69) dX11_put_66 (by decide) rfl (fun _ => ?_) (fun c => absurd c (by decide))
    refine aw_iload (pc' := 75) dX11_put_73 rfl rfl ?_
    exact aw_ri dX11_put_75 rfl rfl (Nat.le_of_ble_eq_true rfl) (Nat.le_of_ble_eq_true rfl) ⟨(by first | (simp [sp_put, cnd, okC, okS, okW, okN, inR, n2_, n3_, n5_, n31_]; done) | (simp_all [sp_put, cnd, okC, okS, okW, okN, inR, n2_, n3_, n5_, n31_]; done) | skip), sm_rf⟩
  · refine aw_astore (lv' := [_, _, _, _, _, _, _]) (pc' := 7) dX11_put_5 rfl (Nat.le_of_ble_eq_true rfl) rfl rfl ?_
    refine aw_aload (pc' := 9) dX11_put_7 rfl rfl rfl ?_
    refine aw_ifnull_r (pc' := 12) dX11_put_9 rfl ?_
    refine aw_aload (pc' := 14) dX11_put_12 rfl rfl rfl ?_
    have cc12 : AM mX8_isReal 0 [.ref 57] h 0 0 (PI fun r h' => (0 = r ∧ h = h')) := by
      refine am_of (lv := [some (.ref 57)]) rfl (Nat.le_of_ble_eq_true rfl) rfl ?_
      refine aw_aload_n (pc' := 1) dX8_isReal_0 rfl rfl rfl ?_
      refine aw_get clsAll (pc' := 4) dX8_isReal_1 rfl fl_RX8_15 ((hx.2 49 (by decide) (by decide)).trans h0_49) rfl ?_
      refine aw_iconst (v := 2) (pc' := 5) dX8_isReal_4 rfl (by decide) ?_
      refine aw_icmp_ne (tgt := 28) (pc' := 8) dX8_isReal_5 (by decide) rfl (fun _ => ?_) (fun c => absurd c (by decide))
      refine aw_iconst (v := 0) (pc' := 29) dX8_isReal_28 rfl (by decide) ?_
      exact aw_ri dX8_isReal_29 rfl (by decide) (Nat.le_of_ble_eq_true rfl) (Nat.le_of_ble_eq_true rfl) ⟨rfl, rfl⟩
    refine aw_callVi (M' := mX8_isReal) (nc' := 0) (ns' := 0) (pc' := 17) dX11_put_14 rfl ml_RX11_197 kX8_isReal cc12 ((hx.2 49 (by decide) (by decide)).trans h0_49) rfl rfl rfl (Nat.le_of_ble_eq_true rfl) (rok rfl) rfl rfl (fun r13 h13 q13 => ?_)
    obtain ⟨rfl, rfl⟩ := q13
    refine aw_if_eq (tgt := 38) (pc' := 20) dX11_put_17 (by decide) rfl (fun _ => ?_) (fun c => absurd (by decide) c)
    refine aw_aload (pc' := 40) dX11_put_38 rfl rfl rfl ?_
    refine aw_iload_n (pc' := 41) dX11_put_40 rfl rfl ?_
    have cc14 : AM mX8_refusal 0 [.ref 57, .int i] h 0 0 (PI fun r h' => ((-11) = r ∧ h = h')) := by
      refine am_of (lv := [some (.ref 57), some (.int i)]) rfl (Nat.le_of_ble_eq_true rfl) rfl ?_
      refine aw_aload_n (pc' := 1) dX8_refusal_0 rfl rfl rfl ?_
      refine aw_get clsAll (pc' := 4) dX8_refusal_1 rfl fl_RX8_15 ((hx.2 49 (by decide) (by decide)).trans h0_49) rfl ?_
      refine aw_if_ne (tgt := 10) (pc' := 7) dX8_refusal_4 (by decide) rfl (fun c => absurd (by decide) c) (fun _ => ?_)
      refine aw_bipush (v := (-11)) (pc' := 9) dX8_refusal_7 rfl (by decide) ?_
      exact aw_ri dX8_refusal_9 rfl rfl (Nat.le_of_ble_eq_true rfl) (Nat.le_of_ble_eq_true rfl) ⟨rfl, rfl⟩
    refine aw_callVi (M' := mX8_refusal) (nc' := 0) (ns' := 0) (pc' := 44) dX11_put_41 rfl ml_RX11_421 kX8_refusal cc14 ((hx.2 49 (by decide) (by decide)).trans h0_49) rfl rfl rfl (Nat.le_of_ble_eq_true rfl) (rok rfl) rfl rfl (fun r15 h15 q15 => ?_)
    obtain ⟨rfl, rfl⟩ := q15
    refine aw_istore (lv' := [_, _, _, _, _, _, _]) (pc' := 46) dX11_put_44 rfl (Nat.le_of_ble_eq_true rfl) rfl ?_
    refine aw_iload (pc' := 48) dX11_put_46 rfl rfl ?_
    refine aw_if_ne (tgt := 64) (pc' := 51) dX11_put_48 (by decide) rfl (fun _ => ?_) (fun c => absurd c (by decide))
    refine aw_iload (pc' := 66) dX11_put_64 rfl rfl ?_
    refine aw_if_ne (tgt := 73) (pc' := 69) dX11_put_66 (by decide) rfl (fun _ => ?_) (fun c => absurd c (by decide))
    refine aw_iload (pc' := 75) dX11_put_73 rfl rfl ?_
    exact aw_ri dX11_put_75 rfl rfl (Nat.le_of_ble_eq_true rfl) (Nat.le_of_ble_eq_true rfl) ⟨(by first | (simp [sp_put, cnd, okC, okS, okW, okN, inR, n2_, n3_, n5_, n31_]; done) | (simp_all [sp_put, cnd, okC, okS, okW, okN, inR, n2_, n3_, n5_, n31_]; done) | skip), sm_rf⟩
  · refine aw_astore (lv' := [_, _, _, _, _, _, _]) (pc' := 7) dX11_put_5 rfl (Nat.le_of_ble_eq_true rfl) rfl rfl ?_
    refine aw_aload (pc' := 9) dX11_put_7 rfl rfl rfl ?_
    refine aw_ifnull_r (pc' := 12) dX11_put_9 rfl ?_
    refine aw_aload (pc' := 14) dX11_put_12 rfl rfl rfl ?_
    have cc16 : AM mX8_isReal 0 [.ref 59] h 0 0 (PI fun r h' => (0 = r ∧ h = h')) := by
      refine am_of (lv := [some (.ref 59)]) rfl (Nat.le_of_ble_eq_true rfl) rfl ?_
      refine aw_aload_n (pc' := 1) dX8_isReal_0 rfl rfl rfl ?_
      refine aw_get clsAll (pc' := 4) dX8_isReal_1 rfl fl_RX8_15 ((hx.2 51 (by decide) (by decide)).trans h0_51) rfl ?_
      refine aw_iconst (v := 2) (pc' := 5) dX8_isReal_4 rfl (by decide) ?_
      refine aw_icmp_ne (tgt := 28) (pc' := 8) dX8_isReal_5 (by decide) rfl (fun _ => ?_) (fun c => absurd c (by decide))
      refine aw_iconst (v := 0) (pc' := 29) dX8_isReal_28 rfl (by decide) ?_
      exact aw_ri dX8_isReal_29 rfl (by decide) (Nat.le_of_ble_eq_true rfl) (Nat.le_of_ble_eq_true rfl) ⟨rfl, rfl⟩
    refine aw_callVi (M' := mX8_isReal) (nc' := 0) (ns' := 0) (pc' := 17) dX11_put_14 rfl ml_RX11_197 kX8_isReal cc16 ((hx.2 51 (by decide) (by decide)).trans h0_51) rfl rfl rfl (Nat.le_of_ble_eq_true rfl) (rok rfl) rfl rfl (fun r17 h17 q17 => ?_)
    obtain ⟨rfl, rfl⟩ := q17
    refine aw_if_eq (tgt := 38) (pc' := 20) dX11_put_17 (by decide) rfl (fun _ => ?_) (fun c => absurd (by decide) c)
    refine aw_aload (pc' := 40) dX11_put_38 rfl rfl rfl ?_
    refine aw_iload_n (pc' := 41) dX11_put_40 rfl rfl ?_
    have cc18 : AM mX8_refusal 0 [.ref 59, .int i] h 0 0 (PI fun r h' => ((-11) = r ∧ h = h')) := by
      refine am_of (lv := [some (.ref 59), some (.int i)]) rfl (Nat.le_of_ble_eq_true rfl) rfl ?_
      refine aw_aload_n (pc' := 1) dX8_refusal_0 rfl rfl rfl ?_
      refine aw_get clsAll (pc' := 4) dX8_refusal_1 rfl fl_RX8_15 ((hx.2 51 (by decide) (by decide)).trans h0_51) rfl ?_
      refine aw_if_ne (tgt := 10) (pc' := 7) dX8_refusal_4 (by decide) rfl (fun c => absurd (by decide) c) (fun _ => ?_)
      refine aw_bipush (v := (-11)) (pc' := 9) dX8_refusal_7 rfl (by decide) ?_
      exact aw_ri dX8_refusal_9 rfl rfl (Nat.le_of_ble_eq_true rfl) (Nat.le_of_ble_eq_true rfl) ⟨rfl, rfl⟩
    refine aw_callVi (M' := mX8_refusal) (nc' := 0) (ns' := 0) (pc' := 44) dX11_put_41 rfl ml_RX11_421 kX8_refusal cc18 ((hx.2 51 (by decide) (by decide)).trans h0_51) rfl rfl rfl (Nat.le_of_ble_eq_true rfl) (rok rfl) rfl rfl (fun r19 h19 q19 => ?_)
    obtain ⟨rfl, rfl⟩ := q19
    refine aw_istore (lv' := [_, _, _, _, _, _, _]) (pc' := 46) dX11_put_44 rfl (Nat.le_of_ble_eq_true rfl) rfl ?_
    refine aw_iload (pc' := 48) dX11_put_46 rfl rfl ?_
    refine aw_if_ne (tgt := 64) (pc' := 51) dX11_put_48 (by decide) rfl (fun _ => ?_) (fun c => absurd c (by decide))
    refine aw_iload (pc' := 66) dX11_put_64 rfl rfl ?_
    refine aw_if_ne (tgt := 73) (pc' := 69) dX11_put_66 (by decide) rfl (fun _ => ?_) (fun c => absurd c (by decide))
    refine aw_iload (pc' := 75) dX11_put_73 rfl rfl ?_
    exact aw_ri dX11_put_75 rfl rfl (Nat.le_of_ble_eq_true rfl) (Nat.le_of_ble_eq_true rfl) ⟨(by first | (simp [sp_put, cnd, okC, okS, okW, okN, inR, n2_, n3_, n5_, n31_]; done) | (simp_all [sp_put, cnd, okC, okS, okW, okN, inR, n2_, n3_, n5_, n31_]; done) | skip), sm_rf⟩
  · refine aw_astore (lv' := [_, _, _, _, _, _, _]) (pc' := 7) dX11_put_5 rfl (Nat.le_of_ble_eq_true rfl) rfl rfl ?_
    refine aw_aload (pc' := 9) dX11_put_7 rfl rfl rfl ?_
    refine aw_ifnull_r (pc' := 12) dX11_put_9 rfl ?_
    refine aw_aload (pc' := 14) dX11_put_12 rfl rfl rfl ?_
    have cc20 : AM mX8_isReal 0 [.ref 61] h 0 0 (PI fun r h' => (0 = r ∧ h = h')) := by
      refine am_of (lv := [some (.ref 61)]) rfl (Nat.le_of_ble_eq_true rfl) rfl ?_
      refine aw_aload_n (pc' := 1) dX8_isReal_0 rfl rfl rfl ?_
      refine aw_get clsAll (pc' := 4) dX8_isReal_1 rfl fl_RX8_15 ((hx.2 53 (by decide) (by decide)).trans h0_53) rfl ?_
      refine aw_iconst (v := 2) (pc' := 5) dX8_isReal_4 rfl (by decide) ?_
      refine aw_icmp_ne (tgt := 28) (pc' := 8) dX8_isReal_5 (by decide) rfl (fun _ => ?_) (fun c => absurd c (by decide))
      refine aw_iconst (v := 0) (pc' := 29) dX8_isReal_28 rfl (by decide) ?_
      exact aw_ri dX8_isReal_29 rfl (by decide) (Nat.le_of_ble_eq_true rfl) (Nat.le_of_ble_eq_true rfl) ⟨rfl, rfl⟩
    refine aw_callVi (M' := mX8_isReal) (nc' := 0) (ns' := 0) (pc' := 17) dX11_put_14 rfl ml_RX11_197 kX8_isReal cc20 ((hx.2 53 (by decide) (by decide)).trans h0_53) rfl rfl rfl (Nat.le_of_ble_eq_true rfl) (rok rfl) rfl rfl (fun r21 h21 q21 => ?_)
    obtain ⟨rfl, rfl⟩ := q21
    refine aw_if_eq (tgt := 38) (pc' := 20) dX11_put_17 (by decide) rfl (fun _ => ?_) (fun c => absurd (by decide) c)
    refine aw_aload (pc' := 40) dX11_put_38 rfl rfl rfl ?_
    refine aw_iload_n (pc' := 41) dX11_put_40 rfl rfl ?_
    have cc22 : AM mX8_refusal 0 [.ref 61, .int i] h 0 0 (PI fun r h' => ((-11) = r ∧ h = h')) := by
      refine am_of (lv := [some (.ref 61), some (.int i)]) rfl (Nat.le_of_ble_eq_true rfl) rfl ?_
      refine aw_aload_n (pc' := 1) dX8_refusal_0 rfl rfl rfl ?_
      refine aw_get clsAll (pc' := 4) dX8_refusal_1 rfl fl_RX8_15 ((hx.2 53 (by decide) (by decide)).trans h0_53) rfl ?_
      refine aw_if_ne (tgt := 10) (pc' := 7) dX8_refusal_4 (by decide) rfl (fun c => absurd (by decide) c) (fun _ => ?_)
      refine aw_bipush (v := (-11)) (pc' := 9) dX8_refusal_7 rfl (by decide) ?_
      exact aw_ri dX8_refusal_9 rfl rfl (Nat.le_of_ble_eq_true rfl) (Nat.le_of_ble_eq_true rfl) ⟨rfl, rfl⟩
    refine aw_callVi (M' := mX8_refusal) (nc' := 0) (ns' := 0) (pc' := 44) dX11_put_41 rfl ml_RX11_421 kX8_refusal cc22 ((hx.2 53 (by decide) (by decide)).trans h0_53) rfl rfl rfl (Nat.le_of_ble_eq_true rfl) (rok rfl) rfl rfl (fun r23 h23 q23 => ?_)
    obtain ⟨rfl, rfl⟩ := q23
    refine aw_istore (lv' := [_, _, _, _, _, _, _]) (pc' := 46) dX11_put_44 rfl (Nat.le_of_ble_eq_true rfl) rfl ?_
    refine aw_iload (pc' := 48) dX11_put_46 rfl rfl ?_
    refine aw_if_ne (tgt := 64) (pc' := 51) dX11_put_48 (by decide) rfl (fun _ => ?_) (fun c => absurd c (by decide))
    refine aw_iload (pc' := 66) dX11_put_64 rfl rfl ?_
    refine aw_if_ne (tgt := 73) (pc' := 69) dX11_put_66 (by decide) rfl (fun _ => ?_) (fun c => absurd c (by decide))
    refine aw_iload (pc' := 75) dX11_put_73 rfl rfl ?_
    exact aw_ri dX11_put_75 rfl rfl (Nat.le_of_ble_eq_true rfl) (Nat.le_of_ble_eq_true rfl) ⟨(by first | (simp [sp_put, cnd, okC, okS, okW, okN, inR, n2_, n3_, n5_, n31_]; done) | (simp_all [sp_put, cnd, okC, okS, okW, okN, inR, n2_, n3_, n5_, n31_]; done) | skip), sm_rf⟩
  · refine aw_astore (lv' := [_, _, _, _, _, _, _]) (pc' := 7) dX11_put_5 rfl (Nat.le_of_ble_eq_true rfl) rfl rfl ?_
    refine aw_aload (pc' := 9) dX11_put_7 rfl rfl rfl ?_
    refine aw_ifnull_r (pc' := 12) dX11_put_9 rfl ?_
    refine aw_aload (pc' := 14) dX11_put_12 rfl rfl rfl ?_
    have cc24 : AM mX8_isReal 0 [.ref 63] h 0 0 (PI fun r h' => (0 = r ∧ h = h')) := by
      refine am_of (lv := [some (.ref 63)]) rfl (Nat.le_of_ble_eq_true rfl) rfl ?_
      refine aw_aload_n (pc' := 1) dX8_isReal_0 rfl rfl rfl ?_
      refine aw_get clsAll (pc' := 4) dX8_isReal_1 rfl fl_RX8_15 ((hx.2 55 (by decide) (by decide)).trans h0_55) rfl ?_
      refine aw_iconst (v := 2) (pc' := 5) dX8_isReal_4 rfl (by decide) ?_
      refine aw_icmp_ne (tgt := 28) (pc' := 8) dX8_isReal_5 (by decide) rfl (fun _ => ?_) (fun c => absurd c (by decide))
      refine aw_iconst (v := 0) (pc' := 29) dX8_isReal_28 rfl (by decide) ?_
      exact aw_ri dX8_isReal_29 rfl (by decide) (Nat.le_of_ble_eq_true rfl) (Nat.le_of_ble_eq_true rfl) ⟨rfl, rfl⟩
    refine aw_callVi (M' := mX8_isReal) (nc' := 0) (ns' := 0) (pc' := 17) dX11_put_14 rfl ml_RX11_197 kX8_isReal cc24 ((hx.2 55 (by decide) (by decide)).trans h0_55) rfl rfl rfl (Nat.le_of_ble_eq_true rfl) (rok rfl) rfl rfl (fun r25 h25 q25 => ?_)
    obtain ⟨rfl, rfl⟩ := q25
    refine aw_if_eq (tgt := 38) (pc' := 20) dX11_put_17 (by decide) rfl (fun _ => ?_) (fun c => absurd (by decide) c)
    refine aw_aload (pc' := 40) dX11_put_38 rfl rfl rfl ?_
    refine aw_iload_n (pc' := 41) dX11_put_40 rfl rfl ?_
    have cc26 : AM mX8_refusal 0 [.ref 63, .int i] h 0 0 (PI fun r h' => ((-11) = r ∧ h = h')) := by
      refine am_of (lv := [some (.ref 63), some (.int i)]) rfl (Nat.le_of_ble_eq_true rfl) rfl ?_
      refine aw_aload_n (pc' := 1) dX8_refusal_0 rfl rfl rfl ?_
      refine aw_get clsAll (pc' := 4) dX8_refusal_1 rfl fl_RX8_15 ((hx.2 55 (by decide) (by decide)).trans h0_55) rfl ?_
      refine aw_if_ne (tgt := 10) (pc' := 7) dX8_refusal_4 (by decide) rfl (fun c => absurd (by decide) c) (fun _ => ?_)
      refine aw_bipush (v := (-11)) (pc' := 9) dX8_refusal_7 rfl (by decide) ?_
      exact aw_ri dX8_refusal_9 rfl rfl (Nat.le_of_ble_eq_true rfl) (Nat.le_of_ble_eq_true rfl) ⟨rfl, rfl⟩
    refine aw_callVi (M' := mX8_refusal) (nc' := 0) (ns' := 0) (pc' := 44) dX11_put_41 rfl ml_RX11_421 kX8_refusal cc26 ((hx.2 55 (by decide) (by decide)).trans h0_55) rfl rfl rfl (Nat.le_of_ble_eq_true rfl) (rok rfl) rfl rfl (fun r27 h27 q27 => ?_)
    obtain ⟨rfl, rfl⟩ := q27
    refine aw_istore (lv' := [_, _, _, _, _, _, _]) (pc' := 46) dX11_put_44 rfl (Nat.le_of_ble_eq_true rfl) rfl ?_
    refine aw_iload (pc' := 48) dX11_put_46 rfl rfl ?_
    refine aw_if_ne (tgt := 64) (pc' := 51) dX11_put_48 (by decide) rfl (fun _ => ?_) (fun c => absurd c (by decide))
    refine aw_iload (pc' := 66) dX11_put_64 rfl rfl ?_
    refine aw_if_ne (tgt := 73) (pc' := 69) dX11_put_66 (by decide) rfl (fun _ => ?_) (fun c => absurd c (by decide))
    refine aw_iload (pc' := 75) dX11_put_73 rfl rfl ?_
    exact aw_ri dX11_put_75 rfl rfl (Nat.le_of_ble_eq_true rfl) (Nat.le_of_ble_eq_true rfl) ⟨(by first | (simp [sp_put, cnd, okC, okS, okW, okN, inR, n2_, n3_, n5_, n31_]; done) | (simp_all [sp_put, cnd, okC, okS, okW, okN, inR, n2_, n3_, n5_, n31_]; done) | skip), sm_rf⟩
  · refine aw_astore (lv' := [_, _, _, _, _, _, _]) (pc' := 7) dX11_put_5 rfl (Nat.le_of_ble_eq_true rfl) rfl rfl ?_
    refine aw_aload (pc' := 9) dX11_put_7 rfl rfl rfl ?_
    refine aw_ifnull_r (pc' := 12) dX11_put_9 rfl ?_
    refine aw_aload (pc' := 14) dX11_put_12 rfl rfl rfl ?_
    have cc28 : AM mX8_isReal 0 [.ref 65] h 0 0 (PI fun r h' => (0 = r ∧ h = h')) := by
      refine am_of (lv := [some (.ref 65)]) rfl (Nat.le_of_ble_eq_true rfl) rfl ?_
      refine aw_aload_n (pc' := 1) dX8_isReal_0 rfl rfl rfl ?_
      refine aw_get clsAll (pc' := 4) dX8_isReal_1 rfl fl_RX8_15 ((hx.2 57 (by decide) (by decide)).trans h0_57) rfl ?_
      refine aw_iconst (v := 2) (pc' := 5) dX8_isReal_4 rfl (by decide) ?_
      refine aw_icmp_ne (tgt := 28) (pc' := 8) dX8_isReal_5 (by decide) rfl (fun _ => ?_) (fun c => absurd c (by decide))
      refine aw_iconst (v := 0) (pc' := 29) dX8_isReal_28 rfl (by decide) ?_
      exact aw_ri dX8_isReal_29 rfl (by decide) (Nat.le_of_ble_eq_true rfl) (Nat.le_of_ble_eq_true rfl) ⟨rfl, rfl⟩
    refine aw_callVi (M' := mX8_isReal) (nc' := 0) (ns' := 0) (pc' := 17) dX11_put_14 rfl ml_RX11_197 kX8_isReal cc28 ((hx.2 57 (by decide) (by decide)).trans h0_57) rfl rfl rfl (Nat.le_of_ble_eq_true rfl) (rok rfl) rfl rfl (fun r29 h29 q29 => ?_)
    obtain ⟨rfl, rfl⟩ := q29
    refine aw_if_eq (tgt := 38) (pc' := 20) dX11_put_17 (by decide) rfl (fun _ => ?_) (fun c => absurd (by decide) c)
    refine aw_aload (pc' := 40) dX11_put_38 rfl rfl rfl ?_
    refine aw_iload_n (pc' := 41) dX11_put_40 rfl rfl ?_
    have cc30 : AM mX8_refusal 0 [.ref 65, .int i] h 0 0 (PI fun r h' => ((-11) = r ∧ h = h')) := by
      refine am_of (lv := [some (.ref 65), some (.int i)]) rfl (Nat.le_of_ble_eq_true rfl) rfl ?_
      refine aw_aload_n (pc' := 1) dX8_refusal_0 rfl rfl rfl ?_
      refine aw_get clsAll (pc' := 4) dX8_refusal_1 rfl fl_RX8_15 ((hx.2 57 (by decide) (by decide)).trans h0_57) rfl ?_
      refine aw_if_ne (tgt := 10) (pc' := 7) dX8_refusal_4 (by decide) rfl (fun c => absurd (by decide) c) (fun _ => ?_)
      refine aw_bipush (v := (-11)) (pc' := 9) dX8_refusal_7 rfl (by decide) ?_
      exact aw_ri dX8_refusal_9 rfl rfl (Nat.le_of_ble_eq_true rfl) (Nat.le_of_ble_eq_true rfl) ⟨rfl, rfl⟩
    refine aw_callVi (M' := mX8_refusal) (nc' := 0) (ns' := 0) (pc' := 44) dX11_put_41 rfl ml_RX11_421 kX8_refusal cc30 ((hx.2 57 (by decide) (by decide)).trans h0_57) rfl rfl rfl (Nat.le_of_ble_eq_true rfl) (rok rfl) rfl rfl (fun r31 h31 q31 => ?_)
    obtain ⟨rfl, rfl⟩ := q31
    refine aw_istore (lv' := [_, _, _, _, _, _, _]) (pc' := 46) dX11_put_44 rfl (Nat.le_of_ble_eq_true rfl) rfl ?_
    refine aw_iload (pc' := 48) dX11_put_46 rfl rfl ?_
    refine aw_if_ne (tgt := 64) (pc' := 51) dX11_put_48 (by decide) rfl (fun _ => ?_) (fun c => absurd c (by decide))
    refine aw_iload (pc' := 66) dX11_put_64 rfl rfl ?_
    refine aw_if_ne (tgt := 73) (pc' := 69) dX11_put_66 (by decide) rfl (fun _ => ?_) (fun c => absurd c (by decide))
    refine aw_iload (pc' := 75) dX11_put_73 rfl rfl ?_
    exact aw_ri dX11_put_75 rfl rfl (Nat.le_of_ble_eq_true rfl) (Nat.le_of_ble_eq_true rfl) ⟨(by first | (simp [sp_put, cnd, okC, okS, okW, okN, inR, n2_, n3_, n5_, n31_]; done) | (simp_all [sp_put, cnd, okC, okS, okW, okN, inR, n2_, n3_, n5_, n31_]; done) | skip), sm_rf⟩
  · refine aw_astore (lv' := [_, _, _, _, _, _, _]) (pc' := 7) dX11_put_5 rfl (Nat.le_of_ble_eq_true rfl) rfl rfl ?_
    refine aw_aload (pc' := 9) dX11_put_7 rfl rfl rfl ?_
    refine aw_ifnull_n (tgt := 36) dX11_put_9 (by decide) ?_
    refine aw_iconst (v := (-1)) (pc' := 37) dX11_put_36 rfl (by decide) ?_
    exact aw_ri dX11_put_37 rfl rfl (Nat.le_of_ble_eq_true rfl) (Nat.le_of_ble_eq_true rfl) ⟨(by first | (simp [sp_put, cnd, okC, okS, okW, okN, inR, n2_, n3_, n5_, n31_, c5, c6]; done) | (simp_all [sp_put, cnd, okC, okS, okW, okN, inR, n2_, n3_, n5_, n31_]; done) | skip), sm_rf⟩
