set_option maxRecDepth 4000 in
theorem x_blank (h : List aE) (hx : Fx 0 h) (hlen : h.length = 126) (s : Int32) (i : Int32) : AM mX11_blank 1 [.ref 8, .int s, .int i] h 0 0 (PI fun r h' => r = sp_blank s i ∧ Sm h h') := by
  refine am_of (lv := [some (.ref 8), some (.int s), some (.int i), none, none]) rfl (Nat.le_of_ble_eq_true rfl) rfl ?_
  refine aw_aload_n (pc' := 1) dX11_blank_0 rfl rfl rfl ?_
  refine aw_iload_n (pc' := 2) dX11_blank_1 rfl rfl ?_
  have cc1 : AM mX11_shelfOf 0 [.ref 8, .int s] h 0 0 (PA fun r h' => (s < 0 ∧ Value.null = r ∧ h = h') ∨ (s = 0 ∧ Value.ref 55 = r ∧ h = h') ∨ (s = 1 ∧ Value.ref 57 = r ∧ h = h') ∨ (s = 2 ∧ Value.ref 59 = r ∧ h = h') ∨ (s = 3 ∧ Value.ref 61 = r ∧ h = h') ∨ (s = 4 ∧ Value.ref 63 = r ∧ h = h') ∨ (s = 5 ∧ Value.ref 65 = r ∧ h = h') ∨ (¬ (s < 0) ∧ ¬ (s < 6) ∧ Value.null = r ∧ h = h')) := by
    refine am_of (lv := [some (.ref 8), some (.int s)]) rfl (Nat.le_of_ble_eq_true rfl) rfl ?_
    refine aw_iload_n (pc' := 1) dX11_shelfOf_0 rfl rfl ?_
    refine aw_zlt (tgt := 10) (pc' := 4) dX11_shelfOf_1 (by decide) rfl (fun c2 => ?_) (fun c2 => ?_)
    · refine aw_null (pc' := 11) dX11_shelfOf_10 rfl ?_
      refine aw_goto (tgt := 20) dX11_shelfOf_11 (by decide) ?_
      exact aw_ra dX11_shelfOf_20 rfl (Or.inl ⟨_, rfl⟩) rfl (Nat.le_of_ble_eq_true rfl) (Nat.le_of_ble_eq_true rfl) (Or.inl ⟨c2, rfl, rfl⟩)
    · refine aw_iload_n (pc' := 5) dX11_shelfOf_4 rfl rfl ?_
      refine aw_bipush (v := 6) (pc' := 7) dX11_shelfOf_5 rfl (by decide) ?_
      refine aw_clt (tgt := 14) (pc' := 10) dX11_shelfOf_7 (by decide) rfl (fun c3 => ?_) (fun c3 => ?_)
      · refine aw_aload_n (pc' := 15) dX11_shelfOf_14 rfl rfl rfl ?_
        refine aw_get clsAll (pc' := 18) dX11_shelfOf_15 rfl fl_RX11_89 hx.1 rfl ?_
        refine aw_iload_n (pc' := 19) dX11_shelfOf_18 rfl rfl ?_
        rcases six_ c2 c3 with rfl | rfl | rfl | rfl | rfl | rfl
        · refine aw_aald (v := .ref 55) (pc' := 20) dX11_shelfOf_19 rfl ((hx.2 46 (by decide) (by decide)).trans h0_46) (by decide) rfl (vpc (by decide)) rfl ?_
          exact aw_ra dX11_shelfOf_20 rfl (Or.inl ⟨_, rfl⟩) rfl (Nat.le_of_ble_eq_true rfl) (Nat.le_of_ble_eq_true rfl) (Or.inr (Or.inl ⟨rfl, rfl, rfl⟩))
        · refine aw_aald (v := .ref 57) (pc' := 20) dX11_shelfOf_19 rfl ((hx.2 46 (by decide) (by decide)).trans h0_46) (by decide) rfl (vpc (by decide)) rfl ?_
          exact aw_ra dX11_shelfOf_20 rfl (Or.inl ⟨_, rfl⟩) rfl (Nat.le_of_ble_eq_true rfl) (Nat.le_of_ble_eq_true rfl) (Or.inr (Or.inr (Or.inl ⟨rfl, rfl, rfl⟩)))
        · refine aw_aald (v := .ref 59) (pc' := 20) dX11_shelfOf_19 rfl ((hx.2 46 (by decide) (by decide)).trans h0_46) (by decide) rfl (vpc (by decide)) rfl ?_
          exact aw_ra dX11_shelfOf_20 rfl (Or.inl ⟨_, rfl⟩) rfl (Nat.le_of_ble_eq_true rfl) (Nat.le_of_ble_eq_true rfl) (Or.inr (Or.inr (Or.inr (Or.inl ⟨rfl, rfl, rfl⟩))))
        · refine aw_aald (v := .ref 61) (pc' := 20) dX11_shelfOf_19 rfl ((hx.2 46 (by decide) (by decide)).trans h0_46) (by decide) rfl (vpc (by decide)) rfl ?_
          exact aw_ra dX11_shelfOf_20 rfl (Or.inl ⟨_, rfl⟩) rfl (Nat.le_of_ble_eq_true rfl) (Nat.le_of_ble_eq_true rfl) (Or.inr (Or.inr (Or.inr (Or.inr (Or.inl ⟨rfl, rfl, rfl⟩)))))
        · refine aw_aald (v := .ref 63) (pc' := 20) dX11_shelfOf_19 rfl ((hx.2 46 (by decide) (by decide)).trans h0_46) (by decide) rfl (vpc (by decide)) rfl ?_
          exact aw_ra dX11_shelfOf_20 rfl (Or.inl ⟨_, rfl⟩) rfl (Nat.le_of_ble_eq_true rfl) (Nat.le_of_ble_eq_true rfl) (Or.inr (Or.inr (Or.inr (Or.inr (Or.inr (Or.inl ⟨rfl, rfl, rfl⟩))))))
        · refine aw_aald (v := .ref 65) (pc' := 20) dX11_shelfOf_19 rfl ((hx.2 46 (by decide) (by decide)).trans h0_46) (by decide) rfl (vpc (by decide)) rfl ?_
          exact aw_ra dX11_shelfOf_20 rfl (Or.inl ⟨_, rfl⟩) rfl (Nat.le_of_ble_eq_true rfl) (Nat.le_of_ble_eq_true rfl) (Or.inr (Or.inr (Or.inr (Or.inr (Or.inr (Or.inr (Or.inl ⟨rfl, rfl, rfl⟩)))))))
      · refine aw_null (pc' := 11) dX11_shelfOf_10 rfl ?_
        refine aw_goto (tgt := 20) dX11_shelfOf_11 (by decide) ?_
        exact aw_ra dX11_shelfOf_20 rfl (Or.inl ⟨_, rfl⟩) rfl (Nat.le_of_ble_eq_true rfl) (Nat.le_of_ble_eq_true rfl) (Or.inr (Or.inr (Or.inr (Or.inr (Or.inr (Or.inr (Or.inr ⟨c2, c3, rfl, rfl⟩)))))))
  refine aw_callVa (M' := mX11_shelfOf) (nc' := 0) (ns' := 0) (pc' := 5) dX11_blank_2 rfl ml_RX11_190 kX11_shelfOf cc1 hx.1 rfl rfl rfl (Nat.le_of_ble_eq_true rfl) (rok rfl) rfl rfl (fun r7 h7 q7 => ?_)
  rcases q7 with ⟨c4, rfl, rfl⟩ | ⟨rfl, rfl, rfl⟩ | ⟨rfl, rfl, rfl⟩ | ⟨rfl, rfl, rfl⟩ | ⟨rfl, rfl, rfl⟩ | ⟨rfl, rfl, rfl⟩ | ⟨rfl, rfl, rfl⟩ | ⟨c5, c6, rfl, rfl⟩
  · refine aw_astore_n (lv' := [_, _, _, _, _]) (pc' := 6) dX11_blank_5 rfl (Nat.le_of_ble_eq_true rfl) rfl rfl ?_
    refine aw_aload_n (pc' := 7) dX11_blank_6 rfl rfl rfl ?_
    refine aw_ifnonnull_n (pc' := 10) dX11_blank_7 rfl ?_
    refine aw_iconst (v := (-1)) (pc' := 11) dX11_blank_10 rfl (by decide) ?_
    exact aw_ri dX11_blank_11 rfl rfl (Nat.le_of_ble_eq_true rfl) (Nat.le_of_ble_eq_true rfl) ⟨(by first | (simp [sp_blank, cnd, okC, okS, okW, okN, inR, n2_, n3_, n5_, n31_, c4]; done) | (simp_all [sp_blank, cnd, okC, okS, okW, okN, inR, n2_, n3_, n5_, n31_]; done) | skip), sm_rf⟩
  · refine aw_astore_n (lv' := [_, _, _, _, _]) (pc' := 6) dX11_blank_5 rfl (Nat.le_of_ble_eq_true rfl) rfl rfl ?_
    refine aw_aload_n (pc' := 7) dX11_blank_6 rfl rfl rfl ?_
    refine aw_ifnonnull_r (tgt := 12) dX11_blank_7 (by decide) ?_
    refine aw_aload_n (pc' := 13) dX11_blank_12 rfl rfl rfl ?_
    refine aw_get clsAll (pc' := 16) dX11_blank_13 rfl fl_RX11_194 ((hx.2 47 (by decide) (by decide)).trans h0_47) rfl ?_
    refine aw_iconst (v := 2) (pc' := 17) dX11_blank_16 rfl (by decide) ?_
    refine aw_icmp_ne (tgt := 30) (pc' := 20) dX11_blank_17 (by decide) rfl (fun _ => ?_) (fun c => absurd c (by decide))
    refine aw_aload_n (pc' := 31) dX11_blank_30 rfl rfl rfl ?_
    refine aw_iload_n (pc' := 32) dX11_blank_31 rfl rfl ?_
    have cc8 : AM mX8_refusal 0 [.ref 55, .int i] h 0 0 (PI fun r h' => ((-11) = r ∧ h = h')) := by
      refine am_of (lv := [some (.ref 55), some (.int i)]) rfl (Nat.le_of_ble_eq_true rfl) rfl ?_
      refine aw_aload_n (pc' := 1) dX8_refusal_0 rfl rfl rfl ?_
      refine aw_get clsAll (pc' := 4) dX8_refusal_1 rfl fl_RX8_15 ((hx.2 47 (by decide) (by decide)).trans h0_47) rfl ?_
      refine aw_if_ne (tgt := 10) (pc' := 7) dX8_refusal_4 (by decide) rfl (fun c => absurd (by decide) c) (fun _ => ?_)
      refine aw_bipush (v := (-11)) (pc' := 9) dX8_refusal_7 rfl (by decide) ?_
      exact aw_ri dX8_refusal_9 rfl rfl (Nat.le_of_ble_eq_true rfl) (Nat.le_of_ble_eq_true rfl) ⟨rfl, rfl⟩
    refine aw_callVi (M' := mX8_refusal) (nc' := 0) (ns' := 0) (pc' := 35) dX11_blank_32 rfl ml_RX11_421 kX8_refusal cc8 ((hx.2 47 (by decide) (by decide)).trans h0_47) rfl rfl rfl (Nat.le_of_ble_eq_true rfl) (rok rfl) rfl rfl (fun r9 h9 q9 => ?_)
    obtain ⟨rfl, rfl⟩ := q9
    refine aw_istore (lv' := [_, _, _, _, _]) (pc' := 37) dX11_blank_35 rfl (Nat.le_of_ble_eq_true rfl) rfl ?_
    refine aw_iload (pc' := 39) dX11_blank_37 rfl rfl ?_
    refine aw_if_ne (tgt := 51) (pc' := 42) dX11_blank_39 (by decide) rfl (fun _ => ?_) (fun c => absurd c (by decide))
    refine aw_iload (pc' := 53) dX11_blank_51 rfl rfl ?_
    refine aw_if_ne (tgt := 60) (pc' := 56) dX11_blank_53 (by decide) rfl (fun _ => ?_) (fun c => absurd c (by decide))
    refine aw_iload (pc' := 62) dX11_blank_60 rfl rfl ?_
    exact aw_ri dX11_blank_62 rfl rfl (Nat.le_of_ble_eq_true rfl) (Nat.le_of_ble_eq_true rfl) ⟨(by first | (simp [sp_blank, cnd, okC, okS, okW, okN, inR, n2_, n3_, n5_, n31_]; done) | (simp_all [sp_blank, cnd, okC, okS, okW, okN, inR, n2_, n3_, n5_, n31_]; done) | skip), sm_rf⟩
  · refine aw_astore_n (lv' := [_, _, _, _, _]) (pc' := 6) dX11_blank_5 rfl (Nat.le_of_ble_eq_true rfl) rfl rfl ?_
    refine aw_aload_n (pc' := 7) dX11_blank_6 rfl rfl rfl ?_
    refine aw_ifnonnull_r (tgt := 12) dX11_blank_7 (by decide) ?_
    refine aw_aload_n (pc' := 13) dX11_blank_12 rfl rfl rfl ?_
    refine aw_get clsAll (pc' := 16) dX11_blank_13 rfl fl_RX11_194 ((hx.2 49 (by decide) (by decide)).trans h0_49) rfl ?_
    refine aw_iconst (v := 2) (pc' := 17) dX11_blank_16 rfl (by decide) ?_
    refine aw_icmp_ne (tgt := 30) (pc' := 20) dX11_blank_17 (by decide) rfl (fun _ => ?_) (fun c => absurd c (by decide))
    refine aw_aload_n (pc' := 31) dX11_blank_30 rfl rfl rfl ?_
    refine aw_iload_n (pc' := 32) dX11_blank_31 rfl rfl ?_
    have cc10 : AM mX8_refusal 0 [.ref 57, .int i] h 0 0 (PI fun r h' => ((-11) = r ∧ h = h')) := by
      refine am_of (lv := [some (.ref 57), some (.int i)]) rfl (Nat.le_of_ble_eq_true rfl) rfl ?_
      refine aw_aload_n (pc' := 1) dX8_refusal_0 rfl rfl rfl ?_
      refine aw_get clsAll (pc' := 4) dX8_refusal_1 rfl fl_RX8_15 ((hx.2 49 (by decide) (by decide)).trans h0_49) rfl ?_
      refine aw_if_ne (tgt := 10) (pc' := 7) dX8_refusal_4 (by decide) rfl (fun c => absurd (by decide) c) (fun _ => ?_)
      refine aw_bipush (v := (-11)) (pc' := 9) dX8_refusal_7 rfl (by decide) ?_
      exact aw_ri dX8_refusal_9 rfl rfl (Nat.le_of_ble_eq_true rfl) (Nat.le_of_ble_eq_true rfl) ⟨rfl, rfl⟩
    refine aw_callVi (M' := mX8_refusal) (nc' := 0) (ns' := 0) (pc' := 35) dX11_blank_32 rfl ml_RX11_421 kX8_refusal cc10 ((hx.2 49 (by decide) (by decide)).trans h0_49) rfl rfl rfl (Nat.le_of_ble_eq_true rfl) (rok rfl) rfl rfl (fun r11 h11 q11 => ?_)
    obtain ⟨rfl, rfl⟩ := q11
    refine aw_istore (lv' := [_, _, _, _, _]) (pc' := 37) dX11_blank_35 rfl (Nat.le_of_ble_eq_true rfl) rfl ?_
    refine aw_iload (pc' := 39) dX11_blank_37 rfl rfl ?_
    refine aw_if_ne (tgt := 51) (pc' := 42) dX11_blank_39 (by decide) rfl (fun _ => ?_) (fun c => absurd c (by decide))
    refine aw_iload (pc' := 53) dX11_blank_51 rfl rfl ?_
    refine aw_if_ne (tgt := 60) (pc' := 56) dX11_blank_53 (by decide) rfl (fun _ => ?_) (fun c => absurd c (by decide))
    refine aw_iload (pc' := 62) dX11_blank_60 rfl rfl ?_
    exact aw_ri dX11_blank_62 rfl rfl (Nat.le_of_ble_eq_true rfl) (Nat.le_of_ble_eq_true rfl) ⟨(by first | (simp [sp_blank, cnd, okC, okS, okW, okN, inR, n2_, n3_, n5_, n31_]; done) | (simp_all [sp_blank, cnd, okC, okS, okW, okN, inR, n2_, n3_, n5_, n31_]; done) | skip), sm_rf⟩
  · refine aw_astore_n (lv' := [_, _, _, _, _]) (pc' := 6) dX11_blank_5 rfl (Nat.le_of_ble_eq_true rfl) rfl rfl ?_
    refine aw_aload_n (pc' := 7) dX11_blank_6 rfl rfl rfl ?_
    refine aw_ifnonnull_r (tgt := 12) dX11_blank_7 (by decide) ?_
    refine aw_aload_n (pc' := 13) dX11_blank_12 rfl rfl rfl ?_
    refine aw_get clsAll (pc' := 16) dX11_blank_13 rfl fl_RX11_194 ((hx.2 51 (by decide) (by decide)).trans h0_51) rfl ?_
    refine aw_iconst (v := 2) (pc' := 17) dX11_blank_16 rfl (by decide) ?_
    refine aw_icmp_ne (tgt := 30) (pc' := 20) dX11_blank_17 (by decide) rfl (fun _ => ?_) (fun c => absurd c (by decide))
    refine aw_aload_n (pc' := 31) dX11_blank_30 rfl rfl rfl ?_
    refine aw_iload_n (pc' := 32) dX11_blank_31 rfl rfl ?_
    have cc12 : AM mX8_refusal 0 [.ref 59, .int i] h 0 0 (PI fun r h' => ((-11) = r ∧ h = h')) := by
      refine am_of (lv := [some (.ref 59), some (.int i)]) rfl (Nat.le_of_ble_eq_true rfl) rfl ?_
      refine aw_aload_n (pc' := 1) dX8_refusal_0 rfl rfl rfl ?_
      refine aw_get clsAll (pc' := 4) dX8_refusal_1 rfl fl_RX8_15 ((hx.2 51 (by decide) (by decide)).trans h0_51) rfl ?_
      refine aw_if_ne (tgt := 10) (pc' := 7) dX8_refusal_4 (by decide) rfl (fun c => absurd (by decide) c) (fun _ => ?_)
      refine aw_bipush (v := (-11)) (pc' := 9) dX8_refusal_7 rfl (by decide) ?_
      exact aw_ri dX8_refusal_9 rfl rfl (Nat.le_of_ble_eq_true rfl) (Nat.le_of_ble_eq_true rfl) ⟨rfl, rfl⟩
    refine aw_callVi (M' := mX8_refusal) (nc' := 0) (ns' := 0) (pc' := 35) dX11_blank_32 rfl ml_RX11_421 kX8_refusal cc12 ((hx.2 51 (by decide) (by decide)).trans h0_51) rfl rfl rfl (Nat.le_of_ble_eq_true rfl) (rok rfl) rfl rfl (fun r13 h13 q13 => ?_)
    obtain ⟨rfl, rfl⟩ := q13
    refine aw_istore (lv' := [_, _, _, _, _]) (pc' := 37) dX11_blank_35 rfl (Nat.le_of_ble_eq_true rfl) rfl ?_
    refine aw_iload (pc' := 39) dX11_blank_37 rfl rfl ?_
    refine aw_if_ne (tgt := 51) (pc' := 42) dX11_blank_39 (by decide) rfl (fun _ => ?_) (fun c => absurd c (by decide))
    refine aw_iload (pc' := 53) dX11_blank_51 rfl rfl ?_
    refine aw_if_ne (tgt := 60) (pc' := 56) dX11_blank_53 (by decide) rfl (fun _ => ?_) (fun c => absurd c (by decide))
    refine aw_iload (pc' := 62) dX11_blank_60 rfl rfl ?_
    exact aw_ri dX11_blank_62 rfl rfl (Nat.le_of_ble_eq_true rfl) (Nat.le_of_ble_eq_true rfl) ⟨(by first | (simp [sp_blank, cnd, okC, okS, okW, okN, inR, n2_, n3_, n5_, n31_]; done) | (simp_all [sp_blank, cnd, okC, okS, okW, okN, inR, n2_, n3_, n5_, n31_]; done) | skip), sm_rf⟩
  · refine aw_astore_n (lv' := [_, _, _, _, _]) (pc' := 6) dX11_blank_5 rfl (Nat.le_of_ble_eq_true rfl) rfl rfl ?_
    refine aw_aload_n (pc' := 7) dX11_blank_6 rfl rfl rfl ?_
    refine aw_ifnonnull_r (tgt := 12) dX11_blank_7 (by decide) ?_
    refine aw_aload_n (pc' := 13) dX11_blank_12 rfl rfl rfl ?_
    refine aw_get clsAll (pc' := 16) dX11_blank_13 rfl fl_RX11_194 ((hx.2 53 (by decide) (by decide)).trans h0_53) rfl ?_
    refine aw_iconst (v := 2) (pc' := 17) dX11_blank_16 rfl (by decide) ?_
    refine aw_icmp_ne (tgt := 30) (pc' := 20) dX11_blank_17 (by decide) rfl (fun _ => ?_) (fun c => absurd c (by decide))
    refine aw_aload_n (pc' := 31) dX11_blank_30 rfl rfl rfl ?_
    refine aw_iload_n (pc' := 32) dX11_blank_31 rfl rfl ?_
    have cc14 : AM mX8_refusal 0 [.ref 61, .int i] h 0 0 (PI fun r h' => ((-11) = r ∧ h = h')) := by
      refine am_of (lv := [some (.ref 61), some (.int i)]) rfl (Nat.le_of_ble_eq_true rfl) rfl ?_
      refine aw_aload_n (pc' := 1) dX8_refusal_0 rfl rfl rfl ?_
      refine aw_get clsAll (pc' := 4) dX8_refusal_1 rfl fl_RX8_15 ((hx.2 53 (by decide) (by decide)).trans h0_53) rfl ?_
      refine aw_if_ne (tgt := 10) (pc' := 7) dX8_refusal_4 (by decide) rfl (fun c => absurd (by decide) c) (fun _ => ?_)
      refine aw_bipush (v := (-11)) (pc' := 9) dX8_refusal_7 rfl (by decide) ?_
      exact aw_ri dX8_refusal_9 rfl rfl (Nat.le_of_ble_eq_true rfl) (Nat.le_of_ble_eq_true rfl) ⟨rfl, rfl⟩
    refine aw_callVi (M' := mX8_refusal) (nc' := 0) (ns' := 0) (pc' := 35) dX11_blank_32 rfl ml_RX11_421 kX8_refusal cc14 ((hx.2 53 (by decide) (by decide)).trans h0_53) rfl rfl rfl (Nat.le_of_ble_eq_true rfl) (rok rfl) rfl rfl (fun r15 h15 q15 => ?_)
    obtain ⟨rfl, rfl⟩ := q15
    refine aw_istore (lv' := [_, _, _, _, _]) (pc' := 37) dX11_blank_35 rfl (Nat.le_of_ble_eq_true rfl) rfl ?_
    refine aw_iload (pc' := 39) dX11_blank_37 rfl rfl ?_
    refine aw_if_ne (tgt := 51) (pc' := 42) dX11_blank_39 (by decide) rfl (fun _ => ?_) (fun c => absurd c (by decide))
    refine aw_iload (pc' := 53) dX11_blank_51 rfl rfl ?_
    refine aw_if_ne (tgt := 60) (pc' := 56) dX11_blank_53 (by decide) rfl (fun _ => ?_) (fun c => absurd c (by decide))
    refine aw_iload (pc' := 62) dX11_blank_60 rfl rfl ?_
    exact aw_ri dX11_blank_62 rfl rfl (Nat.le_of_ble_eq_true rfl) (Nat.le_of_ble_eq_true rfl) ⟨(by first | (simp [sp_blank, cnd, okC, okS, okW, okN, inR, n2_, n3_, n5_, n31_]; done) | (simp_all [sp_blank, cnd, okC, okS, okW, okN, inR, n2_, n3_, n5_, n31_]; done) | skip), sm_rf⟩
  · refine aw_astore_n (lv' := [_, _, _, _, _]) (pc' := 6) dX11_blank_5 rfl (Nat.le_of_ble_eq_true rfl) rfl rfl ?_
    refine aw_aload_n (pc' := 7) dX11_blank_6 rfl rfl rfl ?_
    refine aw_ifnonnull_r (tgt := 12) dX11_blank_7 (by decide) ?_
    refine aw_aload_n (pc' := 13) dX11_blank_12 rfl rfl rfl ?_
    refine aw_get clsAll (pc' := 16) dX11_blank_13 rfl fl_RX11_194 ((hx.2 55 (by decide) (by decide)).trans h0_55) rfl ?_
    refine aw_iconst (v := 2) (pc' := 17) dX11_blank_16 rfl (by decide) ?_
    refine aw_icmp_ne (tgt := 30) (pc' := 20) dX11_blank_17 (by decide) rfl (fun _ => ?_) (fun c => absurd c (by decide))
    refine aw_aload_n (pc' := 31) dX11_blank_30 rfl rfl rfl ?_
    refine aw_iload_n (pc' := 32) dX11_blank_31 rfl rfl ?_
    have cc16 : AM mX8_refusal 0 [.ref 63, .int i] h 0 0 (PI fun r h' => ((-11) = r ∧ h = h')) := by
      refine am_of (lv := [some (.ref 63), some (.int i)]) rfl (Nat.le_of_ble_eq_true rfl) rfl ?_
      refine aw_aload_n (pc' := 1) dX8_refusal_0 rfl rfl rfl ?_
      refine aw_get clsAll (pc' := 4) dX8_refusal_1 rfl fl_RX8_15 ((hx.2 55 (by decide) (by decide)).trans h0_55) rfl ?_
      refine aw_if_ne (tgt := 10) (pc' := 7) dX8_refusal_4 (by decide) rfl (fun c => absurd (by decide) c) (fun _ => ?_)
      refine aw_bipush (v := (-11)) (pc' := 9) dX8_refusal_7 rfl (by decide) ?_
      exact aw_ri dX8_refusal_9 rfl rfl (Nat.le_of_ble_eq_true rfl) (Nat.le_of_ble_eq_true rfl) ⟨rfl, rfl⟩
    refine aw_callVi (M' := mX8_refusal) (nc' := 0) (ns' := 0) (pc' := 35) dX11_blank_32 rfl ml_RX11_421 kX8_refusal cc16 ((hx.2 55 (by decide) (by decide)).trans h0_55) rfl rfl rfl (Nat.le_of_ble_eq_true rfl) (rok rfl) rfl rfl (fun r17 h17 q17 => ?_)
    obtain ⟨rfl, rfl⟩ := q17
    refine aw_istore (lv' := [_, _, _, _, _]) (pc' := 37) dX11_blank_35 rfl (Nat.le_of_ble_eq_true rfl) rfl ?_
    refine aw_iload (pc' := 39) dX11_blank_37 rfl rfl ?_
    refine aw_if_ne (tgt := 51) (pc' := 42) dX11_blank_39 (by decide) rfl (fun _ => ?_) (fun c => absurd c (by decide))
    refine aw_iload (pc' := 53) dX11_blank_51 rfl rfl ?_
    refine aw_if_ne (tgt := 60) (pc' := 56) dX11_blank_53 (by decide) rfl (fun _ => ?_) (fun c => absurd c (by decide))
    refine aw_iload (pc' := 62) dX11_blank_60 rfl rfl ?_
    exact aw_ri dX11_blank_62 rfl rfl (Nat.le_of_ble_eq_true rfl) (Nat.le_of_ble_eq_true rfl) ⟨(by first | (simp [sp_blank, cnd, okC, okS, okW, okN, inR, n2_, n3_, n5_, n31_]; done) | (simp_all [sp_blank, cnd, okC, okS, okW, okN, inR, n2_, n3_, n5_, n31_]; done) | skip), sm_rf⟩
  · refine aw_astore_n (lv' := [_, _, _, _, _]) (pc' := 6) dX11_blank_5 rfl (Nat.le_of_ble_eq_true rfl) rfl rfl ?_
    refine aw_aload_n (pc' := 7) dX11_blank_6 rfl rfl rfl ?_
    refine aw_ifnonnull_r (tgt := 12) dX11_blank_7 (by decide) ?_
    refine aw_aload_n (pc' := 13) dX11_blank_12 rfl rfl rfl ?_
    refine aw_get clsAll (pc' := 16) dX11_blank_13 rfl fl_RX11_194 ((hx.2 57 (by decide) (by decide)).trans h0_57) rfl ?_
    refine aw_iconst (v := 2) (pc' := 17) dX11_blank_16 rfl (by decide) ?_
    refine aw_icmp_ne (tgt := 30) (pc' := 20) dX11_blank_17 (by decide) rfl (fun _ => ?_) (fun c => absurd c (by decide))
    refine aw_aload_n (pc' := 31) dX11_blank_30 rfl rfl rfl ?_
    refine aw_iload_n (pc' := 32) dX11_blank_31 rfl rfl ?_
    have cc18 : AM mX8_refusal 0 [.ref 65, .int i] h 0 0 (PI fun r h' => ((-11) = r ∧ h = h')) := by
      refine am_of (lv := [some (.ref 65), some (.int i)]) rfl (Nat.le_of_ble_eq_true rfl) rfl ?_
      refine aw_aload_n (pc' := 1) dX8_refusal_0 rfl rfl rfl ?_
      refine aw_get clsAll (pc' := 4) dX8_refusal_1 rfl fl_RX8_15 ((hx.2 57 (by decide) (by decide)).trans h0_57) rfl ?_
      refine aw_if_ne (tgt := 10) (pc' := 7) dX8_refusal_4 (by decide) rfl (fun c => absurd (by decide) c) (fun _ => ?_)
      refine aw_bipush (v := (-11)) (pc' := 9) dX8_refusal_7 rfl (by decide) ?_
      exact aw_ri dX8_refusal_9 rfl rfl (Nat.le_of_ble_eq_true rfl) (Nat.le_of_ble_eq_true rfl) ⟨rfl, rfl⟩
    refine aw_callVi (M' := mX8_refusal) (nc' := 0) (ns' := 0) (pc' := 35) dX11_blank_32 rfl ml_RX11_421 kX8_refusal cc18 ((hx.2 57 (by decide) (by decide)).trans h0_57) rfl rfl rfl (Nat.le_of_ble_eq_true rfl) (rok rfl) rfl rfl (fun r19 h19 q19 => ?_)
    obtain ⟨rfl, rfl⟩ := q19
    refine aw_istore (lv' := [_, _, _, _, _]) (pc' := 37) dX11_blank_35 rfl (Nat.le_of_ble_eq_true rfl) rfl ?_
    refine aw_iload (pc' := 39) dX11_blank_37 rfl rfl ?_
    refine aw_if_ne (tgt := 51) (pc' := 42) dX11_blank_39 (by decide) rfl (fun _ => ?_) (fun c => absurd c (by decide))
    refine aw_iload (pc' := 53) dX11_blank_51 rfl rfl ?_
    refine aw_if_ne (tgt := 60) (pc' := 56) dX11_blank_53 (by decide) rfl (fun _ => ?_) (fun c => absurd c (by decide))
    refine aw_iload (pc' := 62) dX11_blank_60 rfl rfl ?_
    exact aw_ri dX11_blank_62 rfl rfl (Nat.le_of_ble_eq_true rfl) (Nat.le_of_ble_eq_true rfl) ⟨(by first | (simp [sp_blank, cnd, okC, okS, okW, okN, inR, n2_, n3_, n5_, n31_]; done) | (simp_all [sp_blank, cnd, okC, okS, okW, okN, inR, n2_, n3_, n5_, n31_]; done) | skip), sm_rf⟩
  · refine aw_astore_n (lv' := [_, _, _, _, _]) (pc' := 6) dX11_blank_5 rfl (Nat.le_of_ble_eq_true rfl) rfl rfl ?_
    refine aw_aload_n (pc' := 7) dX11_blank_6 rfl rfl rfl ?_
    refine aw_ifnonnull_n (pc' := 10) dX11_blank_7 rfl ?_
    refine aw_iconst (v := (-1)) (pc' := 11) dX11_blank_10 rfl (by decide) ?_
    exact aw_ri dX11_blank_11 rfl rfl (Nat.le_of_ble_eq_true rfl) (Nat.le_of_ble_eq_true rfl) ⟨(by first | (simp [sp_blank, cnd, okC, okS, okW, okN, inR, n2_, n3_, n5_, n31_, c5, c6]; done) | (simp_all [sp_blank, cnd, okC, okS, okW, okN, inR, n2_, n3_, n5_, n31_]; done) | skip), sm_rf⟩
set_option maxRecDepth 4000 in
theorem x_element (h : List aE) (hx : Fx 0 h) (hlen : h.length = 126) (s : Int32) (i : Int32) : AM mX11_element 1 [.ref 8, .int s, .int i] h 0 0 (PL fun r h' => r = sp_element s i ∧ Sm h h') := by
  refine am_of (lv := [some (.ref 8), some (.int s), some (.int i), none]) rfl (Nat.le_of_ble_eq_true rfl) rfl ?_
  refine aw_aload_n (pc' := 1) dX11_element_0 rfl rfl rfl ?_
  refine aw_iload_n (pc' := 2) dX11_element_1 rfl rfl ?_
  have cc1 : AM mX11_shelfOf 0 [.ref 8, .int s] h 0 0 (PA fun r h' => (s < 0 ∧ Value.null = r ∧ h = h') ∨ (s = 0 ∧ Value.ref 55 = r ∧ h = h') ∨ (s = 1 ∧ Value.ref 57 = r ∧ h = h') ∨ (s = 2 ∧ Value.ref 59 = r ∧ h = h') ∨ (s = 3 ∧ Value.ref 61 = r ∧ h = h') ∨ (s = 4 ∧ Value.ref 63 = r ∧ h = h') ∨ (s = 5 ∧ Value.ref 65 = r ∧ h = h') ∨ (¬ (s < 0) ∧ ¬ (s < 6) ∧ Value.null = r ∧ h = h')) := by
    refine am_of (lv := [some (.ref 8), some (.int s)]) rfl (Nat.le_of_ble_eq_true rfl) rfl ?_
    refine aw_iload_n (pc' := 1) dX11_shelfOf_0 rfl rfl ?_
    refine aw_zlt (tgt := 10) (pc' := 4) dX11_shelfOf_1 (by decide) rfl (fun c2 => ?_) (fun c2 => ?_)
    · refine aw_null (pc' := 11) dX11_shelfOf_10 rfl ?_
      refine aw_goto (tgt := 20) dX11_shelfOf_11 (by decide) ?_
      exact aw_ra dX11_shelfOf_20 rfl (Or.inl ⟨_, rfl⟩) rfl (Nat.le_of_ble_eq_true rfl) (Nat.le_of_ble_eq_true rfl) (Or.inl ⟨c2, rfl, rfl⟩)
    · refine aw_iload_n (pc' := 5) dX11_shelfOf_4 rfl rfl ?_
      refine aw_bipush (v := 6) (pc' := 7) dX11_shelfOf_5 rfl (by decide) ?_
      refine aw_clt (tgt := 14) (pc' := 10) dX11_shelfOf_7 (by decide) rfl (fun c3 => ?_) (fun c3 => ?_)
      · refine aw_aload_n (pc' := 15) dX11_shelfOf_14 rfl rfl rfl ?_
        refine aw_get clsAll (pc' := 18) dX11_shelfOf_15 rfl fl_RX11_89 hx.1 rfl ?_
        refine aw_iload_n (pc' := 19) dX11_shelfOf_18 rfl rfl ?_
        rcases six_ c2 c3 with rfl | rfl | rfl | rfl | rfl | rfl
        · refine aw_aald (v := .ref 55) (pc' := 20) dX11_shelfOf_19 rfl ((hx.2 46 (by decide) (by decide)).trans h0_46) (by decide) rfl (vpc (by decide)) rfl ?_
          exact aw_ra dX11_shelfOf_20 rfl (Or.inl ⟨_, rfl⟩) rfl (Nat.le_of_ble_eq_true rfl) (Nat.le_of_ble_eq_true rfl) (Or.inr (Or.inl ⟨rfl, rfl, rfl⟩))
        · refine aw_aald (v := .ref 57) (pc' := 20) dX11_shelfOf_19 rfl ((hx.2 46 (by decide) (by decide)).trans h0_46) (by decide) rfl (vpc (by decide)) rfl ?_
          exact aw_ra dX11_shelfOf_20 rfl (Or.inl ⟨_, rfl⟩) rfl (Nat.le_of_ble_eq_true rfl) (Nat.le_of_ble_eq_true rfl) (Or.inr (Or.inr (Or.inl ⟨rfl, rfl, rfl⟩)))
        · refine aw_aald (v := .ref 59) (pc' := 20) dX11_shelfOf_19 rfl ((hx.2 46 (by decide) (by decide)).trans h0_46) (by decide) rfl (vpc (by decide)) rfl ?_
          exact aw_ra dX11_shelfOf_20 rfl (Or.inl ⟨_, rfl⟩) rfl (Nat.le_of_ble_eq_true rfl) (Nat.le_of_ble_eq_true rfl) (Or.inr (Or.inr (Or.inr (Or.inl ⟨rfl, rfl, rfl⟩))))
        · refine aw_aald (v := .ref 61) (pc' := 20) dX11_shelfOf_19 rfl ((hx.2 46 (by decide) (by decide)).trans h0_46) (by decide) rfl (vpc (by decide)) rfl ?_
          exact aw_ra dX11_shelfOf_20 rfl (Or.inl ⟨_, rfl⟩) rfl (Nat.le_of_ble_eq_true rfl) (Nat.le_of_ble_eq_true rfl) (Or.inr (Or.inr (Or.inr (Or.inr (Or.inl ⟨rfl, rfl, rfl⟩)))))
        · refine aw_aald (v := .ref 63) (pc' := 20) dX11_shelfOf_19 rfl ((hx.2 46 (by decide) (by decide)).trans h0_46) (by decide) rfl (vpc (by decide)) rfl ?_
          exact aw_ra dX11_shelfOf_20 rfl (Or.inl ⟨_, rfl⟩) rfl (Nat.le_of_ble_eq_true rfl) (Nat.le_of_ble_eq_true rfl) (Or.inr (Or.inr (Or.inr (Or.inr (Or.inr (Or.inl ⟨rfl, rfl, rfl⟩))))))
        · refine aw_aald (v := .ref 65) (pc' := 20) dX11_shelfOf_19 rfl ((hx.2 46 (by decide) (by decide)).trans h0_46) (by decide) rfl (vpc (by decide)) rfl ?_
          exact aw_ra dX11_shelfOf_20 rfl (Or.inl ⟨_, rfl⟩) rfl (Nat.le_of_ble_eq_true rfl) (Nat.le_of_ble_eq_true rfl) (Or.inr (Or.inr (Or.inr (Or.inr (Or.inr (Or.inr (Or.inl ⟨rfl, rfl, rfl⟩)))))))
      · refine aw_null (pc' := 11) dX11_shelfOf_10 rfl ?_
        refine aw_goto (tgt := 20) dX11_shelfOf_11 (by decide) ?_
        exact aw_ra dX11_shelfOf_20 rfl (Or.inl ⟨_, rfl⟩) rfl (Nat.le_of_ble_eq_true rfl) (Nat.le_of_ble_eq_true rfl) (Or.inr (Or.inr (Or.inr (Or.inr (Or.inr (Or.inr (Or.inr ⟨c2, c3, rfl, rfl⟩)))))))
  refine aw_callVa (M' := mX11_shelfOf) (nc' := 0) (ns' := 0) (pc' := 5) dX11_element_2 rfl ml_RX11_190 kX11_shelfOf cc1 hx.1 rfl rfl rfl (Nat.le_of_ble_eq_true rfl) (rok rfl) rfl rfl (fun r7 h7 q7 => ?_)
  rcases q7 with ⟨c4, rfl, rfl⟩ | ⟨rfl, rfl, rfl⟩ | ⟨rfl, rfl, rfl⟩ | ⟨rfl, rfl, rfl⟩ | ⟨rfl, rfl, rfl⟩ | ⟨rfl, rfl, rfl⟩ | ⟨rfl, rfl, rfl⟩ | ⟨c5, c6, rfl, rfl⟩
  · refine aw_astore_n (lv' := [_, _, _, _]) (pc' := 6) dX11_element_5 rfl (Nat.le_of_ble_eq_true rfl) rfl rfl ?_
    refine aw_aload_n (pc' := 7) dX11_element_6 rfl rfl rfl ?_
    refine aw_ifnull_n (tgt := 18) dX11_element_7 (by decide) ?_
    refine aw_ldc2 (pc' := 21) dX11_element_18 rfl ct_RX11_434 ?_
    exact aw_rl dX11_element_21 rfl (Nat.le_of_ble_eq_true rfl) (Nat.le_of_ble_eq_true rfl) ⟨(by first | (simp [sp_element, cnd, okC, okS, okW, okN, inR, n2_, n3_, n5_, n31_, c4]; done) | (simp_all [sp_element, cnd, okC, okS, okW, okN, inR, n2_, n3_, n5_, n31_]; done) | skip), sm_rf⟩
  · refine aw_astore_n (lv' := [_, _, _, _]) (pc' := 6) dX11_element_5 rfl (Nat.le_of_ble_eq_true rfl) rfl rfl ?_
    refine aw_aload_n (pc' := 7) dX11_element_6 rfl rfl rfl ?_
    refine aw_ifnull_r (pc' := 10) dX11_element_7 rfl ?_
    refine aw_aload_n (pc' := 11) dX11_element_10 rfl rfl rfl ?_
    refine aw_iload_n (pc' := 12) dX11_element_11 rfl rfl ?_
    have cc8 : AM mX8_refusal 0 [.ref 55, .int i] h 0 0 (PI fun r h' => ((-11) = r ∧ h = h')) := by
      refine am_of (lv := [some (.ref 55), some (.int i)]) rfl (Nat.le_of_ble_eq_true rfl) rfl ?_
      refine aw_aload_n (pc' := 1) dX8_refusal_0 rfl rfl rfl ?_
      refine aw_get clsAll (pc' := 4) dX8_refusal_1 rfl fl_RX8_15 ((hx.2 47 (by decide) (by decide)).trans h0_47) rfl ?_
      refine aw_if_ne (tgt := 10) (pc' := 7) dX8_refusal_4 (by decide) rfl (fun c => absurd (by decide) c) (fun _ => ?_)
      refine aw_bipush (v := (-11)) (pc' := 9) dX8_refusal_7 rfl (by decide) ?_
      exact aw_ri dX8_refusal_9 rfl rfl (Nat.le_of_ble_eq_true rfl) (Nat.le_of_ble_eq_true rfl) ⟨rfl, rfl⟩
    refine aw_callVi (M' := mX8_refusal) (nc' := 0) (ns' := 0) (pc' := 15) dX11_element_12 rfl ml_RX11_421 kX8_refusal cc8 ((hx.2 47 (by decide) (by decide)).trans h0_47) rfl rfl rfl (Nat.le_of_ble_eq_true rfl) (rok rfl) rfl rfl (fun r9 h9 q9 => ?_)
    obtain ⟨rfl, rfl⟩ := q9
    refine aw_if_eq (tgt := 22) (pc' := 18) dX11_element_15 (by decide) rfl (fun c => absurd c (by decide)) (fun _ => ?_)
    refine aw_ldc2 (pc' := 21) dX11_element_18 rfl ct_RX11_434 ?_
    exact aw_rl dX11_element_21 rfl (Nat.le_of_ble_eq_true rfl) (Nat.le_of_ble_eq_true rfl) ⟨(by first | (simp [sp_element, cnd, okC, okS, okW, okN, inR, n2_, n3_, n5_, n31_]; done) | (simp_all [sp_element, cnd, okC, okS, okW, okN, inR, n2_, n3_, n5_, n31_]; done) | skip), sm_rf⟩
  · refine aw_astore_n (lv' := [_, _, _, _]) (pc' := 6) dX11_element_5 rfl (Nat.le_of_ble_eq_true rfl) rfl rfl ?_
    refine aw_aload_n (pc' := 7) dX11_element_6 rfl rfl rfl ?_
    refine aw_ifnull_r (pc' := 10) dX11_element_7 rfl ?_
    refine aw_aload_n (pc' := 11) dX11_element_10 rfl rfl rfl ?_
    refine aw_iload_n (pc' := 12) dX11_element_11 rfl rfl ?_
    have cc10 : AM mX8_refusal 0 [.ref 57, .int i] h 0 0 (PI fun r h' => ((-11) = r ∧ h = h')) := by
      refine am_of (lv := [some (.ref 57), some (.int i)]) rfl (Nat.le_of_ble_eq_true rfl) rfl ?_
      refine aw_aload_n (pc' := 1) dX8_refusal_0 rfl rfl rfl ?_
      refine aw_get clsAll (pc' := 4) dX8_refusal_1 rfl fl_RX8_15 ((hx.2 49 (by decide) (by decide)).trans h0_49) rfl ?_
      refine aw_if_ne (tgt := 10) (pc' := 7) dX8_refusal_4 (by decide) rfl (fun c => absurd (by decide) c) (fun _ => ?_)
      refine aw_bipush (v := (-11)) (pc' := 9) dX8_refusal_7 rfl (by decide) ?_
      exact aw_ri dX8_refusal_9 rfl rfl (Nat.le_of_ble_eq_true rfl) (Nat.le_of_ble_eq_true rfl) ⟨rfl, rfl⟩
    refine aw_callVi (M' := mX8_refusal) (nc' := 0) (ns' := 0) (pc' := 15) dX11_element_12 rfl ml_RX11_421 kX8_refusal cc10 ((hx.2 49 (by decide) (by decide)).trans h0_49) rfl rfl rfl (Nat.le_of_ble_eq_true rfl) (rok rfl) rfl rfl (fun r11 h11 q11 => ?_)
    obtain ⟨rfl, rfl⟩ := q11
    refine aw_if_eq (tgt := 22) (pc' := 18) dX11_element_15 (by decide) rfl (fun c => absurd c (by decide)) (fun _ => ?_)
    refine aw_ldc2 (pc' := 21) dX11_element_18 rfl ct_RX11_434 ?_
    exact aw_rl dX11_element_21 rfl (Nat.le_of_ble_eq_true rfl) (Nat.le_of_ble_eq_true rfl) ⟨(by first | (simp [sp_element, cnd, okC, okS, okW, okN, inR, n2_, n3_, n5_, n31_]; done) | (simp_all [sp_element, cnd, okC, okS, okW, okN, inR, n2_, n3_, n5_, n31_]; done) | skip), sm_rf⟩
  · refine aw_astore_n (lv' := [_, _, _, _]) (pc' := 6) dX11_element_5 rfl (Nat.le_of_ble_eq_true rfl) rfl rfl ?_
    refine aw_aload_n (pc' := 7) dX11_element_6 rfl rfl rfl ?_
    refine aw_ifnull_r (pc' := 10) dX11_element_7 rfl ?_
    refine aw_aload_n (pc' := 11) dX11_element_10 rfl rfl rfl ?_
    refine aw_iload_n (pc' := 12) dX11_element_11 rfl rfl ?_
    have cc12 : AM mX8_refusal 0 [.ref 59, .int i] h 0 0 (PI fun r h' => ((-11) = r ∧ h = h')) := by
      refine am_of (lv := [some (.ref 59), some (.int i)]) rfl (Nat.le_of_ble_eq_true rfl) rfl ?_
      refine aw_aload_n (pc' := 1) dX8_refusal_0 rfl rfl rfl ?_
      refine aw_get clsAll (pc' := 4) dX8_refusal_1 rfl fl_RX8_15 ((hx.2 51 (by decide) (by decide)).trans h0_51) rfl ?_
      refine aw_if_ne (tgt := 10) (pc' := 7) dX8_refusal_4 (by decide) rfl (fun c => absurd (by decide) c) (fun _ => ?_)
      refine aw_bipush (v := (-11)) (pc' := 9) dX8_refusal_7 rfl (by decide) ?_
      exact aw_ri dX8_refusal_9 rfl rfl (Nat.le_of_ble_eq_true rfl) (Nat.le_of_ble_eq_true rfl) ⟨rfl, rfl⟩
    refine aw_callVi (M' := mX8_refusal) (nc' := 0) (ns' := 0) (pc' := 15) dX11_element_12 rfl ml_RX11_421 kX8_refusal cc12 ((hx.2 51 (by decide) (by decide)).trans h0_51) rfl rfl rfl (Nat.le_of_ble_eq_true rfl) (rok rfl) rfl rfl (fun r13 h13 q13 => ?_)
    obtain ⟨rfl, rfl⟩ := q13
    refine aw_if_eq (tgt := 22) (pc' := 18) dX11_element_15 (by decide) rfl (fun c => absurd c (by decide)) (fun _ => ?_)
    refine aw_ldc2 (pc' := 21) dX11_element_18 rfl ct_RX11_434 ?_
    exact aw_rl dX11_element_21 rfl (Nat.le_of_ble_eq_true rfl) (Nat.le_of_ble_eq_true rfl) ⟨(by first | (simp [sp_element, cnd, okC, okS, okW, okN, inR, n2_, n3_, n5_, n31_]; done) | (simp_all [sp_element, cnd, okC, okS, okW, okN, inR, n2_, n3_, n5_, n31_]; done) | skip), sm_rf⟩
  · refine aw_astore_n (lv' := [_, _, _, _]) (pc' := 6) dX11_element_5 rfl (Nat.le_of_ble_eq_true rfl) rfl rfl ?_
    refine aw_aload_n (pc' := 7) dX11_element_6 rfl rfl rfl ?_
    refine aw_ifnull_r (pc' := 10) dX11_element_7 rfl ?_
    refine aw_aload_n (pc' := 11) dX11_element_10 rfl rfl rfl ?_
    refine aw_iload_n (pc' := 12) dX11_element_11 rfl rfl ?_
    have cc14 : AM mX8_refusal 0 [.ref 61, .int i] h 0 0 (PI fun r h' => ((-11) = r ∧ h = h')) := by
      refine am_of (lv := [some (.ref 61), some (.int i)]) rfl (Nat.le_of_ble_eq_true rfl) rfl ?_
      refine aw_aload_n (pc' := 1) dX8_refusal_0 rfl rfl rfl ?_
      refine aw_get clsAll (pc' := 4) dX8_refusal_1 rfl fl_RX8_15 ((hx.2 53 (by decide) (by decide)).trans h0_53) rfl ?_
      refine aw_if_ne (tgt := 10) (pc' := 7) dX8_refusal_4 (by decide) rfl (fun c => absurd (by decide) c) (fun _ => ?_)
      refine aw_bipush (v := (-11)) (pc' := 9) dX8_refusal_7 rfl (by decide) ?_
      exact aw_ri dX8_refusal_9 rfl rfl (Nat.le_of_ble_eq_true rfl) (Nat.le_of_ble_eq_true rfl) ⟨rfl, rfl⟩
    refine aw_callVi (M' := mX8_refusal) (nc' := 0) (ns' := 0) (pc' := 15) dX11_element_12 rfl ml_RX11_421 kX8_refusal cc14 ((hx.2 53 (by decide) (by decide)).trans h0_53) rfl rfl rfl (Nat.le_of_ble_eq_true rfl) (rok rfl) rfl rfl (fun r15 h15 q15 => ?_)
    obtain ⟨rfl, rfl⟩ := q15
    refine aw_if_eq (tgt := 22) (pc' := 18) dX11_element_15 (by decide) rfl (fun c => absurd c (by decide)) (fun _ => ?_)
    refine aw_ldc2 (pc' := 21) dX11_element_18 rfl ct_RX11_434 ?_
    exact aw_rl dX11_element_21 rfl (Nat.le_of_ble_eq_true rfl) (Nat.le_of_ble_eq_true rfl) ⟨(by first | (simp [sp_element, cnd, okC, okS, okW, okN, inR, n2_, n3_, n5_, n31_]; done) | (simp_all [sp_element, cnd, okC, okS, okW, okN, inR, n2_, n3_, n5_, n31_]; done) | skip), sm_rf⟩
  · refine aw_astore_n (lv' := [_, _, _, _]) (pc' := 6) dX11_element_5 rfl (Nat.le_of_ble_eq_true rfl) rfl rfl ?_
    refine aw_aload_n (pc' := 7) dX11_element_6 rfl rfl rfl ?_
    refine aw_ifnull_r (pc' := 10) dX11_element_7 rfl ?_
    refine aw_aload_n (pc' := 11) dX11_element_10 rfl rfl rfl ?_
    refine aw_iload_n (pc' := 12) dX11_element_11 rfl rfl ?_
    have cc16 : AM mX8_refusal 0 [.ref 63, .int i] h 0 0 (PI fun r h' => ((-11) = r ∧ h = h')) := by
      refine am_of (lv := [some (.ref 63), some (.int i)]) rfl (Nat.le_of_ble_eq_true rfl) rfl ?_
      refine aw_aload_n (pc' := 1) dX8_refusal_0 rfl rfl rfl ?_
      refine aw_get clsAll (pc' := 4) dX8_refusal_1 rfl fl_RX8_15 ((hx.2 55 (by decide) (by decide)).trans h0_55) rfl ?_
      refine aw_if_ne (tgt := 10) (pc' := 7) dX8_refusal_4 (by decide) rfl (fun c => absurd (by decide) c) (fun _ => ?_)
      refine aw_bipush (v := (-11)) (pc' := 9) dX8_refusal_7 rfl (by decide) ?_
      exact aw_ri dX8_refusal_9 rfl rfl (Nat.le_of_ble_eq_true rfl) (Nat.le_of_ble_eq_true rfl) ⟨rfl, rfl⟩
    refine aw_callVi (M' := mX8_refusal) (nc' := 0) (ns' := 0) (pc' := 15) dX11_element_12 rfl ml_RX11_421 kX8_refusal cc16 ((hx.2 55 (by decide) (by decide)).trans h0_55) rfl rfl rfl (Nat.le_of_ble_eq_true rfl) (rok rfl) rfl rfl (fun r17 h17 q17 => ?_)
    obtain ⟨rfl, rfl⟩ := q17
    refine aw_if_eq (tgt := 22) (pc' := 18) dX11_element_15 (by decide) rfl (fun c => absurd c (by decide)) (fun _ => ?_)
    refine aw_ldc2 (pc' := 21) dX11_element_18 rfl ct_RX11_434 ?_
    exact aw_rl dX11_element_21 rfl (Nat.le_of_ble_eq_true rfl) (Nat.le_of_ble_eq_true rfl) ⟨(by first | (simp [sp_element, cnd, okC, okS, okW, okN, inR, n2_, n3_, n5_, n31_]; done) | (simp_all [sp_element, cnd, okC, okS, okW, okN, inR, n2_, n3_, n5_, n31_]; done) | skip), sm_rf⟩
  · refine aw_astore_n (lv' := [_, _, _, _]) (pc' := 6) dX11_element_5 rfl (Nat.le_of_ble_eq_true rfl) rfl rfl ?_
    refine aw_aload_n (pc' := 7) dX11_element_6 rfl rfl rfl ?_
    refine aw_ifnull_r (pc' := 10) dX11_element_7 rfl ?_
    refine aw_aload_n (pc' := 11) dX11_element_10 rfl rfl rfl ?_
    refine aw_iload_n (pc' := 12) dX11_element_11 rfl rfl ?_
    have cc18 : AM mX8_refusal 0 [.ref 65, .int i] h 0 0 (PI fun r h' => ((-11) = r ∧ h = h')) := by
      refine am_of (lv := [some (.ref 65), some (.int i)]) rfl (Nat.le_of_ble_eq_true rfl) rfl ?_
      refine aw_aload_n (pc' := 1) dX8_refusal_0 rfl rfl rfl ?_
      refine aw_get clsAll (pc' := 4) dX8_refusal_1 rfl fl_RX8_15 ((hx.2 57 (by decide) (by decide)).trans h0_57) rfl ?_
      refine aw_if_ne (tgt := 10) (pc' := 7) dX8_refusal_4 (by decide) rfl (fun c => absurd (by decide) c) (fun _ => ?_)
      refine aw_bipush (v := (-11)) (pc' := 9) dX8_refusal_7 rfl (by decide) ?_
      exact aw_ri dX8_refusal_9 rfl rfl (Nat.le_of_ble_eq_true rfl) (Nat.le_of_ble_eq_true rfl) ⟨rfl, rfl⟩
    refine aw_callVi (M' := mX8_refusal) (nc' := 0) (ns' := 0) (pc' := 15) dX11_element_12 rfl ml_RX11_421 kX8_refusal cc18 ((hx.2 57 (by decide) (by decide)).trans h0_57) rfl rfl rfl (Nat.le_of_ble_eq_true rfl) (rok rfl) rfl rfl (fun r19 h19 q19 => ?_)
    obtain ⟨rfl, rfl⟩ := q19
    refine aw_if_eq (tgt := 22) (pc' := 18) dX11_element_15 (by decide) rfl (fun c => absurd c (by decide)) (fun _ => ?_)
    refine aw_ldc2 (pc' := 21) dX11_element_18 rfl ct_RX11_434 ?_
    exact aw_rl dX11_element_21 rfl (Nat.le_of_ble_eq_true rfl) (Nat.le_of_ble_eq_true rfl) ⟨(by first | (simp [sp_element, cnd, okC, okS, okW, okN, inR, n2_, n3_, n5_, n31_]; done) | (simp_all [sp_element, cnd, okC, okS, okW, okN, inR, n2_, n3_, n5_, n31_]; done) | skip), sm_rf⟩
  · refine aw_astore_n (lv' := [_, _, _, _]) (pc' := 6) dX11_element_5 rfl (Nat.le_of_ble_eq_true rfl) rfl rfl ?_
    refine aw_aload_n (pc' := 7) dX11_element_6 rfl rfl rfl ?_
    refine aw_ifnull_n (tgt := 18) dX11_element_7 (by decide) ?_
    refine aw_ldc2 (pc' := 21) dX11_element_18 rfl ct_RX11_434 ?_
    exact aw_rl dX11_element_21 rfl (Nat.le_of_ble_eq_true rfl) (Nat.le_of_ble_eq_true rfl) ⟨(by first | (simp [sp_element, cnd, okC, okS, okW, okN, inR, n2_, n3_, n5_, n31_, c5, c6]; done) | (simp_all [sp_element, cnd, okC, okS, okW, okN, inR, n2_, n3_, n5_, n31_]; done) | skip), sm_rf⟩
set_option maxRecDepth 4000 in
theorem x_shift (h : List aE) (hx : Fx 0 h) (hlen : h.length = 126) (s : Int32) (i : Int32) (t : Int32) (j : Int32) (n : Int32) : AM mX11_shift 1 [.ref 8, .int s, .int i, .int t, .int j, .int n] h 0 0 (PI fun r h' => r = sp_shift s i t j n ∧ Sm h h') := by
  refine am_of (lv := [some (.ref 8), some (.int s), some (.int i), some (.int t), some (.int j), some (.int n), none, none]) rfl (Nat.le_of_ble_eq_true rfl) rfl ?_
  refine aw_aload_n (pc' := 1) dX11_shift_0 rfl rfl rfl ?_
  refine aw_iload_n (pc' := 2) dX11_shift_1 rfl rfl ?_
  have cc1 : AM mX11_shelfOf 0 [.ref 8, .int s] h 0 0 (PA fun r h' => (s < 0 ∧ Value.null = r ∧ h = h') ∨ (s = 0 ∧ Value.ref 55 = r ∧ h = h') ∨ (s = 1 ∧ Value.ref 57 = r ∧ h = h') ∨ (s = 2 ∧ Value.ref 59 = r ∧ h = h') ∨ (s = 3 ∧ Value.ref 61 = r ∧ h = h') ∨ (s = 4 ∧ Value.ref 63 = r ∧ h = h') ∨ (s = 5 ∧ Value.ref 65 = r ∧ h = h') ∨ (¬ (s < 0) ∧ ¬ (s < 6) ∧ Value.null = r ∧ h = h')) := by
    refine am_of (lv := [some (.ref 8), some (.int s)]) rfl (Nat.le_of_ble_eq_true rfl) rfl ?_
    refine aw_iload_n (pc' := 1) dX11_shelfOf_0 rfl rfl ?_
    refine aw_zlt (tgt := 10) (pc' := 4) dX11_shelfOf_1 (by decide) rfl (fun c2 => ?_) (fun c2 => ?_)
    · refine aw_null (pc' := 11) dX11_shelfOf_10 rfl ?_
      refine aw_goto (tgt := 20) dX11_shelfOf_11 (by decide) ?_
      exact aw_ra dX11_shelfOf_20 rfl (Or.inl ⟨_, rfl⟩) rfl (Nat.le_of_ble_eq_true rfl) (Nat.le_of_ble_eq_true rfl) (Or.inl ⟨c2, rfl, rfl⟩)
    · refine aw_iload_n (pc' := 5) dX11_shelfOf_4 rfl rfl ?_
      refine aw_bipush (v := 6) (pc' := 7) dX11_shelfOf_5 rfl (by decide) ?_
      refine aw_clt (tgt := 14) (pc' := 10) dX11_shelfOf_7 (by decide) rfl (fun c3 => ?_) (fun c3 => ?_)
      · refine aw_aload_n (pc' := 15) dX11_shelfOf_14 rfl rfl rfl ?_
        refine aw_get clsAll (pc' := 18) dX11_shelfOf_15 rfl fl_RX11_89 hx.1 rfl ?_
        refine aw_iload_n (pc' := 19) dX11_shelfOf_18 rfl rfl ?_
        rcases six_ c2 c3 with rfl | rfl | rfl | rfl | rfl | rfl
        · refine aw_aald (v := .ref 55) (pc' := 20) dX11_shelfOf_19 rfl ((hx.2 46 (by decide) (by decide)).trans h0_46) (by decide) rfl (vpc (by decide)) rfl ?_
          exact aw_ra dX11_shelfOf_20 rfl (Or.inl ⟨_, rfl⟩) rfl (Nat.le_of_ble_eq_true rfl) (Nat.le_of_ble_eq_true rfl) (Or.inr (Or.inl ⟨rfl, rfl, rfl⟩))
        · refine aw_aald (v := .ref 57) (pc' := 20) dX11_shelfOf_19 rfl ((hx.2 46 (by decide) (by decide)).trans h0_46) (by decide) rfl (vpc (by decide)) rfl ?_
          exact aw_ra dX11_shelfOf_20 rfl (Or.inl ⟨_, rfl⟩) rfl (Nat.le_of_ble_eq_true rfl) (Nat.le_of_ble_eq_true rfl) (Or.inr (Or.inr (Or.inl ⟨rfl, rfl, rfl⟩)))
        · refine aw_aald (v := .ref 59) (pc' := 20) dX11_shelfOf_19 rfl ((hx.2 46 (by decide) (by decide)).trans h0_46) (by decide) rfl (vpc (by decide)) rfl ?_
          exact aw_ra dX11_shelfOf_20 rfl (Or.inl ⟨_, rfl⟩) rfl (Nat.le_of_ble_eq_true rfl) (Nat.le_of_ble_eq_true rfl) (Or.inr (Or.inr (Or.inr (Or.inl ⟨rfl, rfl, rfl⟩))))
        · refine aw_aald (v := .ref 61) (pc' := 20) dX11_shelfOf_19 rfl ((hx.2 46 (by decide) (by decide)).trans h0_46) (by decide) rfl (vpc (by decide)) rfl ?_
          exact aw_ra dX11_shelfOf_20 rfl (Or.inl ⟨_, rfl⟩) rfl (Nat.le_of_ble_eq_true rfl) (Nat.le_of_ble_eq_true rfl) (Or.inr (Or.inr (Or.inr (Or.inr (Or.inl ⟨rfl, rfl, rfl⟩)))))
        · refine aw_aald (v := .ref 63) (pc' := 20) dX11_shelfOf_19 rfl ((hx.2 46 (by decide) (by decide)).trans h0_46) (by decide) rfl (vpc (by decide)) rfl ?_
          exact aw_ra dX11_shelfOf_20 rfl (Or.inl ⟨_, rfl⟩) rfl (Nat.le_of_ble_eq_true rfl) (Nat.le_of_ble_eq_true rfl) (Or.inr (Or.inr (Or.inr (Or.inr (Or.inr (Or.inl ⟨rfl, rfl, rfl⟩))))))
        · refine aw_aald (v := .ref 65) (pc' := 20) dX11_shelfOf_19 rfl ((hx.2 46 (by decide) (by decide)).trans h0_46) (by decide) rfl (vpc (by decide)) rfl ?_
          exact aw_ra dX11_shelfOf_20 rfl (Or.inl ⟨_, rfl⟩) rfl (Nat.le_of_ble_eq_true rfl) (Nat.le_of_ble_eq_true rfl) (Or.inr (Or.inr (Or.inr (Or.inr (Or.inr (Or.inr (Or.inl ⟨rfl, rfl, rfl⟩)))))))
      · refine aw_null (pc' := 11) dX11_shelfOf_10 rfl ?_
        refine aw_goto (tgt := 20) dX11_shelfOf_11 (by decide) ?_
        exact aw_ra dX11_shelfOf_20 rfl (Or.inl ⟨_, rfl⟩) rfl (Nat.le_of_ble_eq_true rfl) (Nat.le_of_ble_eq_true rfl) (Or.inr (Or.inr (Or.inr (Or.inr (Or.inr (Or.inr (Or.inr ⟨c2, c3, rfl, rfl⟩)))))))
  refine aw_callVa (M' := mX11_shelfOf) (nc' := 0) (ns' := 0) (pc' := 5) dX11_shift_2 rfl ml_RX11_190 kX11_shelfOf cc1 hx.1 rfl rfl rfl (Nat.le_of_ble_eq_true rfl) (rok rfl) rfl rfl (fun r7 h7 q7 => ?_)
  rcases q7 with ⟨c4, rfl, rfl⟩ | ⟨rfl, rfl, rfl⟩ | ⟨rfl, rfl, rfl⟩ | ⟨rfl, rfl, rfl⟩ | ⟨rfl, rfl, rfl⟩ | ⟨rfl, rfl, rfl⟩ | ⟨rfl, rfl, rfl⟩ | ⟨c5, c6, rfl, rfl⟩
  · refine aw_astore (lv' := [_, _, _, _, _, _, _, _]) (pc' := 7) dX11_shift_5 rfl (Nat.le_of_ble_eq_true rfl) rfl rfl ?_
    refine aw_aload_n (pc' := 8) dX11_shift_7 rfl rfl rfl ?_
    refine aw_iload_n (pc' := 9) dX11_shift_8 rfl rfl ?_
    have cc8 : AM mX11_shelfOf 0 [.ref 8, .int t] h 0 0 (PA fun r h' => (t < 0 ∧ Value.null = r ∧ h = h') ∨ (t = 0 ∧ Value.ref 55 = r ∧ h = h') ∨ (t = 1 ∧ Value.ref 57 = r ∧ h = h') ∨ (t = 2 ∧ Value.ref 59 = r ∧ h = h') ∨ (t = 3 ∧ Value.ref 61 = r ∧ h = h') ∨ (t = 4 ∧ Value.ref 63 = r ∧ h = h') ∨ (t = 5 ∧ Value.ref 65 = r ∧ h = h') ∨ (¬ (t < 0) ∧ ¬ (t < 6) ∧ Value.null = r ∧ h = h')) := by
      refine am_of (lv := [some (.ref 8), some (.int t)]) rfl (Nat.le_of_ble_eq_true rfl) rfl ?_
      refine aw_iload_n (pc' := 1) dX11_shelfOf_0 rfl rfl ?_
      refine aw_zlt (tgt := 10) (pc' := 4) dX11_shelfOf_1 (by decide) rfl (fun c9 => ?_) (fun c9 => ?_)
      · refine aw_null (pc' := 11) dX11_shelfOf_10 rfl ?_
        refine aw_goto (tgt := 20) dX11_shelfOf_11 (by decide) ?_
        exact aw_ra dX11_shelfOf_20 rfl (Or.inl ⟨_, rfl⟩) rfl (Nat.le_of_ble_eq_true rfl) (Nat.le_of_ble_eq_true rfl) (Or.inl ⟨c9, rfl, rfl⟩)
      · refine aw_iload_n (pc' := 5) dX11_shelfOf_4 rfl rfl ?_
        refine aw_bipush (v := 6) (pc' := 7) dX11_shelfOf_5 rfl (by decide) ?_
        refine aw_clt (tgt := 14) (pc' := 10) dX11_shelfOf_7 (by decide) rfl (fun c10 => ?_) (fun c10 => ?_)
        · refine aw_aload_n (pc' := 15) dX11_shelfOf_14 rfl rfl rfl ?_
          refine aw_get clsAll (pc' := 18) dX11_shelfOf_15 rfl fl_RX11_89 hx.1 rfl ?_
          refine aw_iload_n (pc' := 19) dX11_shelfOf_18 rfl rfl ?_
          rcases six_ c9 c10 with rfl | rfl | rfl | rfl | rfl | rfl
          · refine aw_aald (v := .ref 55) (pc' := 20) dX11_shelfOf_19 rfl ((hx.2 46 (by decide) (by decide)).trans h0_46) (by decide) rfl (vpc (by decide)) rfl ?_
            exact aw_ra dX11_shelfOf_20 rfl (Or.inl ⟨_, rfl⟩) rfl (Nat.le_of_ble_eq_true rfl) (Nat.le_of_ble_eq_true rfl) (Or.inr (Or.inl ⟨rfl, rfl, rfl⟩))
          · refine aw_aald (v := .ref 57) (pc' := 20) dX11_shelfOf_19 rfl ((hx.2 46 (by decide) (by decide)).trans h0_46) (by decide) rfl (vpc (by decide)) rfl ?_
            exact aw_ra dX11_shelfOf_20 rfl (Or.inl ⟨_, rfl⟩) rfl (Nat.le_of_ble_eq_true rfl) (Nat.le_of_ble_eq_true rfl) (Or.inr (Or.inr (Or.inl ⟨rfl, rfl, rfl⟩)))
          · refine aw_aald (v := .ref 59) (pc' := 20) dX11_shelfOf_19 rfl ((hx.2 46 (by decide) (by decide)).trans h0_46) (by decide) rfl (vpc (by decide)) rfl ?_
            exact aw_ra dX11_shelfOf_20 rfl (Or.inl ⟨_, rfl⟩) rfl (Nat.le_of_ble_eq_true rfl) (Nat.le_of_ble_eq_true rfl) (Or.inr (Or.inr (Or.inr (Or.inl ⟨rfl, rfl, rfl⟩))))
          · refine aw_aald (v := .ref 61) (pc' := 20) dX11_shelfOf_19 rfl ((hx.2 46 (by decide) (by decide)).trans h0_46) (by decide) rfl (vpc (by decide)) rfl ?_
            exact aw_ra dX11_shelfOf_20 rfl (Or.inl ⟨_, rfl⟩) rfl (Nat.le_of_ble_eq_true rfl) (Nat.le_of_ble_eq_true rfl) (Or.inr (Or.inr (Or.inr (Or.inr (Or.inl ⟨rfl, rfl, rfl⟩)))))
          · refine aw_aald (v := .ref 63) (pc' := 20) dX11_shelfOf_19 rfl ((hx.2 46 (by decide) (by decide)).trans h0_46) (by decide) rfl (vpc (by decide)) rfl ?_
            exact aw_ra dX11_shelfOf_20 rfl (Or.inl ⟨_, rfl⟩) rfl (Nat.le_of_ble_eq_true rfl) (Nat.le_of_ble_eq_true rfl) (Or.inr (Or.inr (Or.inr (Or.inr (Or.inr (Or.inl ⟨rfl, rfl, rfl⟩))))))
          · refine aw_aald (v := .ref 65) (pc' := 20) dX11_shelfOf_19 rfl ((hx.2 46 (by decide) (by decide)).trans h0_46) (by decide) rfl (vpc (by decide)) rfl ?_
            exact aw_ra dX11_shelfOf_20 rfl (Or.inl ⟨_, rfl⟩) rfl (Nat.le_of_ble_eq_true rfl) (Nat.le_of_ble_eq_true rfl) (Or.inr (Or.inr (Or.inr (Or.inr (Or.inr (Or.inr (Or.inl ⟨rfl, rfl, rfl⟩)))))))
        · refine aw_null (pc' := 11) dX11_shelfOf_10 rfl ?_
          refine aw_goto (tgt := 20) dX11_shelfOf_11 (by decide) ?_
          exact aw_ra dX11_shelfOf_20 rfl (Or.inl ⟨_, rfl⟩) rfl (Nat.le_of_ble_eq_true rfl) (Nat.le_of_ble_eq_true rfl) (Or.inr (Or.inr (Or.inr (Or.inr (Or.inr (Or.inr (Or.inr ⟨c9, c10, rfl, rfl⟩)))))))
    refine aw_callVa (M' := mX11_shelfOf) (nc' := 0) (ns' := 0) (pc' := 12) dX11_shift_9 rfl ml_RX11_190 kX11_shelfOf cc8 hx.1 rfl rfl rfl (Nat.le_of_ble_eq_true rfl) (rok rfl) rfl rfl (fun r14 h14 q14 => ?_)
    rcases q14 with ⟨c11, rfl, rfl⟩ | ⟨rfl, rfl, rfl⟩ | ⟨rfl, rfl, rfl⟩ | ⟨rfl, rfl, rfl⟩ | ⟨rfl, rfl, rfl⟩ | ⟨rfl, rfl, rfl⟩ | ⟨rfl, rfl, rfl⟩ | ⟨c12, c13, rfl, rfl⟩
    · refine aw_astore (lv' := [_, _, _, _, _, _, _, _]) (pc' := 14) dX11_shift_12 rfl (Nat.le_of_ble_eq_true rfl) rfl rfl ?_
      refine aw_aload (pc' := 16) dX11_shift_14 rfl rfl rfl ?_
      refine aw_ifnull_n (tgt := 24) dX11_shift_16 (by decide) ?_
      refine aw_iconst (v := (-1)) (pc' := 25) dX11_shift_24 rfl (by decide) ?_
      exact aw_ri dX11_shift_25 rfl rfl (Nat.le_of_ble_eq_true rfl) (Nat.le_of_ble_eq_true rfl) ⟨(by first | (simp [sp_shift, cnd, okC, okS, okW, okN, inR, n2_, n3_, n5_, n31_, c4, c11]; done) | (simp_all [sp_shift, cnd, okC, okS, okW, okN, inR, n2_, n3_, n5_, n31_]; done) | skip), sm_rf⟩
    · refine aw_astore (lv' := [_, _, _, _, _, _, _, _]) (pc' := 14) dX11_shift_12 rfl (Nat.le_of_ble_eq_true rfl) rfl rfl ?_
      refine aw_aload (pc' := 16) dX11_shift_14 rfl rfl rfl ?_
      refine aw_ifnull_n (tgt := 24) dX11_shift_16 (by decide) ?_
      refine aw_iconst (v := (-1)) (pc' := 25) dX11_shift_24 rfl (by decide) ?_
      exact aw_ri dX11_shift_25 rfl rfl (Nat.le_of_ble_eq_true rfl) (Nat.le_of_ble_eq_true rfl) ⟨(by first | (simp [sp_shift, cnd, okC, okS, okW, okN, inR, n2_, n3_, n5_, n31_, c4]; done) | (simp_all [sp_shift, cnd, okC, okS, okW, okN, inR, n2_, n3_, n5_, n31_]; done) | skip), sm_rf⟩
    · refine aw_astore (lv' := [_, _, _, _, _, _, _, _]) (pc' := 14) dX11_shift_12 rfl (Nat.le_of_ble_eq_true rfl) rfl rfl ?_
      refine aw_aload (pc' := 16) dX11_shift_14 rfl rfl rfl ?_
      refine aw_ifnull_n (tgt := 24) dX11_shift_16 (by decide) ?_
      refine aw_iconst (v := (-1)) (pc' := 25) dX11_shift_24 rfl (by decide) ?_
      exact aw_ri dX11_shift_25 rfl rfl (Nat.le_of_ble_eq_true rfl) (Nat.le_of_ble_eq_true rfl) ⟨(by first | (simp [sp_shift, cnd, okC, okS, okW, okN, inR, n2_, n3_, n5_, n31_, c4]; done) | (simp_all [sp_shift, cnd, okC, okS, okW, okN, inR, n2_, n3_, n5_, n31_]; done) | skip), sm_rf⟩
    · refine aw_astore (lv' := [_, _, _, _, _, _, _, _]) (pc' := 14) dX11_shift_12 rfl (Nat.le_of_ble_eq_true rfl) rfl rfl ?_
      refine aw_aload (pc' := 16) dX11_shift_14 rfl rfl rfl ?_
      refine aw_ifnull_n (tgt := 24) dX11_shift_16 (by decide) ?_
      refine aw_iconst (v := (-1)) (pc' := 25) dX11_shift_24 rfl (by decide) ?_
      exact aw_ri dX11_shift_25 rfl rfl (Nat.le_of_ble_eq_true rfl) (Nat.le_of_ble_eq_true rfl) ⟨(by first | (simp [sp_shift, cnd, okC, okS, okW, okN, inR, n2_, n3_, n5_, n31_, c4]; done) | (simp_all [sp_shift, cnd, okC, okS, okW, okN, inR, n2_, n3_, n5_, n31_]; done) | skip), sm_rf⟩
    · refine aw_astore (lv' := [_, _, _, _, _, _, _, _]) (pc' := 14) dX11_shift_12 rfl (Nat.le_of_ble_eq_true rfl) rfl rfl ?_
      refine aw_aload (pc' := 16) dX11_shift_14 rfl rfl rfl ?_
      refine aw_ifnull_n (tgt := 24) dX11_shift_16 (by decide) ?_
      refine aw_iconst (v := (-1)) (pc' := 25) dX11_shift_24 rfl (by decide) ?_
      exact aw_ri dX11_shift_25 rfl rfl (Nat.le_of_ble_eq_true rfl) (Nat.le_of_ble_eq_true rfl) ⟨(by first | (simp [sp_shift, cnd, okC, okS, okW, okN, inR, n2_, n3_, n5_, n31_, c4]; done) | (simp_all [sp_shift, cnd, okC, okS, okW, okN, inR, n2_, n3_, n5_, n31_]; done) | skip), sm_rf⟩
    · refine aw_astore (lv' := [_, _, _, _, _, _, _, _]) (pc' := 14) dX11_shift_12 rfl (Nat.le_of_ble_eq_true rfl) rfl rfl ?_
      refine aw_aload (pc' := 16) dX11_shift_14 rfl rfl rfl ?_
      refine aw_ifnull_n (tgt := 24) dX11_shift_16 (by decide) ?_
      refine aw_iconst (v := (-1)) (pc' := 25) dX11_shift_24 rfl (by decide) ?_
      exact aw_ri dX11_shift_25 rfl rfl (Nat.le_of_ble_eq_true rfl) (Nat.le_of_ble_eq_true rfl) ⟨(by first | (simp [sp_shift, cnd, okC, okS, okW, okN, inR, n2_, n3_, n5_, n31_, c4]; done) | (simp_all [sp_shift, cnd, okC, okS, okW, okN, inR, n2_, n3_, n5_, n31_]; done) | skip), sm_rf⟩
    · refine aw_astore (lv' := [_, _, _, _, _, _, _, _]) (pc' := 14) dX11_shift_12 rfl (Nat.le_of_ble_eq_true rfl) rfl rfl ?_
      refine aw_aload (pc' := 16) dX11_shift_14 rfl rfl rfl ?_
      refine aw_ifnull_n (tgt := 24) dX11_shift_16 (by decide) ?_
      refine aw_iconst (v := (-1)) (pc' := 25) dX11_shift_24 rfl (by decide) ?_
      exact aw_ri dX11_shift_25 rfl rfl (Nat.le_of_ble_eq_true rfl) (Nat.le_of_ble_eq_true rfl) ⟨(by first | (simp [sp_shift, cnd, okC, okS, okW, okN, inR, n2_, n3_, n5_, n31_, c4]; done) | (simp_all [sp_shift, cnd, okC, okS, okW, okN, inR, n2_, n3_, n5_, n31_]; done) | skip), sm_rf⟩
    · refine aw_astore (lv' := [_, _, _, _, _, _, _, _]) (pc' := 14) dX11_shift_12 rfl (Nat.le_of_ble_eq_true rfl) rfl rfl ?_
      refine aw_aload (pc' := 16) dX11_shift_14 rfl rfl rfl ?_
      refine aw_ifnull_n (tgt := 24) dX11_shift_16 (by decide) ?_
      refine aw_iconst (v := (-1)) (pc' := 25) dX11_shift_24 rfl (by decide) ?_
      exact aw_ri dX11_shift_25 rfl rfl (Nat.le_of_ble_eq_true rfl) (Nat.le_of_ble_eq_true rfl) ⟨(by first | (simp [sp_shift, cnd, okC, okS, okW, okN, inR, n2_, n3_, n5_, n31_, c4, c12, c13]; done) | (simp_all [sp_shift, cnd, okC, okS, okW, okN, inR, n2_, n3_, n5_, n31_]; done) | skip), sm_rf⟩
  · refine aw_astore (lv' := [_, _, _, _, _, _, _, _]) (pc' := 7) dX11_shift_5 rfl (Nat.le_of_ble_eq_true rfl) rfl rfl ?_
    refine aw_aload_n (pc' := 8) dX11_shift_7 rfl rfl rfl ?_
    refine aw_iload_n (pc' := 9) dX11_shift_8 rfl rfl ?_
    have cc15 : AM mX11_shelfOf 0 [.ref 8, .int t] h 0 0 (PA fun r h' => (t < 0 ∧ Value.null = r ∧ h = h') ∨ (t = 0 ∧ Value.ref 55 = r ∧ h = h') ∨ (t = 1 ∧ Value.ref 57 = r ∧ h = h') ∨ (t = 2 ∧ Value.ref 59 = r ∧ h = h') ∨ (t = 3 ∧ Value.ref 61 = r ∧ h = h') ∨ (t = 4 ∧ Value.ref 63 = r ∧ h = h') ∨ (t = 5 ∧ Value.ref 65 = r ∧ h = h') ∨ (¬ (t < 0) ∧ ¬ (t < 6) ∧ Value.null = r ∧ h = h')) := by
      refine am_of (lv := [some (.ref 8), some (.int t)]) rfl (Nat.le_of_ble_eq_true rfl) rfl ?_
      refine aw_iload_n (pc' := 1) dX11_shelfOf_0 rfl rfl ?_
      refine aw_zlt (tgt := 10) (pc' := 4) dX11_shelfOf_1 (by decide) rfl (fun c16 => ?_) (fun c16 => ?_)
      · refine aw_null (pc' := 11) dX11_shelfOf_10 rfl ?_
        refine aw_goto (tgt := 20) dX11_shelfOf_11 (by decide) ?_
        exact aw_ra dX11_shelfOf_20 rfl (Or.inl ⟨_, rfl⟩) rfl (Nat.le_of_ble_eq_true rfl) (Nat.le_of_ble_eq_true rfl) (Or.inl ⟨c16, rfl, rfl⟩)
      · refine aw_iload_n (pc' := 5) dX11_shelfOf_4 rfl rfl ?_
        refine aw_bipush (v := 6) (pc' := 7) dX11_shelfOf_5 rfl (by decide) ?_
        refine aw_clt (tgt := 14) (pc' := 10) dX11_shelfOf_7 (by decide) rfl (fun c17 => ?_) (fun c17 => ?_)
        · refine aw_aload_n (pc' := 15) dX11_shelfOf_14 rfl rfl rfl ?_
          refine aw_get clsAll (pc' := 18) dX11_shelfOf_15 rfl fl_RX11_89 hx.1 rfl ?_
          refine aw_iload_n (pc' := 19) dX11_shelfOf_18 rfl rfl ?_
          rcases six_ c16 c17 with rfl | rfl | rfl | rfl | rfl | rfl
          · refine aw_aald (v := .ref 55) (pc' := 20) dX11_shelfOf_19 rfl ((hx.2 46 (by decide) (by decide)).trans h0_46) (by decide) rfl (vpc (by decide)) rfl ?_
            exact aw_ra dX11_shelfOf_20 rfl (Or.inl ⟨_, rfl⟩) rfl (Nat.le_of_ble_eq_true rfl) (Nat.le_of_ble_eq_true rfl) (Or.inr (Or.inl ⟨rfl, rfl, rfl⟩))
          · refine aw_aald (v := .ref 57) (pc' := 20) dX11_shelfOf_19 rfl ((hx.2 46 (by decide) (by decide)).trans h0_46) (by decide) rfl (vpc (by decide)) rfl ?_
            exact aw_ra dX11_shelfOf_20 rfl (Or.inl ⟨_, rfl⟩) rfl (Nat.le_of_ble_eq_true rfl) (Nat.le_of_ble_eq_true rfl) (Or.inr (Or.inr (Or.inl ⟨rfl, rfl, rfl⟩)))
          · refine aw_aald (v := .ref 59) (pc' := 20) dX11_shelfOf_19 rfl ((hx.2 46 (by decide) (by decide)).trans h0_46) (by decide) rfl (vpc (by decide)) rfl ?_
            exact aw_ra dX11_shelfOf_20 rfl (Or.inl ⟨_, rfl⟩) rfl (Nat.le_of_ble_eq_true rfl) (Nat.le_of_ble_eq_true rfl) (Or.inr (Or.inr (Or.inr (Or.inl ⟨rfl, rfl, rfl⟩))))
          · refine aw_aald (v := .ref 61) (pc' := 20) dX11_shelfOf_19 rfl ((hx.2 46 (by decide) (by decide)).trans h0_46) (by decide) rfl (vpc (by decide)) rfl ?_
            exact aw_ra dX11_shelfOf_20 rfl (Or.inl ⟨_, rfl⟩) rfl (Nat.le_of_ble_eq_true rfl) (Nat.le_of_ble_eq_true rfl) (Or.inr (Or.inr (Or.inr (Or.inr (Or.inl ⟨rfl, rfl, rfl⟩)))))
          · refine aw_aald (v := .ref 63) (pc' := 20) dX11_shelfOf_19 rfl ((hx.2 46 (by decide) (by decide)).trans h0_46) (by decide) rfl (vpc (by decide)) rfl ?_
            exact aw_ra dX11_shelfOf_20 rfl (Or.inl ⟨_, rfl⟩) rfl (Nat.le_of_ble_eq_true rfl) (Nat.le_of_ble_eq_true rfl) (Or.inr (Or.inr (Or.inr (Or.inr (Or.inr (Or.inl ⟨rfl, rfl, rfl⟩))))))
          · refine aw_aald (v := .ref 65) (pc' := 20) dX11_shelfOf_19 rfl ((hx.2 46 (by decide) (by decide)).trans h0_46) (by decide) rfl (vpc (by decide)) rfl ?_
            exact aw_ra dX11_shelfOf_20 rfl (Or.inl ⟨_, rfl⟩) rfl (Nat.le_of_ble_eq_true rfl) (Nat.le_of_ble_eq_true rfl) (Or.inr (Or.inr (Or.inr (Or.inr (Or.inr (Or.inr (Or.inl ⟨rfl, rfl, rfl⟩)))))))
        · refine aw_null (pc' := 11) dX11_shelfOf_10 rfl ?_
          refine aw_goto (tgt := 20) dX11_shelfOf_11 (by decide) ?_
          exact aw_ra dX11_shelfOf_20 rfl (Or.inl ⟨_, rfl⟩) rfl (Nat.le_of_ble_eq_true rfl) (Nat.le_of_ble_eq_true rfl) (Or.inr (Or.inr (Or.inr (Or.inr (Or.inr (Or.inr (Or.inr ⟨c16, c17, rfl, rfl⟩)))))))
    refine aw_callVa (M' := mX11_shelfOf) (nc' := 0) (ns' := 0) (pc' := 12) dX11_shift_9 rfl ml_RX11_190 kX11_shelfOf cc15 hx.1 rfl rfl rfl (Nat.le_of_ble_eq_true rfl) (rok rfl) rfl rfl (fun r21 h21 q21 => ?_)
    rcases q21 with ⟨c18, rfl, rfl⟩ | ⟨rfl, rfl, rfl⟩ | ⟨rfl, rfl, rfl⟩ | ⟨rfl, rfl, rfl⟩ | ⟨rfl, rfl, rfl⟩ | ⟨rfl, rfl, rfl⟩ | ⟨rfl, rfl, rfl⟩ | ⟨c19, c20, rfl, rfl⟩
    · refine aw_astore (lv' := [_, _, _, _, _, _, _, _]) (pc' := 14) dX11_shift_12 rfl (Nat.le_of_ble_eq_true rfl) rfl rfl ?_
      refine aw_aload (pc' := 16) dX11_shift_14 rfl rfl rfl ?_
      refine aw_ifnull_r (pc' := 19) dX11_shift_16 rfl ?_
      refine aw_aload (pc' := 21) dX11_shift_19 rfl rfl rfl ?_
      refine aw_ifnonnull_n (pc' := 24) dX11_shift_21 rfl ?_
      refine aw_iconst (v := (-1)) (pc' := 25) dX11_shift_24 rfl (by decide) ?_
      exact aw_ri dX11_shift_25 rfl rfl (Nat.le_of_ble_eq_true rfl) (Nat.le_of_ble_eq_true rfl) ⟨(by first | (simp [sp_shift, cnd, okC, okS, okW, okN, inR, n2_, n3_, n5_, n31_, c18]; done) | (simp_all [sp_shift, cnd, okC, okS, okW, okN, inR, n2_, n3_, n5_, n31_]; done) | skip), sm_rf⟩
    · refine aw_astore (lv' := [_, _, _, _, _, _, _, _]) (pc' := 14) dX11_shift_12 rfl (Nat.le_of_ble_eq_true rfl) rfl rfl ?_
      refine aw_aload (pc' := 16) dX11_shift_14 rfl rfl rfl ?_
      refine aw_ifnull_r (pc' := 19) dX11_shift_16 rfl ?_
      refine aw_aload (pc' := 21) dX11_shift_19 rfl rfl rfl ?_
      refine aw_ifnonnull_r (tgt := 26) dX11_shift_21 (by decide) ?_
      refine aw_aload (pc' := 28) dX11_shift_26 rfl rfl rfl ?_
      refine aw_get clsAll (pc' := 31) dX11_shift_28 rfl fl_RX11_194 ((hx.2 47 (by decide) (by decide)).trans h0_47) rfl ?_
      refine aw_if_eq (tgt := 42) (pc' := 34) dX11_shift_31 (by decide) rfl (fun _ => ?_) (fun c => absurd (by decide) c)
      refine aw_bipush (v := (-11)) (pc' := 44) dX11_shift_42 rfl (by decide) ?_
      exact aw_ri dX11_shift_44 rfl rfl (Nat.le_of_ble_eq_true rfl) (Nat.le_of_ble_eq_true rfl) ⟨(by first | (simp [sp_shift, cnd, okC, okS, okW, okN, inR, n2_, n3_, n5_, n31_]; done) | (simp_all [sp_shift, cnd, okC, okS, okW, okN, inR, n2_, n3_, n5_, n31_]; done) | skip), sm_rf⟩
    · refine aw_astore (lv' := [_, _, _, _, _, _, _, _]) (pc' := 14) dX11_shift_12 rfl (Nat.le_of_ble_eq_true rfl) rfl rfl ?_
      refine aw_aload (pc' := 16) dX11_shift_14 rfl rfl rfl ?_
      refine aw_ifnull_r (pc' := 19) dX11_shift_16 rfl ?_
      refine aw_aload (pc' := 21) dX11_shift_19 rfl rfl rfl ?_
      refine aw_ifnonnull_r (tgt := 26) dX11_shift_21 (by decide) ?_
      refine aw_aload (pc' := 28) dX11_shift_26 rfl rfl rfl ?_
      refine aw_get clsAll (pc' := 31) dX11_shift_28 rfl fl_RX11_194 ((hx.2 47 (by decide) (by decide)).trans h0_47) rfl ?_
      refine aw_if_eq (tgt := 42) (pc' := 34) dX11_shift_31 (by decide) rfl (fun _ => ?_) (fun c => absurd (by decide) c)
      refine aw_bipush (v := (-11)) (pc' := 44) dX11_shift_42 rfl (by decide) ?_
      exact aw_ri dX11_shift_44 rfl rfl (Nat.le_of_ble_eq_true rfl) (Nat.le_of_ble_eq_true rfl) ⟨(by first | (simp [sp_shift, cnd, okC, okS, okW, okN, inR, n2_, n3_, n5_, n31_]; done) | (simp_all [sp_shift, cnd, okC, okS, okW, okN, inR, n2_, n3_, n5_, n31_]; done) | skip), sm_rf⟩
    · refine aw_astore (lv' := [_, _, _, _, _, _, _, _]) (pc' := 14) dX11_shift_12 rfl (Nat.le_of_ble_eq_true rfl) rfl rfl ?_
      refine aw_aload (pc' := 16) dX11_shift_14 rfl rfl rfl ?_
      refine aw_ifnull_r (pc' := 19) dX11_shift_16 rfl ?_
      refine aw_aload (pc' := 21) dX11_shift_19 rfl rfl rfl ?_
      refine aw_ifnonnull_r (tgt := 26) dX11_shift_21 (by decide) ?_
      refine aw_aload (pc' := 28) dX11_shift_26 rfl rfl rfl ?_
      refine aw_get clsAll (pc' := 31) dX11_shift_28 rfl fl_RX11_194 ((hx.2 47 (by decide) (by decide)).trans h0_47) rfl ?_
      refine aw_if_eq (tgt := 42) (pc' := 34) dX11_shift_31 (by decide) rfl (fun _ => ?_) (fun c => absurd (by decide) c)
      refine aw_bipush (v := (-11)) (pc' := 44) dX11_shift_42 rfl (by decide) ?_
      exact aw_ri dX11_shift_44 rfl rfl (Nat.le_of_ble_eq_true rfl) (Nat.le_of_ble_eq_true rfl) ⟨(by first | (simp [sp_shift, cnd, okC, okS, okW, okN, inR, n2_, n3_, n5_, n31_]; done) | (simp_all [sp_shift, cnd, okC, okS, okW, okN, inR, n2_, n3_, n5_, n31_]; done) | skip), sm_rf⟩
    · refine aw_astore (lv' := [_, _, _, _, _, _, _, _]) (pc' := 14) dX11_shift_12 rfl (Nat.le_of_ble_eq_true rfl) rfl rfl ?_
      refine aw_aload (pc' := 16) dX11_shift_14 rfl rfl rfl ?_
      refine aw_ifnull_r (pc' := 19) dX11_shift_16 rfl ?_
      refine aw_aload (pc' := 21) dX11_shift_19 rfl rfl rfl ?_
      refine aw_ifnonnull_r (tgt := 26) dX11_shift_21 (by decide) ?_
      refine aw_aload (pc' := 28) dX11_shift_26 rfl rfl rfl ?_
      refine aw_get clsAll (pc' := 31) dX11_shift_28 rfl fl_RX11_194 ((hx.2 47 (by decide) (by decide)).trans h0_47) rfl ?_
      refine aw_if_eq (tgt := 42) (pc' := 34) dX11_shift_31 (by decide) rfl (fun _ => ?_) (fun c => absurd (by decide) c)
      refine aw_bipush (v := (-11)) (pc' := 44) dX11_shift_42 rfl (by decide) ?_
      exact aw_ri dX11_shift_44 rfl rfl (Nat.le_of_ble_eq_true rfl) (Nat.le_of_ble_eq_true rfl) ⟨(by first | (simp [sp_shift, cnd, okC, okS, okW, okN, inR, n2_, n3_, n5_, n31_]; done) | (simp_all [sp_shift, cnd, okC, okS, okW, okN, inR, n2_, n3_, n5_, n31_]; done) | skip), sm_rf⟩
    · refine aw_astore (lv' := [_, _, _, _, _, _, _, _]) (pc' := 14) dX11_shift_12 rfl (Nat.le_of_ble_eq_true rfl) rfl rfl ?_
      refine aw_aload (pc' := 16) dX11_shift_14 rfl rfl rfl ?_
      refine aw_ifnull_r (pc' := 19) dX11_shift_16 rfl ?_
      refine aw_aload (pc' := 21) dX11_shift_19 rfl rfl rfl ?_
      refine aw_ifnonnull_r (tgt := 26) dX11_shift_21 (by decide) ?_
      refine aw_aload (pc' := 28) dX11_shift_26 rfl rfl rfl ?_
      refine aw_get clsAll (pc' := 31) dX11_shift_28 rfl fl_RX11_194 ((hx.2 47 (by decide) (by decide)).trans h0_47) rfl ?_
      refine aw_if_eq (tgt := 42) (pc' := 34) dX11_shift_31 (by decide) rfl (fun _ => ?_) (fun c => absurd (by decide) c)
      refine aw_bipush (v := (-11)) (pc' := 44) dX11_shift_42 rfl (by decide) ?_
      exact aw_ri dX11_shift_44 rfl rfl (Nat.le_of_ble_eq_true rfl) (Nat.le_of_ble_eq_true rfl) ⟨(by first | (simp [sp_shift, cnd, okC, okS, okW, okN, inR, n2_, n3_, n5_, n31_]; done) | (simp_all [sp_shift, cnd, okC, okS, okW, okN, inR, n2_, n3_, n5_, n31_]; done) | skip), sm_rf⟩
    · refine aw_astore (lv' := [_, _, _, _, _, _, _, _]) (pc' := 14) dX11_shift_12 rfl (Nat.le_of_ble_eq_true rfl) rfl rfl ?_
      refine aw_aload (pc' := 16) dX11_shift_14 rfl rfl rfl ?_
      refine aw_ifnull_r (pc' := 19) dX11_shift_16 rfl ?_
      refine aw_aload (pc' := 21) dX11_shift_19 rfl rfl rfl ?_
      refine aw_ifnonnull_r (tgt := 26) dX11_shift_21 (by decide) ?_
      refine aw_aload (pc' := 28) dX11_shift_26 rfl rfl rfl ?_
      refine aw_get clsAll (pc' := 31) dX11_shift_28 rfl fl_RX11_194 ((hx.2 47 (by decide) (by decide)).trans h0_47) rfl ?_
      refine aw_if_eq (tgt := 42) (pc' := 34) dX11_shift_31 (by decide) rfl (fun _ => ?_) (fun c => absurd (by decide) c)
      refine aw_bipush (v := (-11)) (pc' := 44) dX11_shift_42 rfl (by decide) ?_
      exact aw_ri dX11_shift_44 rfl rfl (Nat.le_of_ble_eq_true rfl) (Nat.le_of_ble_eq_true rfl) ⟨(by first | (simp [sp_shift, cnd, okC, okS, okW, okN, inR, n2_, n3_, n5_, n31_]; done) | (simp_all [sp_shift, cnd, okC, okS, okW, okN, inR, n2_, n3_, n5_, n31_]; done) | skip), sm_rf⟩
    · refine aw_astore (lv' := [_, _, _, _, _, _, _, _]) (pc' := 14) dX11_shift_12 rfl (Nat.le_of_ble_eq_true rfl) rfl rfl ?_
      refine aw_aload (pc' := 16) dX11_shift_14 rfl rfl rfl ?_
      refine aw_ifnull_r (pc' := 19) dX11_shift_16 rfl ?_
      refine aw_aload (pc' := 21) dX11_shift_19 rfl rfl rfl ?_
      refine aw_ifnonnull_n (pc' := 24) dX11_shift_21 rfl ?_
      refine aw_iconst (v := (-1)) (pc' := 25) dX11_shift_24 rfl (by decide) ?_
      exact aw_ri dX11_shift_25 rfl rfl (Nat.le_of_ble_eq_true rfl) (Nat.le_of_ble_eq_true rfl) ⟨(by first | (simp [sp_shift, cnd, okC, okS, okW, okN, inR, n2_, n3_, n5_, n31_, c19, c20]; done) | (simp_all [sp_shift, cnd, okC, okS, okW, okN, inR, n2_, n3_, n5_, n31_]; done) | skip), sm_rf⟩
  · refine aw_astore (lv' := [_, _, _, _, _, _, _, _]) (pc' := 7) dX11_shift_5 rfl (Nat.le_of_ble_eq_true rfl) rfl rfl ?_
    refine aw_aload_n (pc' := 8) dX11_shift_7 rfl rfl rfl ?_
    refine aw_iload_n (pc' := 9) dX11_shift_8 rfl rfl ?_
    have cc22 : AM mX11_shelfOf 0 [.ref 8, .int t] h 0 0 (PA fun r h' => (t < 0 ∧ Value.null = r ∧ h = h') ∨ (t = 0 ∧ Value.ref 55 = r ∧ h = h') ∨ (t = 1 ∧ Value.ref 57 = r ∧ h = h') ∨ (t = 2 ∧ Value.ref 59 = r ∧ h = h') ∨ (t = 3 ∧ Value.ref 61 = r ∧ h = h') ∨ (t = 4 ∧ Value.ref 63 = r ∧ h = h') ∨ (t = 5 ∧ Value.ref 65 = r ∧ h = h') ∨ (¬ (t < 0) ∧ ¬ (t < 6) ∧ Value.null = r ∧ h = h')) := by
      refine am_of (lv := [some (.ref 8), some (.int t)]) rfl (Nat.le_of_ble_eq_true rfl) rfl ?_
      refine aw_iload_n (pc' := 1) dX11_shelfOf_0 rfl rfl ?_
      refine aw_zlt (tgt := 10) (pc' := 4) dX11_shelfOf_1 (by decide) rfl (fun c23 => ?_) (fun c23 => ?_)
      · refine aw_null (pc' := 11) dX11_shelfOf_10 rfl ?_
        refine aw_goto (tgt := 20) dX11_shelfOf_11 (by decide) ?_
        exact aw_ra dX11_shelfOf_20 rfl (Or.inl ⟨_, rfl⟩) rfl (Nat.le_of_ble_eq_true rfl) (Nat.le_of_ble_eq_true rfl) (Or.inl ⟨c23, rfl, rfl⟩)
      · refine aw_iload_n (pc' := 5) dX11_shelfOf_4 rfl rfl ?_
        refine aw_bipush (v := 6) (pc' := 7) dX11_shelfOf_5 rfl (by decide) ?_
        refine aw_clt (tgt := 14) (pc' := 10) dX11_shelfOf_7 (by decide) rfl (fun c24 => ?_) (fun c24 => ?_)
        · refine aw_aload_n (pc' := 15) dX11_shelfOf_14 rfl rfl rfl ?_
          refine aw_get clsAll (pc' := 18) dX11_shelfOf_15 rfl fl_RX11_89 hx.1 rfl ?_
          refine aw_iload_n (pc' := 19) dX11_shelfOf_18 rfl rfl ?_
          rcases six_ c23 c24 with rfl | rfl | rfl | rfl | rfl | rfl
          · refine aw_aald (v := .ref 55) (pc' := 20) dX11_shelfOf_19 rfl ((hx.2 46 (by decide) (by decide)).trans h0_46) (by decide) rfl (vpc (by decide)) rfl ?_
            exact aw_ra dX11_shelfOf_20 rfl (Or.inl ⟨_, rfl⟩) rfl (Nat.le_of_ble_eq_true rfl) (Nat.le_of_ble_eq_true rfl) (Or.inr (Or.inl ⟨rfl, rfl, rfl⟩))
          · refine aw_aald (v := .ref 57) (pc' := 20) dX11_shelfOf_19 rfl ((hx.2 46 (by decide) (by decide)).trans h0_46) (by decide) rfl (vpc (by decide)) rfl ?_
            exact aw_ra dX11_shelfOf_20 rfl (Or.inl ⟨_, rfl⟩) rfl (Nat.le_of_ble_eq_true rfl) (Nat.le_of_ble_eq_true rfl) (Or.inr (Or.inr (Or.inl ⟨rfl, rfl, rfl⟩)))
          · refine aw_aald (v := .ref 59) (pc' := 20) dX11_shelfOf_19 rfl ((hx.2 46 (by decide) (by decide)).trans h0_46) (by decide) rfl (vpc (by decide)) rfl ?_
            exact aw_ra dX11_shelfOf_20 rfl (Or.inl ⟨_, rfl⟩) rfl (Nat.le_of_ble_eq_true rfl) (Nat.le_of_ble_eq_true rfl) (Or.inr (Or.inr (Or.inr (Or.inl ⟨rfl, rfl, rfl⟩))))
          · refine aw_aald (v := .ref 61) (pc' := 20) dX11_shelfOf_19 rfl ((hx.2 46 (by decide) (by decide)).trans h0_46) (by decide) rfl (vpc (by decide)) rfl ?_
            exact aw_ra dX11_shelfOf_20 rfl (Or.inl ⟨_, rfl⟩) rfl (Nat.le_of_ble_eq_true rfl) (Nat.le_of_ble_eq_true rfl) (Or.inr (Or.inr (Or.inr (Or.inr (Or.inl ⟨rfl, rfl, rfl⟩)))))
          · refine aw_aald (v := .ref 63) (pc' := 20) dX11_shelfOf_19 rfl ((hx.2 46 (by decide) (by decide)).trans h0_46) (by decide) rfl (vpc (by decide)) rfl ?_
            exact aw_ra dX11_shelfOf_20 rfl (Or.inl ⟨_, rfl⟩) rfl (Nat.le_of_ble_eq_true rfl) (Nat.le_of_ble_eq_true rfl) (Or.inr (Or.inr (Or.inr (Or.inr (Or.inr (Or.inl ⟨rfl, rfl, rfl⟩))))))
          · refine aw_aald (v := .ref 65) (pc' := 20) dX11_shelfOf_19 rfl ((hx.2 46 (by decide) (by decide)).trans h0_46) (by decide) rfl (vpc (by decide)) rfl ?_
            exact aw_ra dX11_shelfOf_20 rfl (Or.inl ⟨_, rfl⟩) rfl (Nat.le_of_ble_eq_true rfl) (Nat.le_of_ble_eq_true rfl) (Or.inr (Or.inr (Or.inr (Or.inr (Or.inr (Or.inr (Or.inl ⟨rfl, rfl, rfl⟩)))))))
        · refine aw_null (pc' := 11) dX11_shelfOf_10 rfl ?_
          refine aw_goto (tgt := 20) dX11_shelfOf_11 (by decide) ?_
          exact aw_ra dX11_shelfOf_20 rfl (Or.inl ⟨_, rfl⟩) rfl (Nat.le_of_ble_eq_true rfl) (Nat.le_of_ble_eq_true rfl) (Or.inr (Or.inr (Or.inr (Or.inr (Or.inr (Or.inr (Or.inr ⟨c23, c24, rfl, rfl⟩)))))))
    refine aw_callVa (M' := mX11_shelfOf) (nc' := 0) (ns' := 0) (pc' := 12) dX11_shift_9 rfl ml_RX11_190 kX11_shelfOf cc22 hx.1 rfl rfl rfl (Nat.le_of_ble_eq_true rfl) (rok rfl) rfl rfl (fun r28 h28 q28 => ?_)
    rcases q28 with ⟨c25, rfl, rfl⟩ | ⟨rfl, rfl, rfl⟩ | ⟨rfl, rfl, rfl⟩ | ⟨rfl, rfl, rfl⟩ | ⟨rfl, rfl, rfl⟩ | ⟨rfl, rfl, rfl⟩ | ⟨rfl, rfl, rfl⟩ | ⟨c26, c27, rfl, rfl⟩
    · refine aw_astore (lv' := [_, _, _, _, _, _, _, _]) (pc' := 14) dX11_shift_12 rfl (Nat.le_of_ble_eq_true rfl) rfl rfl ?_
      refine aw_aload (pc' := 16) dX11_shift_14 rfl rfl rfl ?_
      refine aw_ifnull_r (pc' := 19) dX11_shift_16 rfl ?_
      refine aw_aload (pc' := 21) dX11_shift_19 rfl rfl rfl ?_
      refine aw_ifnonnull_n (pc' := 24) dX11_shift_21 rfl ?_
      refine aw_iconst (v := (-1)) (pc' := 25) dX11_shift_24 rfl (by decide) ?_
      exact aw_ri dX11_shift_25 rfl rfl (Nat.le_of_ble_eq_true rfl) (Nat.le_of_ble_eq_true rfl) ⟨(by first | (simp [sp_shift, cnd, okC, okS, okW, okN, inR, n2_, n3_, n5_, n31_, c25]; done) | (simp_all [sp_shift, cnd, okC, okS, okW, okN, inR, n2_, n3_, n5_, n31_]; done) | skip), sm_rf⟩
    · refine aw_astore (lv' := [_, _, _, _, _, _, _, _]) (pc' := 14) dX11_shift_12 rfl (Nat.le_of_ble_eq_true rfl) rfl rfl ?_
      refine aw_aload (pc' := 16) dX11_shift_14 rfl rfl rfl ?_
      refine aw_ifnull_r (pc' := 19) dX11_shift_16 rfl ?_
      refine aw_aload (pc' := 21) dX11_shift_19 rfl rfl rfl ?_
      refine aw_ifnonnull_r (tgt := 26) dX11_shift_21 (by decide) ?_
      refine aw_aload (pc' := 28) dX11_shift_26 rfl rfl rfl ?_
      refine aw_get clsAll (pc' := 31) dX11_shift_28 rfl fl_RX11_194 ((hx.2 49 (by decide) (by decide)).trans h0_49) rfl ?_
      refine aw_if_eq (tgt := 42) (pc' := 34) dX11_shift_31 (by decide) rfl (fun _ => ?_) (fun c => absurd (by decide) c)
      refine aw_bipush (v := (-11)) (pc' := 44) dX11_shift_42 rfl (by decide) ?_
      exact aw_ri dX11_shift_44 rfl rfl (Nat.le_of_ble_eq_true rfl) (Nat.le_of_ble_eq_true rfl) ⟨(by first | (simp [sp_shift, cnd, okC, okS, okW, okN, inR, n2_, n3_, n5_, n31_]; done) | (simp_all [sp_shift, cnd, okC, okS, okW, okN, inR, n2_, n3_, n5_, n31_]; done) | skip), sm_rf⟩
    · refine aw_astore (lv' := [_, _, _, _, _, _, _, _]) (pc' := 14) dX11_shift_12 rfl (Nat.le_of_ble_eq_true rfl) rfl rfl ?_
      refine aw_aload (pc' := 16) dX11_shift_14 rfl rfl rfl ?_
      refine aw_ifnull_r (pc' := 19) dX11_shift_16 rfl ?_
      refine aw_aload (pc' := 21) dX11_shift_19 rfl rfl rfl ?_
      refine aw_ifnonnull_r (tgt := 26) dX11_shift_21 (by decide) ?_
      refine aw_aload (pc' := 28) dX11_shift_26 rfl rfl rfl ?_
      refine aw_get clsAll (pc' := 31) dX11_shift_28 rfl fl_RX11_194 ((hx.2 49 (by decide) (by decide)).trans h0_49) rfl ?_
      refine aw_if_eq (tgt := 42) (pc' := 34) dX11_shift_31 (by decide) rfl (fun _ => ?_) (fun c => absurd (by decide) c)
      refine aw_bipush (v := (-11)) (pc' := 44) dX11_shift_42 rfl (by decide) ?_
      exact aw_ri dX11_shift_44 rfl rfl (Nat.le_of_ble_eq_true rfl) (Nat.le_of_ble_eq_true rfl) ⟨(by first | (simp [sp_shift, cnd, okC, okS, okW, okN, inR, n2_, n3_, n5_, n31_]; done) | (simp_all [sp_shift, cnd, okC, okS, okW, okN, inR, n2_, n3_, n5_, n31_]; done) | skip), sm_rf⟩
    · refine aw_astore (lv' := [_, _, _, _, _, _, _, _]) (pc' := 14) dX11_shift_12 rfl (Nat.le_of_ble_eq_true rfl) rfl rfl ?_
      refine aw_aload (pc' := 16) dX11_shift_14 rfl rfl rfl ?_
      refine aw_ifnull_r (pc' := 19) dX11_shift_16 rfl ?_
      refine aw_aload (pc' := 21) dX11_shift_19 rfl rfl rfl ?_
      refine aw_ifnonnull_r (tgt := 26) dX11_shift_21 (by decide) ?_
      refine aw_aload (pc' := 28) dX11_shift_26 rfl rfl rfl ?_
      refine aw_get clsAll (pc' := 31) dX11_shift_28 rfl fl_RX11_194 ((hx.2 49 (by decide) (by decide)).trans h0_49) rfl ?_
      refine aw_if_eq (tgt := 42) (pc' := 34) dX11_shift_31 (by decide) rfl (fun _ => ?_) (fun c => absurd (by decide) c)
      refine aw_bipush (v := (-11)) (pc' := 44) dX11_shift_42 rfl (by decide) ?_
      exact aw_ri dX11_shift_44 rfl rfl (Nat.le_of_ble_eq_true rfl) (Nat.le_of_ble_eq_true rfl) ⟨(by first | (simp [sp_shift, cnd, okC, okS, okW, okN, inR, n2_, n3_, n5_, n31_]; done) | (simp_all [sp_shift, cnd, okC, okS, okW, okN, inR, n2_, n3_, n5_, n31_]; done) | skip), sm_rf⟩
    · refine aw_astore (lv' := [_, _, _, _, _, _, _, _]) (pc' := 14) dX11_shift_12 rfl (Nat.le_of_ble_eq_true rfl) rfl rfl ?_
      refine aw_aload (pc' := 16) dX11_shift_14 rfl rfl rfl ?_
      refine aw_ifnull_r (pc' := 19) dX11_shift_16 rfl ?_
      refine aw_aload (pc' := 21) dX11_shift_19 rfl rfl rfl ?_
      refine aw_ifnonnull_r (tgt := 26) dX11_shift_21 (by decide) ?_
      refine aw_aload (pc' := 28) dX11_shift_26 rfl rfl rfl ?_
      refine aw_get clsAll (pc' := 31) dX11_shift_28 rfl fl_RX11_194 ((hx.2 49 (by decide) (by decide)).trans h0_49) rfl ?_
      refine aw_if_eq (tgt := 42) (pc' := 34) dX11_shift_31 (by decide) rfl (fun _ => ?_) (fun c => absurd (by decide) c)
      refine aw_bipush (v := (-11)) (pc' := 44) dX11_shift_42 rfl (by decide) ?_
      exact aw_ri dX11_shift_44 rfl rfl (Nat.le_of_ble_eq_true rfl) (Nat.le_of_ble_eq_true rfl) ⟨(by first | (simp [sp_shift, cnd, okC, okS, okW, okN, inR, n2_, n3_, n5_, n31_]; done) | (simp_all [sp_shift, cnd, okC, okS, okW, okN, inR, n2_, n3_, n5_, n31_]; done) | skip), sm_rf⟩
    · refine aw_astore (lv' := [_, _, _, _, _, _, _, _]) (pc' := 14) dX11_shift_12 rfl (Nat.le_of_ble_eq_true rfl) rfl rfl ?_
      refine aw_aload (pc' := 16) dX11_shift_14 rfl rfl rfl ?_
      refine aw_ifnull_r (pc' := 19) dX11_shift_16 rfl ?_
      refine aw_aload (pc' := 21) dX11_shift_19 rfl rfl rfl ?_
      refine aw_ifnonnull_r (tgt := 26) dX11_shift_21 (by decide) ?_
      refine aw_aload (pc' := 28) dX11_shift_26 rfl rfl rfl ?_
      refine aw_get clsAll (pc' := 31) dX11_shift_28 rfl fl_RX11_194 ((hx.2 49 (by decide) (by decide)).trans h0_49) rfl ?_
      refine aw_if_eq (tgt := 42) (pc' := 34) dX11_shift_31 (by decide) rfl (fun _ => ?_) (fun c => absurd (by decide) c)
      refine aw_bipush (v := (-11)) (pc' := 44) dX11_shift_42 rfl (by decide) ?_
      exact aw_ri dX11_shift_44 rfl rfl (Nat.le_of_ble_eq_true rfl) (Nat.le_of_ble_eq_true rfl) ⟨(by first | (simp [sp_shift, cnd, okC, okS, okW, okN, inR, n2_, n3_, n5_, n31_]; done) | (simp_all [sp_shift, cnd, okC, okS, okW, okN, inR, n2_, n3_, n5_, n31_]; done) | skip), sm_rf⟩
    · refine aw_astore (lv' := [_, _, _, _, _, _, _, _]) (pc' := 14) dX11_shift_12 rfl (Nat.le_of_ble_eq_true rfl) rfl rfl ?_
      refine aw_aload (pc' := 16) dX11_shift_14 rfl rfl rfl ?_
      refine aw_ifnull_r (pc' := 19) dX11_shift_16 rfl ?_
      refine aw_aload (pc' := 21) dX11_shift_19 rfl rfl rfl ?_
      refine aw_ifnonnull_r (tgt := 26) dX11_shift_21 (by decide) ?_
      refine aw_aload (pc' := 28) dX11_shift_26 rfl rfl rfl ?_
      refine aw_get clsAll (pc' := 31) dX11_shift_28 rfl fl_RX11_194 ((hx.2 49 (by decide) (by decide)).trans h0_49) rfl ?_
      refine aw_if_eq (tgt := 42) (pc' := 34) dX11_shift_31 (by decide) rfl (fun _ => ?_) (fun c => absurd (by decide) c)
      refine aw_bipush (v := (-11)) (pc' := 44) dX11_shift_42 rfl (by decide) ?_
      exact aw_ri dX11_shift_44 rfl rfl (Nat.le_of_ble_eq_true rfl) (Nat.le_of_ble_eq_true rfl) ⟨(by first | (simp [sp_shift, cnd, okC, okS, okW, okN, inR, n2_, n3_, n5_, n31_]; done) | (simp_all [sp_shift, cnd, okC, okS, okW, okN, inR, n2_, n3_, n5_, n31_]; done) | skip), sm_rf⟩
    · refine aw_astore (lv' := [_, _, _, _, _, _, _, _]) (pc' := 14) dX11_shift_12 rfl (Nat.le_of_ble_eq_true rfl) rfl rfl ?_
      refine aw_aload (pc' := 16) dX11_shift_14 rfl rfl rfl ?_
      refine aw_ifnull_r (pc' := 19) dX11_shift_16 rfl ?_
      refine aw_aload (pc' := 21) dX11_shift_19 rfl rfl rfl ?_
      refine aw_ifnonnull_n (pc' := 24) dX11_shift_21 rfl ?_
      refine aw_iconst (v := (-1)) (pc' := 25) dX11_shift_24 rfl (by decide) ?_
      exact aw_ri dX11_shift_25 rfl rfl (Nat.le_of_ble_eq_true rfl) (Nat.le_of_ble_eq_true rfl) ⟨(by first | (simp [sp_shift, cnd, okC, okS, okW, okN, inR, n2_, n3_, n5_, n31_, c26, c27]; done) | (simp_all [sp_shift, cnd, okC, okS, okW, okN, inR, n2_, n3_, n5_, n31_]; done) | skip), sm_rf⟩
  · refine aw_astore (lv' := [_, _, _, _, _, _, _, _]) (pc' := 7) dX11_shift_5 rfl (Nat.le_of_ble_eq_true rfl) rfl rfl ?_
    refine aw_aload_n (pc' := 8) dX11_shift_7 rfl rfl rfl ?_
    refine aw_iload_n (pc' := 9) dX11_shift_8 rfl rfl ?_
    have cc29 : AM mX11_shelfOf 0 [.ref 8, .int t] h 0 0 (PA fun r h' => (t < 0 ∧ Value.null = r ∧ h = h') ∨ (t = 0 ∧ Value.ref 55 = r ∧ h = h') ∨ (t = 1 ∧ Value.ref 57 = r ∧ h = h') ∨ (t = 2 ∧ Value.ref 59 = r ∧ h = h') ∨ (t = 3 ∧ Value.ref 61 = r ∧ h = h') ∨ (t = 4 ∧ Value.ref 63 = r ∧ h = h') ∨ (t = 5 ∧ Value.ref 65 = r ∧ h = h') ∨ (¬ (t < 0) ∧ ¬ (t < 6) ∧ Value.null = r ∧ h = h')) := by
      refine am_of (lv := [some (.ref 8), some (.int t)]) rfl (Nat.le_of_ble_eq_true rfl) rfl ?_
      refine aw_iload_n (pc' := 1) dX11_shelfOf_0 rfl rfl ?_
      refine aw_zlt (tgt := 10) (pc' := 4) dX11_shelfOf_1 (by decide) rfl (fun c30 => ?_) (fun c30 => ?_)
      · refine aw_null (pc' := 11) dX11_shelfOf_10 rfl ?_
        refine aw_goto (tgt := 20) dX11_shelfOf_11 (by decide) ?_
        exact aw_ra dX11_shelfOf_20 rfl (Or.inl ⟨_, rfl⟩) rfl (Nat.le_of_ble_eq_true rfl) (Nat.le_of_ble_eq_true rfl) (Or.inl ⟨c30, rfl, rfl⟩)
      · refine aw_iload_n (pc' := 5) dX11_shelfOf_4 rfl rfl ?_
        refine aw_bipush (v := 6) (pc' := 7) dX11_shelfOf_5 rfl (by decide) ?_
        refine aw_clt (tgt := 14) (pc' := 10) dX11_shelfOf_7 (by decide) rfl (fun c31 => ?_) (fun c31 => ?_)
        · refine aw_aload_n (pc' := 15) dX11_shelfOf_14 rfl rfl rfl ?_
          refine aw_get clsAll (pc' := 18) dX11_shelfOf_15 rfl fl_RX11_89 hx.1 rfl ?_
          refine aw_iload_n (pc' := 19) dX11_shelfOf_18 rfl rfl ?_
          rcases six_ c30 c31 with rfl | rfl | rfl | rfl | rfl | rfl
          · refine aw_aald (v := .ref 55) (pc' := 20) dX11_shelfOf_19 rfl ((hx.2 46 (by decide) (by decide)).trans h0_46) (by decide) rfl (vpc (by decide)) rfl ?_
            exact aw_ra dX11_shelfOf_20 rfl (Or.inl ⟨_, rfl⟩) rfl (Nat.le_of_ble_eq_true rfl) (Nat.le_of_ble_eq_true rfl) (Or.inr (Or.inl ⟨rfl, rfl, rfl⟩))
          · refine aw_aald (v := .ref 57) (pc' := 20) dX11_shelfOf_19 rfl ((hx.2 46 (by decide) (by decide)).trans h0_46) (by decide) rfl (vpc (by decide)) rfl ?_
            exact aw_ra dX11_shelfOf_20 rfl (Or.inl ⟨_, rfl⟩) rfl (Nat.le_of_ble_eq_true rfl) (Nat.le_of_ble_eq_true rfl) (Or.inr (Or.inr (Or.inl ⟨rfl, rfl, rfl⟩)))
          · refine aw_aald (v := .ref 59) (pc' := 20) dX11_shelfOf_19 rfl ((hx.2 46 (by decide) (by decide)).trans h0_46) (by decide) rfl (vpc (by decide)) rfl ?_
            exact aw_ra dX11_shelfOf_20 rfl (Or.inl ⟨_, rfl⟩) rfl (Nat.le_of_ble_eq_true rfl) (Nat.le_of_ble_eq_true rfl) (Or.inr (Or.inr (Or.inr (Or.inl ⟨rfl, rfl, rfl⟩))))
          · refine aw_aald (v := .ref 61) (pc' := 20) dX11_shelfOf_19 rfl ((hx.2 46 (by decide) (by decide)).trans h0_46) (by decide) rfl (vpc (by decide)) rfl ?_
            exact aw_ra dX11_shelfOf_20 rfl (Or.inl ⟨_, rfl⟩) rfl (Nat.le_of_ble_eq_true rfl) (Nat.le_of_ble_eq_true rfl) (Or.inr (Or.inr (Or.inr (Or.inr (Or.inl ⟨rfl, rfl, rfl⟩)))))
          · refine aw_aald (v := .ref 63) (pc' := 20) dX11_shelfOf_19 rfl ((hx.2 46 (by decide) (by decide)).trans h0_46) (by decide) rfl (vpc (by decide)) rfl ?_
            exact aw_ra dX11_shelfOf_20 rfl (Or.inl ⟨_, rfl⟩) rfl (Nat.le_of_ble_eq_true rfl) (Nat.le_of_ble_eq_true rfl) (Or.inr (Or.inr (Or.inr (Or.inr (Or.inr (Or.inl ⟨rfl, rfl, rfl⟩))))))
          · refine aw_aald (v := .ref 65) (pc' := 20) dX11_shelfOf_19 rfl ((hx.2 46 (by decide) (by decide)).trans h0_46) (by decide) rfl (vpc (by decide)) rfl ?_
            exact aw_ra dX11_shelfOf_20 rfl (Or.inl ⟨_, rfl⟩) rfl (Nat.le_of_ble_eq_true rfl) (Nat.le_of_ble_eq_true rfl) (Or.inr (Or.inr (Or.inr (Or.inr (Or.inr (Or.inr (Or.inl ⟨rfl, rfl, rfl⟩)))))))
        · refine aw_null (pc' := 11) dX11_shelfOf_10 rfl ?_
          refine aw_goto (tgt := 20) dX11_shelfOf_11 (by decide) ?_
          exact aw_ra dX11_shelfOf_20 rfl (Or.inl ⟨_, rfl⟩) rfl (Nat.le_of_ble_eq_true rfl) (Nat.le_of_ble_eq_true rfl) (Or.inr (Or.inr (Or.inr (Or.inr (Or.inr (Or.inr (Or.inr ⟨c30, c31, rfl, rfl⟩)))))))
    refine aw_callVa (M' := mX11_shelfOf) (nc' := 0) (ns' := 0) (pc' := 12) dX11_shift_9 rfl ml_RX11_190 kX11_shelfOf cc29 hx.1 rfl rfl rfl (Nat.le_of_ble_eq_true rfl) (rok rfl) rfl rfl (fun r35 h35 q35 => ?_)
    rcases q35 with ⟨c32, rfl, rfl⟩ | ⟨rfl, rfl, rfl⟩ | ⟨rfl, rfl, rfl⟩ | ⟨rfl, rfl, rfl⟩ | ⟨rfl, rfl, rfl⟩ | ⟨rfl, rfl, rfl⟩ | ⟨rfl, rfl, rfl⟩ | ⟨c33, c34, rfl, rfl⟩
    · refine aw_astore (lv' := [_, _, _, _, _, _, _, _]) (pc' := 14) dX11_shift_12 rfl (Nat.le_of_ble_eq_true rfl) rfl rfl ?_
      refine aw_aload (pc' := 16) dX11_shift_14 rfl rfl rfl ?_
      refine aw_ifnull_r (pc' := 19) dX11_shift_16 rfl ?_
      refine aw_aload (pc' := 21) dX11_shift_19 rfl rfl rfl ?_
      refine aw_ifnonnull_n (pc' := 24) dX11_shift_21 rfl ?_
      refine aw_iconst (v := (-1)) (pc' := 25) dX11_shift_24 rfl (by decide) ?_
      exact aw_ri dX11_shift_25 rfl rfl (Nat.le_of_ble_eq_true rfl) (Nat.le_of_ble_eq_true rfl) ⟨(by first | (simp [sp_shift, cnd, okC, okS, okW, okN, inR, n2_, n3_, n5_, n31_, c32]; done) | (simp_all [sp_shift, cnd, okC, okS, okW, okN, inR, n2_, n3_, n5_, n31_]; done) | skip), sm_rf⟩
    · refine aw_astore (lv' := [_, _, _, _, _, _, _, _]) (pc' := 14) dX11_shift_12 rfl (Nat.le_of_ble_eq_true rfl) rfl rfl ?_
      refine aw_aload (pc' := 16) dX11_shift_14 rfl rfl rfl ?_
      refine aw_ifnull_r (pc' := 19) dX11_shift_16 rfl ?_
      refine aw_aload (pc' := 21) dX11_shift_19 rfl rfl rfl ?_
      refine aw_ifnonnull_r (tgt := 26) dX11_shift_21 (by decide) ?_
      refine aw_aload (pc' := 28) dX11_shift_26 rfl rfl rfl ?_
      refine aw_get clsAll (pc' := 31) dX11_shift_28 rfl fl_RX11_194 ((hx.2 51 (by decide) (by decide)).trans h0_51) rfl ?_
      refine aw_if_eq (tgt := 42) (pc' := 34) dX11_shift_31 (by decide) rfl (fun _ => ?_) (fun c => absurd (by decide) c)
      refine aw_bipush (v := (-11)) (pc' := 44) dX11_shift_42 rfl (by decide) ?_
      exact aw_ri dX11_shift_44 rfl rfl (Nat.le_of_ble_eq_true rfl) (Nat.le_of_ble_eq_true rfl) ⟨(by first | (simp [sp_shift, cnd, okC, okS, okW, okN, inR, n2_, n3_, n5_, n31_]; done) | (simp_all [sp_shift, cnd, okC, okS, okW, okN, inR, n2_, n3_, n5_, n31_]; done) | skip), sm_rf⟩
    · refine aw_astore (lv' := [_, _, _, _, _, _, _, _]) (pc' := 14) dX11_shift_12 rfl (Nat.le_of_ble_eq_true rfl) rfl rfl ?_
      refine aw_aload (pc' := 16) dX11_shift_14 rfl rfl rfl ?_
      refine aw_ifnull_r (pc' := 19) dX11_shift_16 rfl ?_
      refine aw_aload (pc' := 21) dX11_shift_19 rfl rfl rfl ?_
      refine aw_ifnonnull_r (tgt := 26) dX11_shift_21 (by decide) ?_
      refine aw_aload (pc' := 28) dX11_shift_26 rfl rfl rfl ?_
      refine aw_get clsAll (pc' := 31) dX11_shift_28 rfl fl_RX11_194 ((hx.2 51 (by decide) (by decide)).trans h0_51) rfl ?_
      refine aw_if_eq (tgt := 42) (pc' := 34) dX11_shift_31 (by decide) rfl (fun _ => ?_) (fun c => absurd (by decide) c)
      refine aw_bipush (v := (-11)) (pc' := 44) dX11_shift_42 rfl (by decide) ?_
      exact aw_ri dX11_shift_44 rfl rfl (Nat.le_of_ble_eq_true rfl) (Nat.le_of_ble_eq_true rfl) ⟨(by first | (simp [sp_shift, cnd, okC, okS, okW, okN, inR, n2_, n3_, n5_, n31_]; done) | (simp_all [sp_shift, cnd, okC, okS, okW, okN, inR, n2_, n3_, n5_, n31_]; done) | skip), sm_rf⟩
    · refine aw_astore (lv' := [_, _, _, _, _, _, _, _]) (pc' := 14) dX11_shift_12 rfl (Nat.le_of_ble_eq_true rfl) rfl rfl ?_
      refine aw_aload (pc' := 16) dX11_shift_14 rfl rfl rfl ?_
      refine aw_ifnull_r (pc' := 19) dX11_shift_16 rfl ?_
      refine aw_aload (pc' := 21) dX11_shift_19 rfl rfl rfl ?_
      refine aw_ifnonnull_r (tgt := 26) dX11_shift_21 (by decide) ?_
      refine aw_aload (pc' := 28) dX11_shift_26 rfl rfl rfl ?_
      refine aw_get clsAll (pc' := 31) dX11_shift_28 rfl fl_RX11_194 ((hx.2 51 (by decide) (by decide)).trans h0_51) rfl ?_
      refine aw_if_eq (tgt := 42) (pc' := 34) dX11_shift_31 (by decide) rfl (fun _ => ?_) (fun c => absurd (by decide) c)
      refine aw_bipush (v := (-11)) (pc' := 44) dX11_shift_42 rfl (by decide) ?_
      exact aw_ri dX11_shift_44 rfl rfl (Nat.le_of_ble_eq_true rfl) (Nat.le_of_ble_eq_true rfl) ⟨(by first | (simp [sp_shift, cnd, okC, okS, okW, okN, inR, n2_, n3_, n5_, n31_]; done) | (simp_all [sp_shift, cnd, okC, okS, okW, okN, inR, n2_, n3_, n5_, n31_]; done) | skip), sm_rf⟩
    · refine aw_astore (lv' := [_, _, _, _, _, _, _, _]) (pc' := 14) dX11_shift_12 rfl (Nat.le_of_ble_eq_true rfl) rfl rfl ?_
      refine aw_aload (pc' := 16) dX11_shift_14 rfl rfl rfl ?_
      refine aw_ifnull_r (pc' := 19) dX11_shift_16 rfl ?_
      refine aw_aload (pc' := 21) dX11_shift_19 rfl rfl rfl ?_
      refine aw_ifnonnull_r (tgt := 26) dX11_shift_21 (by decide) ?_
      refine aw_aload (pc' := 28) dX11_shift_26 rfl rfl rfl ?_
      refine aw_get clsAll (pc' := 31) dX11_shift_28 rfl fl_RX11_194 ((hx.2 51 (by decide) (by decide)).trans h0_51) rfl ?_
      refine aw_if_eq (tgt := 42) (pc' := 34) dX11_shift_31 (by decide) rfl (fun _ => ?_) (fun c => absurd (by decide) c)
      refine aw_bipush (v := (-11)) (pc' := 44) dX11_shift_42 rfl (by decide) ?_
      exact aw_ri dX11_shift_44 rfl rfl (Nat.le_of_ble_eq_true rfl) (Nat.le_of_ble_eq_true rfl) ⟨(by first | (simp [sp_shift, cnd, okC, okS, okW, okN, inR, n2_, n3_, n5_, n31_]; done) | (simp_all [sp_shift, cnd, okC, okS, okW, okN, inR, n2_, n3_, n5_, n31_]; done) | skip), sm_rf⟩
    · refine aw_astore (lv' := [_, _, _, _, _, _, _, _]) (pc' := 14) dX11_shift_12 rfl (Nat.le_of_ble_eq_true rfl) rfl rfl ?_
      refine aw_aload (pc' := 16) dX11_shift_14 rfl rfl rfl ?_
      refine aw_ifnull_r (pc' := 19) dX11_shift_16 rfl ?_
      refine aw_aload (pc' := 21) dX11_shift_19 rfl rfl rfl ?_
      refine aw_ifnonnull_r (tgt := 26) dX11_shift_21 (by decide) ?_
      refine aw_aload (pc' := 28) dX11_shift_26 rfl rfl rfl ?_
      refine aw_get clsAll (pc' := 31) dX11_shift_28 rfl fl_RX11_194 ((hx.2 51 (by decide) (by decide)).trans h0_51) rfl ?_
      refine aw_if_eq (tgt := 42) (pc' := 34) dX11_shift_31 (by decide) rfl (fun _ => ?_) (fun c => absurd (by decide) c)
      refine aw_bipush (v := (-11)) (pc' := 44) dX11_shift_42 rfl (by decide) ?_
      exact aw_ri dX11_shift_44 rfl rfl (Nat.le_of_ble_eq_true rfl) (Nat.le_of_ble_eq_true rfl) ⟨(by first | (simp [sp_shift, cnd, okC, okS, okW, okN, inR, n2_, n3_, n5_, n31_]; done) | (simp_all [sp_shift, cnd, okC, okS, okW, okN, inR, n2_, n3_, n5_, n31_]; done) | skip), sm_rf⟩
    · refine aw_astore (lv' := [_, _, _, _, _, _, _, _]) (pc' := 14) dX11_shift_12 rfl (Nat.le_of_ble_eq_true rfl) rfl rfl ?_
      refine aw_aload (pc' := 16) dX11_shift_14 rfl rfl rfl ?_
      refine aw_ifnull_r (pc' := 19) dX11_shift_16 rfl ?_
      refine aw_aload (pc' := 21) dX11_shift_19 rfl rfl rfl ?_
      refine aw_ifnonnull_r (tgt := 26) dX11_shift_21 (by decide) ?_
      refine aw_aload (pc' := 28) dX11_shift_26 rfl rfl rfl ?_
      refine aw_get clsAll (pc' := 31) dX11_shift_28 rfl fl_RX11_194 ((hx.2 51 (by decide) (by decide)).trans h0_51) rfl ?_
      refine aw_if_eq (tgt := 42) (pc' := 34) dX11_shift_31 (by decide) rfl (fun _ => ?_) (fun c => absurd (by decide) c)
      refine aw_bipush (v := (-11)) (pc' := 44) dX11_shift_42 rfl (by decide) ?_
      exact aw_ri dX11_shift_44 rfl rfl (Nat.le_of_ble_eq_true rfl) (Nat.le_of_ble_eq_true rfl) ⟨(by first | (simp [sp_shift, cnd, okC, okS, okW, okN, inR, n2_, n3_, n5_, n31_]; done) | (simp_all [sp_shift, cnd, okC, okS, okW, okN, inR, n2_, n3_, n5_, n31_]; done) | skip), sm_rf⟩
    · refine aw_astore (lv' := [_, _, _, _, _, _, _, _]) (pc' := 14) dX11_shift_12 rfl (Nat.le_of_ble_eq_true rfl) rfl rfl ?_
      refine aw_aload (pc' := 16) dX11_shift_14 rfl rfl rfl ?_
      refine aw_ifnull_r (pc' := 19) dX11_shift_16 rfl ?_
      refine aw_aload (pc' := 21) dX11_shift_19 rfl rfl rfl ?_
      refine aw_ifnonnull_n (pc' := 24) dX11_shift_21 rfl ?_
      refine aw_iconst (v := (-1)) (pc' := 25) dX11_shift_24 rfl (by decide) ?_
      exact aw_ri dX11_shift_25 rfl rfl (Nat.le_of_ble_eq_true rfl) (Nat.le_of_ble_eq_true rfl) ⟨(by first | (simp [sp_shift, cnd, okC, okS, okW, okN, inR, n2_, n3_, n5_, n31_, c33, c34]; done) | (simp_all [sp_shift, cnd, okC, okS, okW, okN, inR, n2_, n3_, n5_, n31_]; done) | skip), sm_rf⟩
  · refine aw_astore (lv' := [_, _, _, _, _, _, _, _]) (pc' := 7) dX11_shift_5 rfl (Nat.le_of_ble_eq_true rfl) rfl rfl ?_
    refine aw_aload_n (pc' := 8) dX11_shift_7 rfl rfl rfl ?_
    refine aw_iload_n (pc' := 9) dX11_shift_8 rfl rfl ?_
    have cc36 : AM mX11_shelfOf 0 [.ref 8, .int t] h 0 0 (PA fun r h' => (t < 0 ∧ Value.null = r ∧ h = h') ∨ (t = 0 ∧ Value.ref 55 = r ∧ h = h') ∨ (t = 1 ∧ Value.ref 57 = r ∧ h = h') ∨ (t = 2 ∧ Value.ref 59 = r ∧ h = h') ∨ (t = 3 ∧ Value.ref 61 = r ∧ h = h') ∨ (t = 4 ∧ Value.ref 63 = r ∧ h = h') ∨ (t = 5 ∧ Value.ref 65 = r ∧ h = h') ∨ (¬ (t < 0) ∧ ¬ (t < 6) ∧ Value.null = r ∧ h = h')) := by
      refine am_of (lv := [some (.ref 8), some (.int t)]) rfl (Nat.le_of_ble_eq_true rfl) rfl ?_
      refine aw_iload_n (pc' := 1) dX11_shelfOf_0 rfl rfl ?_
      refine aw_zlt (tgt := 10) (pc' := 4) dX11_shelfOf_1 (by decide) rfl (fun c37 => ?_) (fun c37 => ?_)
      · refine aw_null (pc' := 11) dX11_shelfOf_10 rfl ?_
        refine aw_goto (tgt := 20) dX11_shelfOf_11 (by decide) ?_
        exact aw_ra dX11_shelfOf_20 rfl (Or.inl ⟨_, rfl⟩) rfl (Nat.le_of_ble_eq_true rfl) (Nat.le_of_ble_eq_true rfl) (Or.inl ⟨c37, rfl, rfl⟩)
      · refine aw_iload_n (pc' := 5) dX11_shelfOf_4 rfl rfl ?_
        refine aw_bipush (v := 6) (pc' := 7) dX11_shelfOf_5 rfl (by decide) ?_
        refine aw_clt (tgt := 14) (pc' := 10) dX11_shelfOf_7 (by decide) rfl (fun c38 => ?_) (fun c38 => ?_)
        · refine aw_aload_n (pc' := 15) dX11_shelfOf_14 rfl rfl rfl ?_
          refine aw_get clsAll (pc' := 18) dX11_shelfOf_15 rfl fl_RX11_89 hx.1 rfl ?_
          refine aw_iload_n (pc' := 19) dX11_shelfOf_18 rfl rfl ?_
          rcases six_ c37 c38 with rfl | rfl | rfl | rfl | rfl | rfl
          · refine aw_aald (v := .ref 55) (pc' := 20) dX11_shelfOf_19 rfl ((hx.2 46 (by decide) (by decide)).trans h0_46) (by decide) rfl (vpc (by decide)) rfl ?_
            exact aw_ra dX11_shelfOf_20 rfl (Or.inl ⟨_, rfl⟩) rfl (Nat.le_of_ble_eq_true rfl) (Nat.le_of_ble_eq_true rfl) (Or.inr (Or.inl ⟨rfl, rfl, rfl⟩))
          · refine aw_aald (v := .ref 57) (pc' := 20) dX11_shelfOf_19 rfl ((hx.2 46 (by decide) (by decide)).trans h0_46) (by decide) rfl (vpc (by decide)) rfl ?_
            exact aw_ra dX11_shelfOf_20 rfl (Or.inl ⟨_, rfl⟩) rfl (Nat.le_of_ble_eq_true rfl) (Nat.le_of_ble_eq_true rfl) (Or.inr (Or.inr (Or.inl ⟨rfl, rfl, rfl⟩)))
          · refine aw_aald (v := .ref 59) (pc' := 20) dX11_shelfOf_19 rfl ((hx.2 46 (by decide) (by decide)).trans h0_46) (by decide) rfl (vpc (by decide)) rfl ?_
            exact aw_ra dX11_shelfOf_20 rfl (Or.inl ⟨_, rfl⟩) rfl (Nat.le_of_ble_eq_true rfl) (Nat.le_of_ble_eq_true rfl) (Or.inr (Or.inr (Or.inr (Or.inl ⟨rfl, rfl, rfl⟩))))
          · refine aw_aald (v := .ref 61) (pc' := 20) dX11_shelfOf_19 rfl ((hx.2 46 (by decide) (by decide)).trans h0_46) (by decide) rfl (vpc (by decide)) rfl ?_
            exact aw_ra dX11_shelfOf_20 rfl (Or.inl ⟨_, rfl⟩) rfl (Nat.le_of_ble_eq_true rfl) (Nat.le_of_ble_eq_true rfl) (Or.inr (Or.inr (Or.inr (Or.inr (Or.inl ⟨rfl, rfl, rfl⟩)))))
          · refine aw_aald (v := .ref 63) (pc' := 20) dX11_shelfOf_19 rfl ((hx.2 46 (by decide) (by decide)).trans h0_46) (by decide) rfl (vpc (by decide)) rfl ?_
            exact aw_ra dX11_shelfOf_20 rfl (Or.inl ⟨_, rfl⟩) rfl (Nat.le_of_ble_eq_true rfl) (Nat.le_of_ble_eq_true rfl) (Or.inr (Or.inr (Or.inr (Or.inr (Or.inr (Or.inl ⟨rfl, rfl, rfl⟩))))))
          · refine aw_aald (v := .ref 65) (pc' := 20) dX11_shelfOf_19 rfl ((hx.2 46 (by decide) (by decide)).trans h0_46) (by decide) rfl (vpc (by decide)) rfl ?_
            exact aw_ra dX11_shelfOf_20 rfl (Or.inl ⟨_, rfl⟩) rfl (Nat.le_of_ble_eq_true rfl) (Nat.le_of_ble_eq_true rfl) (Or.inr (Or.inr (Or.inr (Or.inr (Or.inr (Or.inr (Or.inl ⟨rfl, rfl, rfl⟩)))))))
        · refine aw_null (pc' := 11) dX11_shelfOf_10 rfl ?_
          refine aw_goto (tgt := 20) dX11_shelfOf_11 (by decide) ?_
          exact aw_ra dX11_shelfOf_20 rfl (Or.inl ⟨_, rfl⟩) rfl (Nat.le_of_ble_eq_true rfl) (Nat.le_of_ble_eq_true rfl) (Or.inr (Or.inr (Or.inr (Or.inr (Or.inr (Or.inr (Or.inr ⟨c37, c38, rfl, rfl⟩)))))))
    refine aw_callVa (M' := mX11_shelfOf) (nc' := 0) (ns' := 0) (pc' := 12) dX11_shift_9 rfl ml_RX11_190 kX11_shelfOf cc36 hx.1 rfl rfl rfl (Nat.le_of_ble_eq_true rfl) (rok rfl) rfl rfl (fun r42 h42 q42 => ?_)
    rcases q42 with ⟨c39, rfl, rfl⟩ | ⟨rfl, rfl, rfl⟩ | ⟨rfl, rfl, rfl⟩ | ⟨rfl, rfl, rfl⟩ | ⟨rfl, rfl, rfl⟩ | ⟨rfl, rfl, rfl⟩ | ⟨rfl, rfl, rfl⟩ | ⟨c40, c41, rfl, rfl⟩
    · refine aw_astore (lv' := [_, _, _, _, _, _, _, _]) (pc' := 14) dX11_shift_12 rfl (Nat.le_of_ble_eq_true rfl) rfl rfl ?_
      refine aw_aload (pc' := 16) dX11_shift_14 rfl rfl rfl ?_
      refine aw_ifnull_r (pc' := 19) dX11_shift_16 rfl ?_
      refine aw_aload (pc' := 21) dX11_shift_19 rfl rfl rfl ?_
      refine aw_ifnonnull_n (pc' := 24) dX11_shift_21 rfl ?_
      refine aw_iconst (v := (-1)) (pc' := 25) dX11_shift_24 rfl (by decide) ?_
      exact aw_ri dX11_shift_25 rfl rfl (Nat.le_of_ble_eq_true rfl) (Nat.le_of_ble_eq_true rfl) ⟨(by first | (simp [sp_shift, cnd, okC, okS, okW, okN, inR, n2_, n3_, n5_, n31_, c39]; done) | (simp_all [sp_shift, cnd, okC, okS, okW, okN, inR, n2_, n3_, n5_, n31_]; done) | skip), sm_rf⟩
    · refine aw_astore (lv' := [_, _, _, _, _, _, _, _]) (pc' := 14) dX11_shift_12 rfl (Nat.le_of_ble_eq_true rfl) rfl rfl ?_
      refine aw_aload (pc' := 16) dX11_shift_14 rfl rfl rfl ?_
      refine aw_ifnull_r (pc' := 19) dX11_shift_16 rfl ?_
      refine aw_aload (pc' := 21) dX11_shift_19 rfl rfl rfl ?_
      refine aw_ifnonnull_r (tgt := 26) dX11_shift_21 (by decide) ?_
      refine aw_aload (pc' := 28) dX11_shift_26 rfl rfl rfl ?_
      refine aw_get clsAll (pc' := 31) dX11_shift_28 rfl fl_RX11_194 ((hx.2 53 (by decide) (by decide)).trans h0_53) rfl ?_
      refine aw_if_eq (tgt := 42) (pc' := 34) dX11_shift_31 (by decide) rfl (fun _ => ?_) (fun c => absurd (by decide) c)
      refine aw_bipush (v := (-11)) (pc' := 44) dX11_shift_42 rfl (by decide) ?_
      exact aw_ri dX11_shift_44 rfl rfl (Nat.le_of_ble_eq_true rfl) (Nat.le_of_ble_eq_true rfl) ⟨(by first | (simp [sp_shift, cnd, okC, okS, okW, okN, inR, n2_, n3_, n5_, n31_]; done) | (simp_all [sp_shift, cnd, okC, okS, okW, okN, inR, n2_, n3_, n5_, n31_]; done) | skip), sm_rf⟩
    · refine aw_astore (lv' := [_, _, _, _, _, _, _, _]) (pc' := 14) dX11_shift_12 rfl (Nat.le_of_ble_eq_true rfl) rfl rfl ?_
      refine aw_aload (pc' := 16) dX11_shift_14 rfl rfl rfl ?_
      refine aw_ifnull_r (pc' := 19) dX11_shift_16 rfl ?_
      refine aw_aload (pc' := 21) dX11_shift_19 rfl rfl rfl ?_
      refine aw_ifnonnull_r (tgt := 26) dX11_shift_21 (by decide) ?_
      refine aw_aload (pc' := 28) dX11_shift_26 rfl rfl rfl ?_
      refine aw_get clsAll (pc' := 31) dX11_shift_28 rfl fl_RX11_194 ((hx.2 53 (by decide) (by decide)).trans h0_53) rfl ?_
      refine aw_if_eq (tgt := 42) (pc' := 34) dX11_shift_31 (by decide) rfl (fun _ => ?_) (fun c => absurd (by decide) c)
      refine aw_bipush (v := (-11)) (pc' := 44) dX11_shift_42 rfl (by decide) ?_
      exact aw_ri dX11_shift_44 rfl rfl (Nat.le_of_ble_eq_true rfl) (Nat.le_of_ble_eq_true rfl) ⟨(by first | (simp [sp_shift, cnd, okC, okS, okW, okN, inR, n2_, n3_, n5_, n31_]; done) | (simp_all [sp_shift, cnd, okC, okS, okW, okN, inR, n2_, n3_, n5_, n31_]; done) | skip), sm_rf⟩
    · refine aw_astore (lv' := [_, _, _, _, _, _, _, _]) (pc' := 14) dX11_shift_12 rfl (Nat.le_of_ble_eq_true rfl) rfl rfl ?_
      refine aw_aload (pc' := 16) dX11_shift_14 rfl rfl rfl ?_
      refine aw_ifnull_r (pc' := 19) dX11_shift_16 rfl ?_
      refine aw_aload (pc' := 21) dX11_shift_19 rfl rfl rfl ?_
      refine aw_ifnonnull_r (tgt := 26) dX11_shift_21 (by decide) ?_
      refine aw_aload (pc' := 28) dX11_shift_26 rfl rfl rfl ?_
      refine aw_get clsAll (pc' := 31) dX11_shift_28 rfl fl_RX11_194 ((hx.2 53 (by decide) (by decide)).trans h0_53) rfl ?_
      refine aw_if_eq (tgt := 42) (pc' := 34) dX11_shift_31 (by decide) rfl (fun _ => ?_) (fun c => absurd (by decide) c)
      refine aw_bipush (v := (-11)) (pc' := 44) dX11_shift_42 rfl (by decide) ?_
      exact aw_ri dX11_shift_44 rfl rfl (Nat.le_of_ble_eq_true rfl) (Nat.le_of_ble_eq_true rfl) ⟨(by first | (simp [sp_shift, cnd, okC, okS, okW, okN, inR, n2_, n3_, n5_, n31_]; done) | (simp_all [sp_shift, cnd, okC, okS, okW, okN, inR, n2_, n3_, n5_, n31_]; done) | skip), sm_rf⟩
    · refine aw_astore (lv' := [_, _, _, _, _, _, _, _]) (pc' := 14) dX11_shift_12 rfl (Nat.le_of_ble_eq_true rfl) rfl rfl ?_
      refine aw_aload (pc' := 16) dX11_shift_14 rfl rfl rfl ?_
      refine aw_ifnull_r (pc' := 19) dX11_shift_16 rfl ?_
      refine aw_aload (pc' := 21) dX11_shift_19 rfl rfl rfl ?_
      refine aw_ifnonnull_r (tgt := 26) dX11_shift_21 (by decide) ?_
      refine aw_aload (pc' := 28) dX11_shift_26 rfl rfl rfl ?_
      refine aw_get clsAll (pc' := 31) dX11_shift_28 rfl fl_RX11_194 ((hx.2 53 (by decide) (by decide)).trans h0_53) rfl ?_
      refine aw_if_eq (tgt := 42) (pc' := 34) dX11_shift_31 (by decide) rfl (fun _ => ?_) (fun c => absurd (by decide) c)
      refine aw_bipush (v := (-11)) (pc' := 44) dX11_shift_42 rfl (by decide) ?_
      exact aw_ri dX11_shift_44 rfl rfl (Nat.le_of_ble_eq_true rfl) (Nat.le_of_ble_eq_true rfl) ⟨(by first | (simp [sp_shift, cnd, okC, okS, okW, okN, inR, n2_, n3_, n5_, n31_]; done) | (simp_all [sp_shift, cnd, okC, okS, okW, okN, inR, n2_, n3_, n5_, n31_]; done) | skip), sm_rf⟩
    · refine aw_astore (lv' := [_, _, _, _, _, _, _, _]) (pc' := 14) dX11_shift_12 rfl (Nat.le_of_ble_eq_true rfl) rfl rfl ?_
      refine aw_aload (pc' := 16) dX11_shift_14 rfl rfl rfl ?_
      refine aw_ifnull_r (pc' := 19) dX11_shift_16 rfl ?_
      refine aw_aload (pc' := 21) dX11_shift_19 rfl rfl rfl ?_
      refine aw_ifnonnull_r (tgt := 26) dX11_shift_21 (by decide) ?_
      refine aw_aload (pc' := 28) dX11_shift_26 rfl rfl rfl ?_
      refine aw_get clsAll (pc' := 31) dX11_shift_28 rfl fl_RX11_194 ((hx.2 53 (by decide) (by decide)).trans h0_53) rfl ?_
      refine aw_if_eq (tgt := 42) (pc' := 34) dX11_shift_31 (by decide) rfl (fun _ => ?_) (fun c => absurd (by decide) c)
      refine aw_bipush (v := (-11)) (pc' := 44) dX11_shift_42 rfl (by decide) ?_
      exact aw_ri dX11_shift_44 rfl rfl (Nat.le_of_ble_eq_true rfl) (Nat.le_of_ble_eq_true rfl) ⟨(by first | (simp [sp_shift, cnd, okC, okS, okW, okN, inR, n2_, n3_, n5_, n31_]; done) | (simp_all [sp_shift, cnd, okC, okS, okW, okN, inR, n2_, n3_, n5_, n31_]; done) | skip), sm_rf⟩
    · refine aw_astore (lv' := [_, _, _, _, _, _, _, _]) (pc' := 14) dX11_shift_12 rfl (Nat.le_of_ble_eq_true rfl) rfl rfl ?_
      refine aw_aload (pc' := 16) dX11_shift_14 rfl rfl rfl ?_
      refine aw_ifnull_r (pc' := 19) dX11_shift_16 rfl ?_
      refine aw_aload (pc' := 21) dX11_shift_19 rfl rfl rfl ?_
      refine aw_ifnonnull_r (tgt := 26) dX11_shift_21 (by decide) ?_
      refine aw_aload (pc' := 28) dX11_shift_26 rfl rfl rfl ?_
      refine aw_get clsAll (pc' := 31) dX11_shift_28 rfl fl_RX11_194 ((hx.2 53 (by decide) (by decide)).trans h0_53) rfl ?_
      refine aw_if_eq (tgt := 42) (pc' := 34) dX11_shift_31 (by decide) rfl (fun _ => ?_) (fun c => absurd (by decide) c)
      refine aw_bipush (v := (-11)) (pc' := 44) dX11_shift_42 rfl (by decide) ?_
      exact aw_ri dX11_shift_44 rfl rfl (Nat.le_of_ble_eq_true rfl) (Nat.le_of_ble_eq_true rfl) ⟨(by first | (simp [sp_shift, cnd, okC, okS, okW, okN, inR, n2_, n3_, n5_, n31_]; done) | (simp_all [sp_shift, cnd, okC, okS, okW, okN, inR, n2_, n3_, n5_, n31_]; done) | skip), sm_rf⟩
    · refine aw_astore (lv' := [_, _, _, _, _, _, _, _]) (pc' := 14) dX11_shift_12 rfl (Nat.le_of_ble_eq_true rfl) rfl rfl ?_
      refine aw_aload (pc' := 16) dX11_shift_14 rfl rfl rfl ?_
      refine aw_ifnull_r (pc' := 19) dX11_shift_16 rfl ?_
      refine aw_aload (pc' := 21) dX11_shift_19 rfl rfl rfl ?_
      refine aw_ifnonnull_n (pc' := 24) dX11_shift_21 rfl ?_
      refine aw_iconst (v := (-1)) (pc' := 25) dX11_shift_24 rfl (by decide) ?_
      exact aw_ri dX11_shift_25 rfl rfl (Nat.le_of_ble_eq_true rfl) (Nat.le_of_ble_eq_true rfl) ⟨(by first | (simp [sp_shift, cnd, okC, okS, okW, okN, inR, n2_, n3_, n5_, n31_, c40, c41]; done) | (simp_all [sp_shift, cnd, okC, okS, okW, okN, inR, n2_, n3_, n5_, n31_]; done) | skip), sm_rf⟩
  · refine aw_astore (lv' := [_, _, _, _, _, _, _, _]) (pc' := 7) dX11_shift_5 rfl (Nat.le_of_ble_eq_true rfl) rfl rfl ?_
    refine aw_aload_n (pc' := 8) dX11_shift_7 rfl rfl rfl ?_
    refine aw_iload_n (pc' := 9) dX11_shift_8 rfl rfl ?_
    have cc43 : AM mX11_shelfOf 0 [.ref 8, .int t] h 0 0 (PA fun r h' => (t < 0 ∧ Value.null = r ∧ h = h') ∨ (t = 0 ∧ Value.ref 55 = r ∧ h = h') ∨ (t = 1 ∧ Value.ref 57 = r ∧ h = h') ∨ (t = 2 ∧ Value.ref 59 = r ∧ h = h') ∨ (t = 3 ∧ Value.ref 61 = r ∧ h = h') ∨ (t = 4 ∧ Value.ref 63 = r ∧ h = h') ∨ (t = 5 ∧ Value.ref 65 = r ∧ h = h') ∨ (¬ (t < 0) ∧ ¬ (t < 6) ∧ Value.null = r ∧ h = h')) := by
      refine am_of (lv := [some (.ref 8), some (.int t)]) rfl (Nat.le_of_ble_eq_true rfl) rfl ?_
      refine aw_iload_n (pc' := 1) dX11_shelfOf_0 rfl rfl ?_
      refine aw_zlt (tgt := 10) (pc' := 4) dX11_shelfOf_1 (by decide) rfl (fun c44 => ?_) (fun c44 => ?_)
      · refine aw_null (pc' := 11) dX11_shelfOf_10 rfl ?_
        refine aw_goto (tgt := 20) dX11_shelfOf_11 (by decide) ?_
        exact aw_ra dX11_shelfOf_20 rfl (Or.inl ⟨_, rfl⟩) rfl (Nat.le_of_ble_eq_true rfl) (Nat.le_of_ble_eq_true rfl) (Or.inl ⟨c44, rfl, rfl⟩)
      · refine aw_iload_n (pc' := 5) dX11_shelfOf_4 rfl rfl ?_
        refine aw_bipush (v := 6) (pc' := 7) dX11_shelfOf_5 rfl (by decide) ?_
        refine aw_clt (tgt := 14) (pc' := 10) dX11_shelfOf_7 (by decide) rfl (fun c45 => ?_) (fun c45 => ?_)
        · refine aw_aload_n (pc' := 15) dX11_shelfOf_14 rfl rfl rfl ?_
          refine aw_get clsAll (pc' := 18) dX11_shelfOf_15 rfl fl_RX11_89 hx.1 rfl ?_
          refine aw_iload_n (pc' := 19) dX11_shelfOf_18 rfl rfl ?_
          rcases six_ c44 c45 with rfl | rfl | rfl | rfl | rfl | rfl
          · refine aw_aald (v := .ref 55) (pc' := 20) dX11_shelfOf_19 rfl ((hx.2 46 (by decide) (by decide)).trans h0_46) (by decide) rfl (vpc (by decide)) rfl ?_
            exact aw_ra dX11_shelfOf_20 rfl (Or.inl ⟨_, rfl⟩) rfl (Nat.le_of_ble_eq_true rfl) (Nat.le_of_ble_eq_true rfl) (Or.inr (Or.inl ⟨rfl, rfl, rfl⟩))
          · refine aw_aald (v := .ref 57) (pc' := 20) dX11_shelfOf_19 rfl ((hx.2 46 (by decide) (by decide)).trans h0_46) (by decide) rfl (vpc (by decide)) rfl ?_
            exact aw_ra dX11_shelfOf_20 rfl (Or.inl ⟨_, rfl⟩) rfl (Nat.le_of_ble_eq_true rfl) (Nat.le_of_ble_eq_true rfl) (Or.inr (Or.inr (Or.inl ⟨rfl, rfl, rfl⟩)))
          · refine aw_aald (v := .ref 59) (pc' := 20) dX11_shelfOf_19 rfl ((hx.2 46 (by decide) (by decide)).trans h0_46) (by decide) rfl (vpc (by decide)) rfl ?_
            exact aw_ra dX11_shelfOf_20 rfl (Or.inl ⟨_, rfl⟩) rfl (Nat.le_of_ble_eq_true rfl) (Nat.le_of_ble_eq_true rfl) (Or.inr (Or.inr (Or.inr (Or.inl ⟨rfl, rfl, rfl⟩))))
          · refine aw_aald (v := .ref 61) (pc' := 20) dX11_shelfOf_19 rfl ((hx.2 46 (by decide) (by decide)).trans h0_46) (by decide) rfl (vpc (by decide)) rfl ?_
            exact aw_ra dX11_shelfOf_20 rfl (Or.inl ⟨_, rfl⟩) rfl (Nat.le_of_ble_eq_true rfl) (Nat.le_of_ble_eq_true rfl) (Or.inr (Or.inr (Or.inr (Or.inr (Or.inl ⟨rfl, rfl, rfl⟩)))))
          · refine aw_aald (v := .ref 63) (pc' := 20) dX11_shelfOf_19 rfl ((hx.2 46 (by decide) (by decide)).trans h0_46) (by decide) rfl (vpc (by decide)) rfl ?_
            exact aw_ra dX11_shelfOf_20 rfl (Or.inl ⟨_, rfl⟩) rfl (Nat.le_of_ble_eq_true rfl) (Nat.le_of_ble_eq_true rfl) (Or.inr (Or.inr (Or.inr (Or.inr (Or.inr (Or.inl ⟨rfl, rfl, rfl⟩))))))
          · refine aw_aald (v := .ref 65) (pc' := 20) dX11_shelfOf_19 rfl ((hx.2 46 (by decide) (by decide)).trans h0_46) (by decide) rfl (vpc (by decide)) rfl ?_
            exact aw_ra dX11_shelfOf_20 rfl (Or.inl ⟨_, rfl⟩) rfl (Nat.le_of_ble_eq_true rfl) (Nat.le_of_ble_eq_true rfl) (Or.inr (Or.inr (Or.inr (Or.inr (Or.inr (Or.inr (Or.inl ⟨rfl, rfl, rfl⟩)))))))
        · refine aw_null (pc' := 11) dX11_shelfOf_10 rfl ?_
          refine aw_goto (tgt := 20) dX11_shelfOf_11 (by decide) ?_
          exact aw_ra dX11_shelfOf_20 rfl (Or.inl ⟨_, rfl⟩) rfl (Nat.le_of_ble_eq_true rfl) (Nat.le_of_ble_eq_true rfl) (Or.inr (Or.inr (Or.inr (Or.inr (Or.inr (Or.inr (Or.inr ⟨c44, c45, rfl, rfl⟩)))))))
    refine aw_callVa (M' := mX11_shelfOf) (nc' := 0) (ns' := 0) (pc' := 12) dX11_shift_9 rfl ml_RX11_190 kX11_shelfOf cc43 hx.1 rfl rfl rfl (Nat.le_of_ble_eq_true rfl) (rok rfl) rfl rfl (fun r49 h49 q49 => ?_)
    rcases q49 with ⟨c46, rfl, rfl⟩ | ⟨rfl, rfl, rfl⟩ | ⟨rfl, rfl, rfl⟩ | ⟨rfl, rfl, rfl⟩ | ⟨rfl, rfl, rfl⟩ | ⟨rfl, rfl, rfl⟩ | ⟨rfl, rfl, rfl⟩ | ⟨c47, c48, rfl, rfl⟩
    · refine aw_astore (lv' := [_, _, _, _, _, _, _, _]) (pc' := 14) dX11_shift_12 rfl (Nat.le_of_ble_eq_true rfl) rfl rfl ?_
      refine aw_aload (pc' := 16) dX11_shift_14 rfl rfl rfl ?_
      refine aw_ifnull_r (pc' := 19) dX11_shift_16 rfl ?_
      refine aw_aload (pc' := 21) dX11_shift_19 rfl rfl rfl ?_
      refine aw_ifnonnull_n (pc' := 24) dX11_shift_21 rfl ?_
      refine aw_iconst (v := (-1)) (pc' := 25) dX11_shift_24 rfl (by decide) ?_
      exact aw_ri dX11_shift_25 rfl rfl (Nat.le_of_ble_eq_true rfl) (Nat.le_of_ble_eq_true rfl) ⟨(by first | (simp [sp_shift, cnd, okC, okS, okW, okN, inR, n2_, n3_, n5_, n31_, c46]; done) | (simp_all [sp_shift, cnd, okC, okS, okW, okN, inR, n2_, n3_, n5_, n31_]; done) | skip), sm_rf⟩
    · refine aw_astore (lv' := [_, _, _, _, _, _, _, _]) (pc' := 14) dX11_shift_12 rfl (Nat.le_of_ble_eq_true rfl) rfl rfl ?_
      refine aw_aload (pc' := 16) dX11_shift_14 rfl rfl rfl ?_
      refine aw_ifnull_r (pc' := 19) dX11_shift_16 rfl ?_
      refine aw_aload (pc' := 21) dX11_shift_19 rfl rfl rfl ?_
      refine aw_ifnonnull_r (tgt := 26) dX11_shift_21 (by decide) ?_
      refine aw_aload (pc' := 28) dX11_shift_26 rfl rfl rfl ?_
      refine aw_get clsAll (pc' := 31) dX11_shift_28 rfl fl_RX11_194 ((hx.2 55 (by decide) (by decide)).trans h0_55) rfl ?_
      refine aw_if_eq (tgt := 42) (pc' := 34) dX11_shift_31 (by decide) rfl (fun _ => ?_) (fun c => absurd (by decide) c)
      refine aw_bipush (v := (-11)) (pc' := 44) dX11_shift_42 rfl (by decide) ?_
      exact aw_ri dX11_shift_44 rfl rfl (Nat.le_of_ble_eq_true rfl) (Nat.le_of_ble_eq_true rfl) ⟨(by first | (simp [sp_shift, cnd, okC, okS, okW, okN, inR, n2_, n3_, n5_, n31_]; done) | (simp_all [sp_shift, cnd, okC, okS, okW, okN, inR, n2_, n3_, n5_, n31_]; done) | skip), sm_rf⟩
    · refine aw_astore (lv' := [_, _, _, _, _, _, _, _]) (pc' := 14) dX11_shift_12 rfl (Nat.le_of_ble_eq_true rfl) rfl rfl ?_
      refine aw_aload (pc' := 16) dX11_shift_14 rfl rfl rfl ?_
      refine aw_ifnull_r (pc' := 19) dX11_shift_16 rfl ?_
      refine aw_aload (pc' := 21) dX11_shift_19 rfl rfl rfl ?_
      refine aw_ifnonnull_r (tgt := 26) dX11_shift_21 (by decide) ?_
      refine aw_aload (pc' := 28) dX11_shift_26 rfl rfl rfl ?_
      refine aw_get clsAll (pc' := 31) dX11_shift_28 rfl fl_RX11_194 ((hx.2 55 (by decide) (by decide)).trans h0_55) rfl ?_
      refine aw_if_eq (tgt := 42) (pc' := 34) dX11_shift_31 (by decide) rfl (fun _ => ?_) (fun c => absurd (by decide) c)
      refine aw_bipush (v := (-11)) (pc' := 44) dX11_shift_42 rfl (by decide) ?_
      exact aw_ri dX11_shift_44 rfl rfl (Nat.le_of_ble_eq_true rfl) (Nat.le_of_ble_eq_true rfl) ⟨(by first | (simp [sp_shift, cnd, okC, okS, okW, okN, inR, n2_, n3_, n5_, n31_]; done) | (simp_all [sp_shift, cnd, okC, okS, okW, okN, inR, n2_, n3_, n5_, n31_]; done) | skip), sm_rf⟩
    · refine aw_astore (lv' := [_, _, _, _, _, _, _, _]) (pc' := 14) dX11_shift_12 rfl (Nat.le_of_ble_eq_true rfl) rfl rfl ?_
      refine aw_aload (pc' := 16) dX11_shift_14 rfl rfl rfl ?_
      refine aw_ifnull_r (pc' := 19) dX11_shift_16 rfl ?_
      refine aw_aload (pc' := 21) dX11_shift_19 rfl rfl rfl ?_
      refine aw_ifnonnull_r (tgt := 26) dX11_shift_21 (by decide) ?_
      refine aw_aload (pc' := 28) dX11_shift_26 rfl rfl rfl ?_
      refine aw_get clsAll (pc' := 31) dX11_shift_28 rfl fl_RX11_194 ((hx.2 55 (by decide) (by decide)).trans h0_55) rfl ?_
      refine aw_if_eq (tgt := 42) (pc' := 34) dX11_shift_31 (by decide) rfl (fun _ => ?_) (fun c => absurd (by decide) c)
      refine aw_bipush (v := (-11)) (pc' := 44) dX11_shift_42 rfl (by decide) ?_
      exact aw_ri dX11_shift_44 rfl rfl (Nat.le_of_ble_eq_true rfl) (Nat.le_of_ble_eq_true rfl) ⟨(by first | (simp [sp_shift, cnd, okC, okS, okW, okN, inR, n2_, n3_, n5_, n31_]; done) | (simp_all [sp_shift, cnd, okC, okS, okW, okN, inR, n2_, n3_, n5_, n31_]; done) | skip), sm_rf⟩
    · refine aw_astore (lv' := [_, _, _, _, _, _, _, _]) (pc' := 14) dX11_shift_12 rfl (Nat.le_of_ble_eq_true rfl) rfl rfl ?_
      refine aw_aload (pc' := 16) dX11_shift_14 rfl rfl rfl ?_
      refine aw_ifnull_r (pc' := 19) dX11_shift_16 rfl ?_
      refine aw_aload (pc' := 21) dX11_shift_19 rfl rfl rfl ?_
      refine aw_ifnonnull_r (tgt := 26) dX11_shift_21 (by decide) ?_
      refine aw_aload (pc' := 28) dX11_shift_26 rfl rfl rfl ?_
      refine aw_get clsAll (pc' := 31) dX11_shift_28 rfl fl_RX11_194 ((hx.2 55 (by decide) (by decide)).trans h0_55) rfl ?_
      refine aw_if_eq (tgt := 42) (pc' := 34) dX11_shift_31 (by decide) rfl (fun _ => ?_) (fun c => absurd (by decide) c)
      refine aw_bipush (v := (-11)) (pc' := 44) dX11_shift_42 rfl (by decide) ?_
      exact aw_ri dX11_shift_44 rfl rfl (Nat.le_of_ble_eq_true rfl) (Nat.le_of_ble_eq_true rfl) ⟨(by first | (simp [sp_shift, cnd, okC, okS, okW, okN, inR, n2_, n3_, n5_, n31_]; done) | (simp_all [sp_shift, cnd, okC, okS, okW, okN, inR, n2_, n3_, n5_, n31_]; done) | skip), sm_rf⟩
    · refine aw_astore (lv' := [_, _, _, _, _, _, _, _]) (pc' := 14) dX11_shift_12 rfl (Nat.le_of_ble_eq_true rfl) rfl rfl ?_
      refine aw_aload (pc' := 16) dX11_shift_14 rfl rfl rfl ?_
      refine aw_ifnull_r (pc' := 19) dX11_shift_16 rfl ?_
      refine aw_aload (pc' := 21) dX11_shift_19 rfl rfl rfl ?_
      refine aw_ifnonnull_r (tgt := 26) dX11_shift_21 (by decide) ?_
      refine aw_aload (pc' := 28) dX11_shift_26 rfl rfl rfl ?_
      refine aw_get clsAll (pc' := 31) dX11_shift_28 rfl fl_RX11_194 ((hx.2 55 (by decide) (by decide)).trans h0_55) rfl ?_
      refine aw_if_eq (tgt := 42) (pc' := 34) dX11_shift_31 (by decide) rfl (fun _ => ?_) (fun c => absurd (by decide) c)
      refine aw_bipush (v := (-11)) (pc' := 44) dX11_shift_42 rfl (by decide) ?_
      exact aw_ri dX11_shift_44 rfl rfl (Nat.le_of_ble_eq_true rfl) (Nat.le_of_ble_eq_true rfl) ⟨(by first | (simp [sp_shift, cnd, okC, okS, okW, okN, inR, n2_, n3_, n5_, n31_]; done) | (simp_all [sp_shift, cnd, okC, okS, okW, okN, inR, n2_, n3_, n5_, n31_]; done) | skip), sm_rf⟩
    · refine aw_astore (lv' := [_, _, _, _, _, _, _, _]) (pc' := 14) dX11_shift_12 rfl (Nat.le_of_ble_eq_true rfl) rfl rfl ?_
      refine aw_aload (pc' := 16) dX11_shift_14 rfl rfl rfl ?_
      refine aw_ifnull_r (pc' := 19) dX11_shift_16 rfl ?_
      refine aw_aload (pc' := 21) dX11_shift_19 rfl rfl rfl ?_
      refine aw_ifnonnull_r (tgt := 26) dX11_shift_21 (by decide) ?_
      refine aw_aload (pc' := 28) dX11_shift_26 rfl rfl rfl ?_
      refine aw_get clsAll (pc' := 31) dX11_shift_28 rfl fl_RX11_194 ((hx.2 55 (by decide) (by decide)).trans h0_55) rfl ?_
      refine aw_if_eq (tgt := 42) (pc' := 34) dX11_shift_31 (by decide) rfl (fun _ => ?_) (fun c => absurd (by decide) c)
      refine aw_bipush (v := (-11)) (pc' := 44) dX11_shift_42 rfl (by decide) ?_
      exact aw_ri dX11_shift_44 rfl rfl (Nat.le_of_ble_eq_true rfl) (Nat.le_of_ble_eq_true rfl) ⟨(by first | (simp [sp_shift, cnd, okC, okS, okW, okN, inR, n2_, n3_, n5_, n31_]; done) | (simp_all [sp_shift, cnd, okC, okS, okW, okN, inR, n2_, n3_, n5_, n31_]; done) | skip), sm_rf⟩
    · refine aw_astore (lv' := [_, _, _, _, _, _, _, _]) (pc' := 14) dX11_shift_12 rfl (Nat.le_of_ble_eq_true rfl) rfl rfl ?_
      refine aw_aload (pc' := 16) dX11_shift_14 rfl rfl rfl ?_
      refine aw_ifnull_r (pc' := 19) dX11_shift_16 rfl ?_
      refine aw_aload (pc' := 21) dX11_shift_19 rfl rfl rfl ?_
      refine aw_ifnonnull_n (pc' := 24) dX11_shift_21 rfl ?_
      refine aw_iconst (v := (-1)) (pc' := 25) dX11_shift_24 rfl (by decide) ?_
      exact aw_ri dX11_shift_25 rfl rfl (Nat.le_of_ble_eq_true rfl) (Nat.le_of_ble_eq_true rfl) ⟨(by first | (simp [sp_shift, cnd, okC, okS, okW, okN, inR, n2_, n3_, n5_, n31_, c47, c48]; done) | (simp_all [sp_shift, cnd, okC, okS, okW, okN, inR, n2_, n3_, n5_, n31_]; done) | skip), sm_rf⟩
  · refine aw_astore (lv' := [_, _, _, _, _, _, _, _]) (pc' := 7) dX11_shift_5 rfl (Nat.le_of_ble_eq_true rfl) rfl rfl ?_
    refine aw_aload_n (pc' := 8) dX11_shift_7 rfl rfl rfl ?_
    refine aw_iload_n (pc' := 9) dX11_shift_8 rfl rfl ?_
    have cc50 : AM mX11_shelfOf 0 [.ref 8, .int t] h 0 0 (PA fun r h' => (t < 0 ∧ Value.null = r ∧ h = h') ∨ (t = 0 ∧ Value.ref 55 = r ∧ h = h') ∨ (t = 1 ∧ Value.ref 57 = r ∧ h = h') ∨ (t = 2 ∧ Value.ref 59 = r ∧ h = h') ∨ (t = 3 ∧ Value.ref 61 = r ∧ h = h') ∨ (t = 4 ∧ Value.ref 63 = r ∧ h = h') ∨ (t = 5 ∧ Value.ref 65 = r ∧ h = h') ∨ (¬ (t < 0) ∧ ¬ (t < 6) ∧ Value.null = r ∧ h = h')) := by
      refine am_of (lv := [some (.ref 8), some (.int t)]) rfl (Nat.le_of_ble_eq_true rfl) rfl ?_
      refine aw_iload_n (pc' := 1) dX11_shelfOf_0 rfl rfl ?_
      refine aw_zlt (tgt := 10) (pc' := 4) dX11_shelfOf_1 (by decide) rfl (fun c51 => ?_) (fun c51 => ?_)
      · refine aw_null (pc' := 11) dX11_shelfOf_10 rfl ?_
        refine aw_goto (tgt := 20) dX11_shelfOf_11 (by decide) ?_
        exact aw_ra dX11_shelfOf_20 rfl (Or.inl ⟨_, rfl⟩) rfl (Nat.le_of_ble_eq_true rfl) (Nat.le_of_ble_eq_true rfl) (Or.inl ⟨c51, rfl, rfl⟩)
      · refine aw_iload_n (pc' := 5) dX11_shelfOf_4 rfl rfl ?_
        refine aw_bipush (v := 6) (pc' := 7) dX11_shelfOf_5 rfl (by decide) ?_
        refine aw_clt (tgt := 14) (pc' := 10) dX11_shelfOf_7 (by decide) rfl (fun c52 => ?_) (fun c52 => ?_)
        · refine aw_aload_n (pc' := 15) dX11_shelfOf_14 rfl rfl rfl ?_
          refine aw_get clsAll (pc' := 18) dX11_shelfOf_15 rfl fl_RX11_89 hx.1 rfl ?_
          refine aw_iload_n (pc' := 19) dX11_shelfOf_18 rfl rfl ?_
          rcases six_ c51 c52 with rfl | rfl | rfl | rfl | rfl | rfl
          · refine aw_aald (v := .ref 55) (pc' := 20) dX11_shelfOf_19 rfl ((hx.2 46 (by decide) (by decide)).trans h0_46) (by decide) rfl (vpc (by decide)) rfl ?_
            exact aw_ra dX11_shelfOf_20 rfl (Or.inl ⟨_, rfl⟩) rfl (Nat.le_of_ble_eq_true rfl) (Nat.le_of_ble_eq_true rfl) (Or.inr (Or.inl ⟨rfl, rfl, rfl⟩))
          · refine aw_aald (v := .ref 57) (pc' := 20) dX11_shelfOf_19 rfl ((hx.2 46 (by decide) (by decide)).trans h0_46) (by decide) rfl (vpc (by decide)) rfl ?_
            exact aw_ra dX11_shelfOf_20 rfl (Or.inl ⟨_, rfl⟩) rfl (Nat.le_of_ble_eq_true rfl) (Nat.le_of_ble_eq_true rfl) (Or.inr (Or.inr (Or.inl ⟨rfl, rfl, rfl⟩)))
          · refine aw_aald (v := .ref 59) (pc' := 20) dX11_shelfOf_19 rfl ((hx.2 46 (by decide) (by decide)).trans h0_46) (by decide) rfl (vpc (by decide)) rfl ?_
            exact aw_ra dX11_shelfOf_20 rfl (Or.inl ⟨_, rfl⟩) rfl (Nat.le_of_ble_eq_true rfl) (Nat.le_of_ble_eq_true rfl) (Or.inr (Or.inr (Or.inr (Or.inl ⟨rfl, rfl, rfl⟩))))
          · refine aw_aald (v := .ref 61) (pc' := 20) dX11_shelfOf_19 rfl ((hx.2 46 (by decide) (by decide)).trans h0_46) (by decide) rfl (vpc (by decide)) rfl ?_
            exact aw_ra dX11_shelfOf_20 rfl (Or.inl ⟨_, rfl⟩) rfl (Nat.le_of_ble_eq_true rfl) (Nat.le_of_ble_eq_true rfl) (Or.inr (Or.inr (Or.inr (Or.inr (Or.inl ⟨rfl, rfl, rfl⟩)))))
          · refine aw_aald (v := .ref 63) (pc' := 20) dX11_shelfOf_19 rfl ((hx.2 46 (by decide) (by decide)).trans h0_46) (by decide) rfl (vpc (by decide)) rfl ?_
            exact aw_ra dX11_shelfOf_20 rfl (Or.inl ⟨_, rfl⟩) rfl (Nat.le_of_ble_eq_true rfl) (Nat.le_of_ble_eq_true rfl) (Or.inr (Or.inr (Or.inr (Or.inr (Or.inr (Or.inl ⟨rfl, rfl, rfl⟩))))))
          · refine aw_aald (v := .ref 65) (pc' := 20) dX11_shelfOf_19 rfl ((hx.2 46 (by decide) (by decide)).trans h0_46) (by decide) rfl (vpc (by decide)) rfl ?_
            exact aw_ra dX11_shelfOf_20 rfl (Or.inl ⟨_, rfl⟩) rfl (Nat.le_of_ble_eq_true rfl) (Nat.le_of_ble_eq_true rfl) (Or.inr (Or.inr (Or.inr (Or.inr (Or.inr (Or.inr (Or.inl ⟨rfl, rfl, rfl⟩)))))))
        · refine aw_null (pc' := 11) dX11_shelfOf_10 rfl ?_
          refine aw_goto (tgt := 20) dX11_shelfOf_11 (by decide) ?_
          exact aw_ra dX11_shelfOf_20 rfl (Or.inl ⟨_, rfl⟩) rfl (Nat.le_of_ble_eq_true rfl) (Nat.le_of_ble_eq_true rfl) (Or.inr (Or.inr (Or.inr (Or.inr (Or.inr (Or.inr (Or.inr ⟨c51, c52, rfl, rfl⟩)))))))
    refine aw_callVa (M' := mX11_shelfOf) (nc' := 0) (ns' := 0) (pc' := 12) dX11_shift_9 rfl ml_RX11_190 kX11_shelfOf cc50 hx.1 rfl rfl rfl (Nat.le_of_ble_eq_true rfl) (rok rfl) rfl rfl (fun r56 h56 q56 => ?_)
    rcases q56 with ⟨c53, rfl, rfl⟩ | ⟨rfl, rfl, rfl⟩ | ⟨rfl, rfl, rfl⟩ | ⟨rfl, rfl, rfl⟩ | ⟨rfl, rfl, rfl⟩ | ⟨rfl, rfl, rfl⟩ | ⟨rfl, rfl, rfl⟩ | ⟨c54, c55, rfl, rfl⟩
    · refine aw_astore (lv' := [_, _, _, _, _, _, _, _]) (pc' := 14) dX11_shift_12 rfl (Nat.le_of_ble_eq_true rfl) rfl rfl ?_
      refine aw_aload (pc' := 16) dX11_shift_14 rfl rfl rfl ?_
      refine aw_ifnull_r (pc' := 19) dX11_shift_16 rfl ?_
      refine aw_aload (pc' := 21) dX11_shift_19 rfl rfl rfl ?_
      refine aw_ifnonnull_n (pc' := 24) dX11_shift_21 rfl ?_
      refine aw_iconst (v := (-1)) (pc' := 25) dX11_shift_24 rfl (by decide) ?_
      exact aw_ri dX11_shift_25 rfl rfl (Nat.le_of_ble_eq_true rfl) (Nat.le_of_ble_eq_true rfl) ⟨(by first | (simp [sp_shift, cnd, okC, okS, okW, okN, inR, n2_, n3_, n5_, n31_, c53]; done) | (simp_all [sp_shift, cnd, okC, okS, okW, okN, inR, n2_, n3_, n5_, n31_]; done) | skip), sm_rf⟩
    · refine aw_astore (lv' := [_, _, _, _, _, _, _, _]) (pc' := 14) dX11_shift_12 rfl (Nat.le_of_ble_eq_true rfl) rfl rfl ?_
      refine aw_aload (pc' := 16) dX11_shift_14 rfl rfl rfl ?_
      refine aw_ifnull_r (pc' := 19) dX11_shift_16 rfl ?_
      refine aw_aload (pc' := 21) dX11_shift_19 rfl rfl rfl ?_
      refine aw_ifnonnull_r (tgt := 26) dX11_shift_21 (by decide) ?_
      refine aw_aload (pc' := 28) dX11_shift_26 rfl rfl rfl ?_
      refine aw_get clsAll (pc' := 31) dX11_shift_28 rfl fl_RX11_194 ((hx.2 57 (by decide) (by decide)).trans h0_57) rfl ?_
      refine aw_if_eq (tgt := 42) (pc' := 34) dX11_shift_31 (by decide) rfl (fun _ => ?_) (fun c => absurd (by decide) c)
      refine aw_bipush (v := (-11)) (pc' := 44) dX11_shift_42 rfl (by decide) ?_
      exact aw_ri dX11_shift_44 rfl rfl (Nat.le_of_ble_eq_true rfl) (Nat.le_of_ble_eq_true rfl) ⟨(by first | (simp [sp_shift, cnd, okC, okS, okW, okN, inR, n2_, n3_, n5_, n31_]; done) | (simp_all [sp_shift, cnd, okC, okS, okW, okN, inR, n2_, n3_, n5_, n31_]; done) | skip), sm_rf⟩
    · refine aw_astore (lv' := [_, _, _, _, _, _, _, _]) (pc' := 14) dX11_shift_12 rfl (Nat.le_of_ble_eq_true rfl) rfl rfl ?_
      refine aw_aload (pc' := 16) dX11_shift_14 rfl rfl rfl ?_
      refine aw_ifnull_r (pc' := 19) dX11_shift_16 rfl ?_
      refine aw_aload (pc' := 21) dX11_shift_19 rfl rfl rfl ?_
      refine aw_ifnonnull_r (tgt := 26) dX11_shift_21 (by decide) ?_
      refine aw_aload (pc' := 28) dX11_shift_26 rfl rfl rfl ?_
      refine aw_get clsAll (pc' := 31) dX11_shift_28 rfl fl_RX11_194 ((hx.2 57 (by decide) (by decide)).trans h0_57) rfl ?_
      refine aw_if_eq (tgt := 42) (pc' := 34) dX11_shift_31 (by decide) rfl (fun _ => ?_) (fun c => absurd (by decide) c)
      refine aw_bipush (v := (-11)) (pc' := 44) dX11_shift_42 rfl (by decide) ?_
      exact aw_ri dX11_shift_44 rfl rfl (Nat.le_of_ble_eq_true rfl) (Nat.le_of_ble_eq_true rfl) ⟨(by first | (simp [sp_shift, cnd, okC, okS, okW, okN, inR, n2_, n3_, n5_, n31_]; done) | (simp_all [sp_shift, cnd, okC, okS, okW, okN, inR, n2_, n3_, n5_, n31_]; done) | skip), sm_rf⟩
    · refine aw_astore (lv' := [_, _, _, _, _, _, _, _]) (pc' := 14) dX11_shift_12 rfl (Nat.le_of_ble_eq_true rfl) rfl rfl ?_
      refine aw_aload (pc' := 16) dX11_shift_14 rfl rfl rfl ?_
      refine aw_ifnull_r (pc' := 19) dX11_shift_16 rfl ?_
      refine aw_aload (pc' := 21) dX11_shift_19 rfl rfl rfl ?_
      refine aw_ifnonnull_r (tgt := 26) dX11_shift_21 (by decide) ?_
      refine aw_aload (pc' := 28) dX11_shift_26 rfl rfl rfl ?_
      refine aw_get clsAll (pc' := 31) dX11_shift_28 rfl fl_RX11_194 ((hx.2 57 (by decide) (by decide)).trans h0_57) rfl ?_
      refine aw_if_eq (tgt := 42) (pc' := 34) dX11_shift_31 (by decide) rfl (fun _ => ?_) (fun c => absurd (by decide) c)
      refine aw_bipush (v := (-11)) (pc' := 44) dX11_shift_42 rfl (by decide) ?_
      exact aw_ri dX11_shift_44 rfl rfl (Nat.le_of_ble_eq_true rfl) (Nat.le_of_ble_eq_true rfl) ⟨(by first | (simp [sp_shift, cnd, okC, okS, okW, okN, inR, n2_, n3_, n5_, n31_]; done) | (simp_all [sp_shift, cnd, okC, okS, okW, okN, inR, n2_, n3_, n5_, n31_]; done) | skip), sm_rf⟩
    · refine aw_astore (lv' := [_, _, _, _, _, _, _, _]) (pc' := 14) dX11_shift_12 rfl (Nat.le_of_ble_eq_true rfl) rfl rfl ?_
      refine aw_aload (pc' := 16) dX11_shift_14 rfl rfl rfl ?_
      refine aw_ifnull_r (pc' := 19) dX11_shift_16 rfl ?_
      refine aw_aload (pc' := 21) dX11_shift_19 rfl rfl rfl ?_
      refine aw_ifnonnull_r (tgt := 26) dX11_shift_21 (by decide) ?_
      refine aw_aload (pc' := 28) dX11_shift_26 rfl rfl rfl ?_
      refine aw_get clsAll (pc' := 31) dX11_shift_28 rfl fl_RX11_194 ((hx.2 57 (by decide) (by decide)).trans h0_57) rfl ?_
      refine aw_if_eq (tgt := 42) (pc' := 34) dX11_shift_31 (by decide) rfl (fun _ => ?_) (fun c => absurd (by decide) c)
      refine aw_bipush (v := (-11)) (pc' := 44) dX11_shift_42 rfl (by decide) ?_
      exact aw_ri dX11_shift_44 rfl rfl (Nat.le_of_ble_eq_true rfl) (Nat.le_of_ble_eq_true rfl) ⟨(by first | (simp [sp_shift, cnd, okC, okS, okW, okN, inR, n2_, n3_, n5_, n31_]; done) | (simp_all [sp_shift, cnd, okC, okS, okW, okN, inR, n2_, n3_, n5_, n31_]; done) | skip), sm_rf⟩
    · refine aw_astore (lv' := [_, _, _, _, _, _, _, _]) (pc' := 14) dX11_shift_12 rfl (Nat.le_of_ble_eq_true rfl) rfl rfl ?_
      refine aw_aload (pc' := 16) dX11_shift_14 rfl rfl rfl ?_
      refine aw_ifnull_r (pc' := 19) dX11_shift_16 rfl ?_
      refine aw_aload (pc' := 21) dX11_shift_19 rfl rfl rfl ?_
      refine aw_ifnonnull_r (tgt := 26) dX11_shift_21 (by decide) ?_
      refine aw_aload (pc' := 28) dX11_shift_26 rfl rfl rfl ?_
      refine aw_get clsAll (pc' := 31) dX11_shift_28 rfl fl_RX11_194 ((hx.2 57 (by decide) (by decide)).trans h0_57) rfl ?_
      refine aw_if_eq (tgt := 42) (pc' := 34) dX11_shift_31 (by decide) rfl (fun _ => ?_) (fun c => absurd (by decide) c)
      refine aw_bipush (v := (-11)) (pc' := 44) dX11_shift_42 rfl (by decide) ?_
      exact aw_ri dX11_shift_44 rfl rfl (Nat.le_of_ble_eq_true rfl) (Nat.le_of_ble_eq_true rfl) ⟨(by first | (simp [sp_shift, cnd, okC, okS, okW, okN, inR, n2_, n3_, n5_, n31_]; done) | (simp_all [sp_shift, cnd, okC, okS, okW, okN, inR, n2_, n3_, n5_, n31_]; done) | skip), sm_rf⟩
    · refine aw_astore (lv' := [_, _, _, _, _, _, _, _]) (pc' := 14) dX11_shift_12 rfl (Nat.le_of_ble_eq_true rfl) rfl rfl ?_
      refine aw_aload (pc' := 16) dX11_shift_14 rfl rfl rfl ?_
      refine aw_ifnull_r (pc' := 19) dX11_shift_16 rfl ?_
      refine aw_aload (pc' := 21) dX11_shift_19 rfl rfl rfl ?_
      refine aw_ifnonnull_r (tgt := 26) dX11_shift_21 (by decide) ?_
      refine aw_aload (pc' := 28) dX11_shift_26 rfl rfl rfl ?_
      refine aw_get clsAll (pc' := 31) dX11_shift_28 rfl fl_RX11_194 ((hx.2 57 (by decide) (by decide)).trans h0_57) rfl ?_
      refine aw_if_eq (tgt := 42) (pc' := 34) dX11_shift_31 (by decide) rfl (fun _ => ?_) (fun c => absurd (by decide) c)
      refine aw_bipush (v := (-11)) (pc' := 44) dX11_shift_42 rfl (by decide) ?_
      exact aw_ri dX11_shift_44 rfl rfl (Nat.le_of_ble_eq_true rfl) (Nat.le_of_ble_eq_true rfl) ⟨(by first | (simp [sp_shift, cnd, okC, okS, okW, okN, inR, n2_, n3_, n5_, n31_]; done) | (simp_all [sp_shift, cnd, okC, okS, okW, okN, inR, n2_, n3_, n5_, n31_]; done) | skip), sm_rf⟩
    · refine aw_astore (lv' := [_, _, _, _, _, _, _, _]) (pc' := 14) dX11_shift_12 rfl (Nat.le_of_ble_eq_true rfl) rfl rfl ?_
      refine aw_aload (pc' := 16) dX11_shift_14 rfl rfl rfl ?_
      refine aw_ifnull_r (pc' := 19) dX11_shift_16 rfl ?_
      refine aw_aload (pc' := 21) dX11_shift_19 rfl rfl rfl ?_
      refine aw_ifnonnull_n (pc' := 24) dX11_shift_21 rfl ?_
      refine aw_iconst (v := (-1)) (pc' := 25) dX11_shift_24 rfl (by decide) ?_
      exact aw_ri dX11_shift_25 rfl rfl (Nat.le_of_ble_eq_true rfl) (Nat.le_of_ble_eq_true rfl) ⟨(by first | (simp [sp_shift, cnd, okC, okS, okW, okN, inR, n2_, n3_, n5_, n31_, c54, c55]; done) | (simp_all [sp_shift, cnd, okC, okS, okW, okN, inR, n2_, n3_, n5_, n31_]; done) | skip), sm_rf⟩
  · refine aw_astore (lv' := [_, _, _, _, _, _, _, _]) (pc' := 7) dX11_shift_5 rfl (Nat.le_of_ble_eq_true rfl) rfl rfl ?_
    refine aw_aload_n (pc' := 8) dX11_shift_7 rfl rfl rfl ?_
    refine aw_iload_n (pc' := 9) dX11_shift_8 rfl rfl ?_
    have cc57 : AM mX11_shelfOf 0 [.ref 8, .int t] h 0 0 (PA fun r h' => (t < 0 ∧ Value.null = r ∧ h = h') ∨ (t = 0 ∧ Value.ref 55 = r ∧ h = h') ∨ (t = 1 ∧ Value.ref 57 = r ∧ h = h') ∨ (t = 2 ∧ Value.ref 59 = r ∧ h = h') ∨ (t = 3 ∧ Value.ref 61 = r ∧ h = h') ∨ (t = 4 ∧ Value.ref 63 = r ∧ h = h') ∨ (t = 5 ∧ Value.ref 65 = r ∧ h = h') ∨ (¬ (t < 0) ∧ ¬ (t < 6) ∧ Value.null = r ∧ h = h')) := by
      refine am_of (lv := [some (.ref 8), some (.int t)]) rfl (Nat.le_of_ble_eq_true rfl) rfl ?_
      refine aw_iload_n (pc' := 1) dX11_shelfOf_0 rfl rfl ?_
      refine aw_zlt (tgt := 10) (pc' := 4) dX11_shelfOf_1 (by decide) rfl (fun c58 => ?_) (fun c58 => ?_)
      · refine aw_null (pc' := 11) dX11_shelfOf_10 rfl ?_
        refine aw_goto (tgt := 20) dX11_shelfOf_11 (by decide) ?_
        exact aw_ra dX11_shelfOf_20 rfl (Or.inl ⟨_, rfl⟩) rfl (Nat.le_of_ble_eq_true rfl) (Nat.le_of_ble_eq_true rfl) (Or.inl ⟨c58, rfl, rfl⟩)
      · refine aw_iload_n (pc' := 5) dX11_shelfOf_4 rfl rfl ?_
        refine aw_bipush (v := 6) (pc' := 7) dX11_shelfOf_5 rfl (by decide) ?_
        refine aw_clt (tgt := 14) (pc' := 10) dX11_shelfOf_7 (by decide) rfl (fun c59 => ?_) (fun c59 => ?_)
        · refine aw_aload_n (pc' := 15) dX11_shelfOf_14 rfl rfl rfl ?_
          refine aw_get clsAll (pc' := 18) dX11_shelfOf_15 rfl fl_RX11_89 hx.1 rfl ?_
          refine aw_iload_n (pc' := 19) dX11_shelfOf_18 rfl rfl ?_
          rcases six_ c58 c59 with rfl | rfl | rfl | rfl | rfl | rfl
          · refine aw_aald (v := .ref 55) (pc' := 20) dX11_shelfOf_19 rfl ((hx.2 46 (by decide) (by decide)).trans h0_46) (by decide) rfl (vpc (by decide)) rfl ?_
            exact aw_ra dX11_shelfOf_20 rfl (Or.inl ⟨_, rfl⟩) rfl (Nat.le_of_ble_eq_true rfl) (Nat.le_of_ble_eq_true rfl) (Or.inr (Or.inl ⟨rfl, rfl, rfl⟩))
          · refine aw_aald (v := .ref 57) (pc' := 20) dX11_shelfOf_19 rfl ((hx.2 46 (by decide) (by decide)).trans h0_46) (by decide) rfl (vpc (by decide)) rfl ?_
            exact aw_ra dX11_shelfOf_20 rfl (Or.inl ⟨_, rfl⟩) rfl (Nat.le_of_ble_eq_true rfl) (Nat.le_of_ble_eq_true rfl) (Or.inr (Or.inr (Or.inl ⟨rfl, rfl, rfl⟩)))
          · refine aw_aald (v := .ref 59) (pc' := 20) dX11_shelfOf_19 rfl ((hx.2 46 (by decide) (by decide)).trans h0_46) (by decide) rfl (vpc (by decide)) rfl ?_
            exact aw_ra dX11_shelfOf_20 rfl (Or.inl ⟨_, rfl⟩) rfl (Nat.le_of_ble_eq_true rfl) (Nat.le_of_ble_eq_true rfl) (Or.inr (Or.inr (Or.inr (Or.inl ⟨rfl, rfl, rfl⟩))))
          · refine aw_aald (v := .ref 61) (pc' := 20) dX11_shelfOf_19 rfl ((hx.2 46 (by decide) (by decide)).trans h0_46) (by decide) rfl (vpc (by decide)) rfl ?_
            exact aw_ra dX11_shelfOf_20 rfl (Or.inl ⟨_, rfl⟩) rfl (Nat.le_of_ble_eq_true rfl) (Nat.le_of_ble_eq_true rfl) (Or.inr (Or.inr (Or.inr (Or.inr (Or.inl ⟨rfl, rfl, rfl⟩)))))
          · refine aw_aald (v := .ref 63) (pc' := 20) dX11_shelfOf_19 rfl ((hx.2 46 (by decide) (by decide)).trans h0_46) (by decide) rfl (vpc (by decide)) rfl ?_
            exact aw_ra dX11_shelfOf_20 rfl (Or.inl ⟨_, rfl⟩) rfl (Nat.le_of_ble_eq_true rfl) (Nat.le_of_ble_eq_true rfl) (Or.inr (Or.inr (Or.inr (Or.inr (Or.inr (Or.inl ⟨rfl, rfl, rfl⟩))))))
          · refine aw_aald (v := .ref 65) (pc' := 20) dX11_shelfOf_19 rfl ((hx.2 46 (by decide) (by decide)).trans h0_46) (by decide) rfl (vpc (by decide)) rfl ?_
            exact aw_ra dX11_shelfOf_20 rfl (Or.inl ⟨_, rfl⟩) rfl (Nat.le_of_ble_eq_true rfl) (Nat.le_of_ble_eq_true rfl) (Or.inr (Or.inr (Or.inr (Or.inr (Or.inr (Or.inr (Or.inl ⟨rfl, rfl, rfl⟩)))))))
        · refine aw_null (pc' := 11) dX11_shelfOf_10 rfl ?_
          refine aw_goto (tgt := 20) dX11_shelfOf_11 (by decide) ?_
          exact aw_ra dX11_shelfOf_20 rfl (Or.inl ⟨_, rfl⟩) rfl (Nat.le_of_ble_eq_true rfl) (Nat.le_of_ble_eq_true rfl) (Or.inr (Or.inr (Or.inr (Or.inr (Or.inr (Or.inr (Or.inr ⟨c58, c59, rfl, rfl⟩)))))))
    refine aw_callVa (M' := mX11_shelfOf) (nc' := 0) (ns' := 0) (pc' := 12) dX11_shift_9 rfl ml_RX11_190 kX11_shelfOf cc57 hx.1 rfl rfl rfl (Nat.le_of_ble_eq_true rfl) (rok rfl) rfl rfl (fun r63 h63 q63 => ?_)
    rcases q63 with ⟨c60, rfl, rfl⟩ | ⟨rfl, rfl, rfl⟩ | ⟨rfl, rfl, rfl⟩ | ⟨rfl, rfl, rfl⟩ | ⟨rfl, rfl, rfl⟩ | ⟨rfl, rfl, rfl⟩ | ⟨rfl, rfl, rfl⟩ | ⟨c61, c62, rfl, rfl⟩
    · refine aw_astore (lv' := [_, _, _, _, _, _, _, _]) (pc' := 14) dX11_shift_12 rfl (Nat.le_of_ble_eq_true rfl) rfl rfl ?_
      refine aw_aload (pc' := 16) dX11_shift_14 rfl rfl rfl ?_
      refine aw_ifnull_n (tgt := 24) dX11_shift_16 (by decide) ?_
      refine aw_iconst (v := (-1)) (pc' := 25) dX11_shift_24 rfl (by decide) ?_
      exact aw_ri dX11_shift_25 rfl rfl (Nat.le_of_ble_eq_true rfl) (Nat.le_of_ble_eq_true rfl) ⟨(by first | (simp [sp_shift, cnd, okC, okS, okW, okN, inR, n2_, n3_, n5_, n31_, c5, c6, c60]; done) | (simp_all [sp_shift, cnd, okC, okS, okW, okN, inR, n2_, n3_, n5_, n31_]; done) | skip), sm_rf⟩
    · refine aw_astore (lv' := [_, _, _, _, _, _, _, _]) (pc' := 14) dX11_shift_12 rfl (Nat.le_of_ble_eq_true rfl) rfl rfl ?_
      refine aw_aload (pc' := 16) dX11_shift_14 rfl rfl rfl ?_
      refine aw_ifnull_n (tgt := 24) dX11_shift_16 (by decide) ?_
      refine aw_iconst (v := (-1)) (pc' := 25) dX11_shift_24 rfl (by decide) ?_
      exact aw_ri dX11_shift_25 rfl rfl (Nat.le_of_ble_eq_true rfl) (Nat.le_of_ble_eq_true rfl) ⟨(by first | (simp [sp_shift, cnd, okC, okS, okW, okN, inR, n2_, n3_, n5_, n31_, c5, c6]; done) | (simp_all [sp_shift, cnd, okC, okS, okW, okN, inR, n2_, n3_, n5_, n31_]; done) | skip), sm_rf⟩
    · refine aw_astore (lv' := [_, _, _, _, _, _, _, _]) (pc' := 14) dX11_shift_12 rfl (Nat.le_of_ble_eq_true rfl) rfl rfl ?_
      refine aw_aload (pc' := 16) dX11_shift_14 rfl rfl rfl ?_
      refine aw_ifnull_n (tgt := 24) dX11_shift_16 (by decide) ?_
      refine aw_iconst (v := (-1)) (pc' := 25) dX11_shift_24 rfl (by decide) ?_
      exact aw_ri dX11_shift_25 rfl rfl (Nat.le_of_ble_eq_true rfl) (Nat.le_of_ble_eq_true rfl) ⟨(by first | (simp [sp_shift, cnd, okC, okS, okW, okN, inR, n2_, n3_, n5_, n31_, c5, c6]; done) | (simp_all [sp_shift, cnd, okC, okS, okW, okN, inR, n2_, n3_, n5_, n31_]; done) | skip), sm_rf⟩
    · refine aw_astore (lv' := [_, _, _, _, _, _, _, _]) (pc' := 14) dX11_shift_12 rfl (Nat.le_of_ble_eq_true rfl) rfl rfl ?_
      refine aw_aload (pc' := 16) dX11_shift_14 rfl rfl rfl ?_
      refine aw_ifnull_n (tgt := 24) dX11_shift_16 (by decide) ?_
      refine aw_iconst (v := (-1)) (pc' := 25) dX11_shift_24 rfl (by decide) ?_
      exact aw_ri dX11_shift_25 rfl rfl (Nat.le_of_ble_eq_true rfl) (Nat.le_of_ble_eq_true rfl) ⟨(by first | (simp [sp_shift, cnd, okC, okS, okW, okN, inR, n2_, n3_, n5_, n31_, c5, c6]; done) | (simp_all [sp_shift, cnd, okC, okS, okW, okN, inR, n2_, n3_, n5_, n31_]; done) | skip), sm_rf⟩
    · refine aw_astore (lv' := [_, _, _, _, _, _, _, _]) (pc' := 14) dX11_shift_12 rfl (Nat.le_of_ble_eq_true rfl) rfl rfl ?_
      refine aw_aload (pc' := 16) dX11_shift_14 rfl rfl rfl ?_
      refine aw_ifnull_n (tgt := 24) dX11_shift_16 (by decide) ?_
      refine aw_iconst (v := (-1)) (pc' := 25) dX11_shift_24 rfl (by decide) ?_
      exact aw_ri dX11_shift_25 rfl rfl (Nat.le_of_ble_eq_true rfl) (Nat.le_of_ble_eq_true rfl) ⟨(by first | (simp [sp_shift, cnd, okC, okS, okW, okN, inR, n2_, n3_, n5_, n31_, c5, c6]; done) | (simp_all [sp_shift, cnd, okC, okS, okW, okN, inR, n2_, n3_, n5_, n31_]; done) | skip), sm_rf⟩
    · refine aw_astore (lv' := [_, _, _, _, _, _, _, _]) (pc' := 14) dX11_shift_12 rfl (Nat.le_of_ble_eq_true rfl) rfl rfl ?_
      refine aw_aload (pc' := 16) dX11_shift_14 rfl rfl rfl ?_
      refine aw_ifnull_n (tgt := 24) dX11_shift_16 (by decide) ?_
      refine aw_iconst (v := (-1)) (pc' := 25) dX11_shift_24 rfl (by decide) ?_
      exact aw_ri dX11_shift_25 rfl rfl (Nat.le_of_ble_eq_true rfl) (Nat.le_of_ble_eq_true rfl) ⟨(by first | (simp [sp_shift, cnd, okC, okS, okW, okN, inR, n2_, n3_, n5_, n31_, c5, c6]; done) | (simp_all [sp_shift, cnd, okC, okS, okW, okN, inR, n2_, n3_, n5_, n31_]; done) | skip), sm_rf⟩
    · refine aw_astore (lv' := [_, _, _, _, _, _, _, _]) (pc' := 14) dX11_shift_12 rfl (Nat.le_of_ble_eq_true rfl) rfl rfl ?_
      refine aw_aload (pc' := 16) dX11_shift_14 rfl rfl rfl ?_
      refine aw_ifnull_n (tgt := 24) dX11_shift_16 (by decide) ?_
      refine aw_iconst (v := (-1)) (pc' := 25) dX11_shift_24 rfl (by decide) ?_
      exact aw_ri dX11_shift_25 rfl rfl (Nat.le_of_ble_eq_true rfl) (Nat.le_of_ble_eq_true rfl) ⟨(by first | (simp [sp_shift, cnd, okC, okS, okW, okN, inR, n2_, n3_, n5_, n31_, c5, c6]; done) | (simp_all [sp_shift, cnd, okC, okS, okW, okN, inR, n2_, n3_, n5_, n31_]; done) | skip), sm_rf⟩
    · refine aw_astore (lv' := [_, _, _, _, _, _, _, _]) (pc' := 14) dX11_shift_12 rfl (Nat.le_of_ble_eq_true rfl) rfl rfl ?_
      refine aw_aload (pc' := 16) dX11_shift_14 rfl rfl rfl ?_
      refine aw_ifnull_n (tgt := 24) dX11_shift_16 (by decide) ?_
      refine aw_iconst (v := (-1)) (pc' := 25) dX11_shift_24 rfl (by decide) ?_
      exact aw_ri dX11_shift_25 rfl rfl (Nat.le_of_ble_eq_true rfl) (Nat.le_of_ble_eq_true rfl) ⟨(by first | (simp [sp_shift, cnd, okC, okS, okW, okN, inR, n2_, n3_, n5_, n31_, c5, c6, c61, c62]; done) | (simp_all [sp_shift, cnd, okC, okS, okW, okN, inR, n2_, n3_, n5_, n31_]; done) | skip), sm_rf⟩
set_option maxRecDepth 4000 in
theorem x_taken (h : List aE) (hx : Fx 0 h) (hlen : h.length = 126) (s : Int32) (k : Int32) : AM mX11_taken 1 [.ref 8, .int s, .int k] h 0 0 (PI fun r h' => r = sp_taken s k ∧ Sm h h') := by
  refine am_of (lv := [some (.ref 8), some (.int s), some (.int k), none]) rfl (Nat.le_of_ble_eq_true rfl) rfl ?_
  refine aw_aload_n (pc' := 1) dX11_taken_0 rfl rfl rfl ?_
  refine aw_iload_n (pc' := 2) dX11_taken_1 rfl rfl ?_
  have cc1 : AM mX11_shelfOf 0 [.ref 8, .int s] h 0 0 (PA fun r h' => (s < 0 ∧ Value.null = r ∧ h = h') ∨ (s = 0 ∧ Value.ref 55 = r ∧ h = h') ∨ (s = 1 ∧ Value.ref 57 = r ∧ h = h') ∨ (s = 2 ∧ Value.ref 59 = r ∧ h = h') ∨ (s = 3 ∧ Value.ref 61 = r ∧ h = h') ∨ (s = 4 ∧ Value.ref 63 = r ∧ h = h') ∨ (s = 5 ∧ Value.ref 65 = r ∧ h = h') ∨ (¬ (s < 0) ∧ ¬ (s < 6) ∧ Value.null = r ∧ h = h')) := by
    refine am_of (lv := [some (.ref 8), some (.int s)]) rfl (Nat.le_of_ble_eq_true rfl) rfl ?_
    refine aw_iload_n (pc' := 1) dX11_shelfOf_0 rfl rfl ?_
    refine aw_zlt (tgt := 10) (pc' := 4) dX11_shelfOf_1 (by decide) rfl (fun c2 => ?_) (fun c2 => ?_)
    · refine aw_null (pc' := 11) dX11_shelfOf_10 rfl ?_
      refine aw_goto (tgt := 20) dX11_shelfOf_11 (by decide) ?_
      exact aw_ra dX11_shelfOf_20 rfl (Or.inl ⟨_, rfl⟩) rfl (Nat.le_of_ble_eq_true rfl) (Nat.le_of_ble_eq_true rfl) (Or.inl ⟨c2, rfl, rfl⟩)
    · refine aw_iload_n (pc' := 5) dX11_shelfOf_4 rfl rfl ?_
      refine aw_bipush (v := 6) (pc' := 7) dX11_shelfOf_5 rfl (by decide) ?_
      refine aw_clt (tgt := 14) (pc' := 10) dX11_shelfOf_7 (by decide) rfl (fun c3 => ?_) (fun c3 => ?_)
      · refine aw_aload_n (pc' := 15) dX11_shelfOf_14 rfl rfl rfl ?_
        refine aw_get clsAll (pc' := 18) dX11_shelfOf_15 rfl fl_RX11_89 hx.1 rfl ?_
        refine aw_iload_n (pc' := 19) dX11_shelfOf_18 rfl rfl ?_
        rcases six_ c2 c3 with rfl | rfl | rfl | rfl | rfl | rfl
        · refine aw_aald (v := .ref 55) (pc' := 20) dX11_shelfOf_19 rfl ((hx.2 46 (by decide) (by decide)).trans h0_46) (by decide) rfl (vpc (by decide)) rfl ?_
          exact aw_ra dX11_shelfOf_20 rfl (Or.inl ⟨_, rfl⟩) rfl (Nat.le_of_ble_eq_true rfl) (Nat.le_of_ble_eq_true rfl) (Or.inr (Or.inl ⟨rfl, rfl, rfl⟩))
        · refine aw_aald (v := .ref 57) (pc' := 20) dX11_shelfOf_19 rfl ((hx.2 46 (by decide) (by decide)).trans h0_46) (by decide) rfl (vpc (by decide)) rfl ?_
          exact aw_ra dX11_shelfOf_20 rfl (Or.inl ⟨_, rfl⟩) rfl (Nat.le_of_ble_eq_true rfl) (Nat.le_of_ble_eq_true rfl) (Or.inr (Or.inr (Or.inl ⟨rfl, rfl, rfl⟩)))
        · refine aw_aald (v := .ref 59) (pc' := 20) dX11_shelfOf_19 rfl ((hx.2 46 (by decide) (by decide)).trans h0_46) (by decide) rfl (vpc (by decide)) rfl ?_
          exact aw_ra dX11_shelfOf_20 rfl (Or.inl ⟨_, rfl⟩) rfl (Nat.le_of_ble_eq_true rfl) (Nat.le_of_ble_eq_true rfl) (Or.inr (Or.inr (Or.inr (Or.inl ⟨rfl, rfl, rfl⟩))))
        · refine aw_aald (v := .ref 61) (pc' := 20) dX11_shelfOf_19 rfl ((hx.2 46 (by decide) (by decide)).trans h0_46) (by decide) rfl (vpc (by decide)) rfl ?_
          exact aw_ra dX11_shelfOf_20 rfl (Or.inl ⟨_, rfl⟩) rfl (Nat.le_of_ble_eq_true rfl) (Nat.le_of_ble_eq_true rfl) (Or.inr (Or.inr (Or.inr (Or.inr (Or.inl ⟨rfl, rfl, rfl⟩)))))
        · refine aw_aald (v := .ref 63) (pc' := 20) dX11_shelfOf_19 rfl ((hx.2 46 (by decide) (by decide)).trans h0_46) (by decide) rfl (vpc (by decide)) rfl ?_
          exact aw_ra dX11_shelfOf_20 rfl (Or.inl ⟨_, rfl⟩) rfl (Nat.le_of_ble_eq_true rfl) (Nat.le_of_ble_eq_true rfl) (Or.inr (Or.inr (Or.inr (Or.inr (Or.inr (Or.inl ⟨rfl, rfl, rfl⟩))))))
        · refine aw_aald (v := .ref 65) (pc' := 20) dX11_shelfOf_19 rfl ((hx.2 46 (by decide) (by decide)).trans h0_46) (by decide) rfl (vpc (by decide)) rfl ?_
          exact aw_ra dX11_shelfOf_20 rfl (Or.inl ⟨_, rfl⟩) rfl (Nat.le_of_ble_eq_true rfl) (Nat.le_of_ble_eq_true rfl) (Or.inr (Or.inr (Or.inr (Or.inr (Or.inr (Or.inr (Or.inl ⟨rfl, rfl, rfl⟩)))))))
      · refine aw_null (pc' := 11) dX11_shelfOf_10 rfl ?_
        refine aw_goto (tgt := 20) dX11_shelfOf_11 (by decide) ?_
        exact aw_ra dX11_shelfOf_20 rfl (Or.inl ⟨_, rfl⟩) rfl (Nat.le_of_ble_eq_true rfl) (Nat.le_of_ble_eq_true rfl) (Or.inr (Or.inr (Or.inr (Or.inr (Or.inr (Or.inr (Or.inr ⟨c2, c3, rfl, rfl⟩)))))))
  refine aw_callVa (M' := mX11_shelfOf) (nc' := 0) (ns' := 0) (pc' := 5) dX11_taken_2 rfl ml_RX11_190 kX11_shelfOf cc1 hx.1 rfl rfl rfl (Nat.le_of_ble_eq_true rfl) (rok rfl) rfl rfl (fun r7 h7 q7 => ?_)
  rcases q7 with ⟨c4, rfl, rfl⟩ | ⟨rfl, rfl, rfl⟩ | ⟨rfl, rfl, rfl⟩ | ⟨rfl, rfl, rfl⟩ | ⟨rfl, rfl, rfl⟩ | ⟨rfl, rfl, rfl⟩ | ⟨rfl, rfl, rfl⟩ | ⟨c5, c6, rfl, rfl⟩
  · refine aw_astore_n (lv' := [_, _, _, _]) (pc' := 6) dX11_taken_5 rfl (Nat.le_of_ble_eq_true rfl) rfl rfl ?_
    refine aw_aload_n (pc' := 7) dX11_taken_6 rfl rfl rfl ?_
    refine aw_ifnull_n (tgt := 20) dX11_taken_7 (by decide) ?_
    refine aw_iconst (v := (-1)) (pc' := 21) dX11_taken_20 rfl (by decide) ?_
    exact aw_ri dX11_taken_21 rfl rfl (Nat.le_of_ble_eq_true rfl) (Nat.le_of_ble_eq_true rfl) ⟨(by first | (simp [sp_taken, cnd, okC, okS, okW, okN, inR, n2_, n3_, n5_, n31_, c4]; done) | (simp_all [sp_taken, cnd, okC, okS, okW, okN, inR, n2_, n3_, n5_, n31_]; done) | skip), sm_rf⟩
  · refine aw_astore_n (lv' := [_, _, _, _]) (pc' := 6) dX11_taken_5 rfl (Nat.le_of_ble_eq_true rfl) rfl rfl ?_
    refine aw_aload_n (pc' := 7) dX11_taken_6 rfl rfl rfl ?_
    refine aw_ifnull_r (pc' := 10) dX11_taken_7 rfl ?_
    refine aw_iload_n (pc' := 11) dX11_taken_10 rfl rfl ?_
    refine aw_zlt (tgt := 20) (pc' := 14) dX11_taken_11 (by decide) rfl (fun c8 => ?_) (fun c8 => ?_)
    · refine aw_iconst (v := (-1)) (pc' := 21) dX11_taken_20 rfl (by decide) ?_
      exact aw_ri dX11_taken_21 rfl rfl (Nat.le_of_ble_eq_true rfl) (Nat.le_of_ble_eq_true rfl) ⟨(by first | (simp [sp_taken, cnd, okC, okS, okW, okN, inR, n2_, n3_, n5_, n31_, c8]; done) | (simp_all [sp_taken, cnd, okC, okS, okW, okN, inR, n2_, n3_, n5_, n31_]; done) | skip), sm_rf⟩
    · refine aw_iload_n (pc' := 15) dX11_taken_14 rfl rfl ?_
      refine aw_bipush (v := 7) (pc' := 17) dX11_taken_15 rfl (by decide) ?_
      refine aw_cle (tgt := 22) (pc' := 20) dX11_taken_17 (by decide) rfl (fun c9 => ?_) (fun c9 => ?_)
      · refine aw_aload_n (pc' := 23) dX11_taken_22 rfl rfl rfl ?_
        refine aw_get clsAll (pc' := 26) dX11_taken_23 rfl fl_RX11_194 ((hx.2 47 (by decide) (by decide)).trans h0_47) rfl ?_
        refine aw_if_ne (tgt := 32) (pc' := 29) dX11_taken_26 (by decide) rfl (fun c => absurd (by decide) c) (fun _ => ?_)
        refine aw_bipush (v := (-11)) (pc' := 31) dX11_taken_29 rfl (by decide) ?_
        exact aw_ri dX11_taken_31 rfl rfl (Nat.le_of_ble_eq_true rfl) (Nat.le_of_ble_eq_true rfl) ⟨(by first | (simp [sp_taken, cnd, okC, okS, okW, okN, inR, n2_, n3_, n5_, n31_, c8, c9]; done) | (simp_all [sp_taken, cnd, okC, okS, okW, okN, inR, n2_, n3_, n5_, n31_]; done) | skip), sm_rf⟩
      · refine aw_iconst (v := (-1)) (pc' := 21) dX11_taken_20 rfl (by decide) ?_
        exact aw_ri dX11_taken_21 rfl rfl (Nat.le_of_ble_eq_true rfl) (Nat.le_of_ble_eq_true rfl) ⟨(by first | (simp [sp_taken, cnd, okC, okS, okW, okN, inR, n2_, n3_, n5_, n31_, c8, c9]; done) | (simp_all [sp_taken, cnd, okC, okS, okW, okN, inR, n2_, n3_, n5_, n31_]; done) | skip), sm_rf⟩
  · refine aw_astore_n (lv' := [_, _, _, _]) (pc' := 6) dX11_taken_5 rfl (Nat.le_of_ble_eq_true rfl) rfl rfl ?_
    refine aw_aload_n (pc' := 7) dX11_taken_6 rfl rfl rfl ?_
    refine aw_ifnull_r (pc' := 10) dX11_taken_7 rfl ?_
    refine aw_iload_n (pc' := 11) dX11_taken_10 rfl rfl ?_
    refine aw_zlt (tgt := 20) (pc' := 14) dX11_taken_11 (by decide) rfl (fun c10 => ?_) (fun c10 => ?_)
    · refine aw_iconst (v := (-1)) (pc' := 21) dX11_taken_20 rfl (by decide) ?_
      exact aw_ri dX11_taken_21 rfl rfl (Nat.le_of_ble_eq_true rfl) (Nat.le_of_ble_eq_true rfl) ⟨(by first | (simp [sp_taken, cnd, okC, okS, okW, okN, inR, n2_, n3_, n5_, n31_, c10]; done) | (simp_all [sp_taken, cnd, okC, okS, okW, okN, inR, n2_, n3_, n5_, n31_]; done) | skip), sm_rf⟩
    · refine aw_iload_n (pc' := 15) dX11_taken_14 rfl rfl ?_
      refine aw_bipush (v := 7) (pc' := 17) dX11_taken_15 rfl (by decide) ?_
      refine aw_cle (tgt := 22) (pc' := 20) dX11_taken_17 (by decide) rfl (fun c11 => ?_) (fun c11 => ?_)
      · refine aw_aload_n (pc' := 23) dX11_taken_22 rfl rfl rfl ?_
        refine aw_get clsAll (pc' := 26) dX11_taken_23 rfl fl_RX11_194 ((hx.2 49 (by decide) (by decide)).trans h0_49) rfl ?_
        refine aw_if_ne (tgt := 32) (pc' := 29) dX11_taken_26 (by decide) rfl (fun c => absurd (by decide) c) (fun _ => ?_)
        refine aw_bipush (v := (-11)) (pc' := 31) dX11_taken_29 rfl (by decide) ?_
        exact aw_ri dX11_taken_31 rfl rfl (Nat.le_of_ble_eq_true rfl) (Nat.le_of_ble_eq_true rfl) ⟨(by first | (simp [sp_taken, cnd, okC, okS, okW, okN, inR, n2_, n3_, n5_, n31_, c10, c11]; done) | (simp_all [sp_taken, cnd, okC, okS, okW, okN, inR, n2_, n3_, n5_, n31_]; done) | skip), sm_rf⟩
      · refine aw_iconst (v := (-1)) (pc' := 21) dX11_taken_20 rfl (by decide) ?_
        exact aw_ri dX11_taken_21 rfl rfl (Nat.le_of_ble_eq_true rfl) (Nat.le_of_ble_eq_true rfl) ⟨(by first | (simp [sp_taken, cnd, okC, okS, okW, okN, inR, n2_, n3_, n5_, n31_, c10, c11]; done) | (simp_all [sp_taken, cnd, okC, okS, okW, okN, inR, n2_, n3_, n5_, n31_]; done) | skip), sm_rf⟩
  · refine aw_astore_n (lv' := [_, _, _, _]) (pc' := 6) dX11_taken_5 rfl (Nat.le_of_ble_eq_true rfl) rfl rfl ?_
    refine aw_aload_n (pc' := 7) dX11_taken_6 rfl rfl rfl ?_
    refine aw_ifnull_r (pc' := 10) dX11_taken_7 rfl ?_
    refine aw_iload_n (pc' := 11) dX11_taken_10 rfl rfl ?_
    refine aw_zlt (tgt := 20) (pc' := 14) dX11_taken_11 (by decide) rfl (fun c12 => ?_) (fun c12 => ?_)
    · refine aw_iconst (v := (-1)) (pc' := 21) dX11_taken_20 rfl (by decide) ?_
      exact aw_ri dX11_taken_21 rfl rfl (Nat.le_of_ble_eq_true rfl) (Nat.le_of_ble_eq_true rfl) ⟨(by first | (simp [sp_taken, cnd, okC, okS, okW, okN, inR, n2_, n3_, n5_, n31_, c12]; done) | (simp_all [sp_taken, cnd, okC, okS, okW, okN, inR, n2_, n3_, n5_, n31_]; done) | skip), sm_rf⟩
    · refine aw_iload_n (pc' := 15) dX11_taken_14 rfl rfl ?_
      refine aw_bipush (v := 7) (pc' := 17) dX11_taken_15 rfl (by decide) ?_
      refine aw_cle (tgt := 22) (pc' := 20) dX11_taken_17 (by decide) rfl (fun c13 => ?_) (fun c13 => ?_)
      · refine aw_aload_n (pc' := 23) dX11_taken_22 rfl rfl rfl ?_
        refine aw_get clsAll (pc' := 26) dX11_taken_23 rfl fl_RX11_194 ((hx.2 51 (by decide) (by decide)).trans h0_51) rfl ?_
        refine aw_if_ne (tgt := 32) (pc' := 29) dX11_taken_26 (by decide) rfl (fun c => absurd (by decide) c) (fun _ => ?_)
        refine aw_bipush (v := (-11)) (pc' := 31) dX11_taken_29 rfl (by decide) ?_
        exact aw_ri dX11_taken_31 rfl rfl (Nat.le_of_ble_eq_true rfl) (Nat.le_of_ble_eq_true rfl) ⟨(by first | (simp [sp_taken, cnd, okC, okS, okW, okN, inR, n2_, n3_, n5_, n31_, c12, c13]; done) | (simp_all [sp_taken, cnd, okC, okS, okW, okN, inR, n2_, n3_, n5_, n31_]; done) | skip), sm_rf⟩
      · refine aw_iconst (v := (-1)) (pc' := 21) dX11_taken_20 rfl (by decide) ?_
        exact aw_ri dX11_taken_21 rfl rfl (Nat.le_of_ble_eq_true rfl) (Nat.le_of_ble_eq_true rfl) ⟨(by first | (simp [sp_taken, cnd, okC, okS, okW, okN, inR, n2_, n3_, n5_, n31_, c12, c13]; done) | (simp_all [sp_taken, cnd, okC, okS, okW, okN, inR, n2_, n3_, n5_, n31_]; done) | skip), sm_rf⟩
  · refine aw_astore_n (lv' := [_, _, _, _]) (pc' := 6) dX11_taken_5 rfl (Nat.le_of_ble_eq_true rfl) rfl rfl ?_
    refine aw_aload_n (pc' := 7) dX11_taken_6 rfl rfl rfl ?_
    refine aw_ifnull_r (pc' := 10) dX11_taken_7 rfl ?_
    refine aw_iload_n (pc' := 11) dX11_taken_10 rfl rfl ?_
    refine aw_zlt (tgt := 20) (pc' := 14) dX11_taken_11 (by decide) rfl (fun c14 => ?_) (fun c14 => ?_)
    · refine aw_iconst (v := (-1)) (pc' := 21) dX11_taken_20 rfl (by decide) ?_
      exact aw_ri dX11_taken_21 rfl rfl (Nat.le_of_ble_eq_true rfl) (Nat.le_of_ble_eq_true rfl) ⟨(by first | (simp [sp_taken, cnd, okC, okS, okW, okN, inR, n2_, n3_, n5_, n31_, c14]; done) | (simp_all [sp_taken, cnd, okC, okS, okW, okN, inR, n2_, n3_, n5_, n31_]; done) | skip), sm_rf⟩
    · refine aw_iload_n (pc' := 15) dX11_taken_14 rfl rfl ?_
      refine aw_bipush (v := 7) (pc' := 17) dX11_taken_15 rfl (by decide) ?_
      refine aw_cle (tgt := 22) (pc' := 20) dX11_taken_17 (by decide) rfl (fun c15 => ?_) (fun c15 => ?_)
      · refine aw_aload_n (pc' := 23) dX11_taken_22 rfl rfl rfl ?_
        refine aw_get clsAll (pc' := 26) dX11_taken_23 rfl fl_RX11_194 ((hx.2 53 (by decide) (by decide)).trans h0_53) rfl ?_
        refine aw_if_ne (tgt := 32) (pc' := 29) dX11_taken_26 (by decide) rfl (fun c => absurd (by decide) c) (fun _ => ?_)
        refine aw_bipush (v := (-11)) (pc' := 31) dX11_taken_29 rfl (by decide) ?_
        exact aw_ri dX11_taken_31 rfl rfl (Nat.le_of_ble_eq_true rfl) (Nat.le_of_ble_eq_true rfl) ⟨(by first | (simp [sp_taken, cnd, okC, okS, okW, okN, inR, n2_, n3_, n5_, n31_, c14, c15]; done) | (simp_all [sp_taken, cnd, okC, okS, okW, okN, inR, n2_, n3_, n5_, n31_]; done) | skip), sm_rf⟩
      · refine aw_iconst (v := (-1)) (pc' := 21) dX11_taken_20 rfl (by decide) ?_
        exact aw_ri dX11_taken_21 rfl rfl (Nat.le_of_ble_eq_true rfl) (Nat.le_of_ble_eq_true rfl) ⟨(by first | (simp [sp_taken, cnd, okC, okS, okW, okN, inR, n2_, n3_, n5_, n31_, c14, c15]; done) | (simp_all [sp_taken, cnd, okC, okS, okW, okN, inR, n2_, n3_, n5_, n31_]; done) | skip), sm_rf⟩
  · refine aw_astore_n (lv' := [_, _, _, _]) (pc' := 6) dX11_taken_5 rfl (Nat.le_of_ble_eq_true rfl) rfl rfl ?_
    refine aw_aload_n (pc' := 7) dX11_taken_6 rfl rfl rfl ?_
    refine aw_ifnull_r (pc' := 10) dX11_taken_7 rfl ?_
    refine aw_iload_n (pc' := 11) dX11_taken_10 rfl rfl ?_
    refine aw_zlt (tgt := 20) (pc' := 14) dX11_taken_11 (by decide) rfl (fun c16 => ?_) (fun c16 => ?_)
    · refine aw_iconst (v := (-1)) (pc' := 21) dX11_taken_20 rfl (by decide) ?_
      exact aw_ri dX11_taken_21 rfl rfl (Nat.le_of_ble_eq_true rfl) (Nat.le_of_ble_eq_true rfl) ⟨(by first | (simp [sp_taken, cnd, okC, okS, okW, okN, inR, n2_, n3_, n5_, n31_, c16]; done) | (simp_all [sp_taken, cnd, okC, okS, okW, okN, inR, n2_, n3_, n5_, n31_]; done) | skip), sm_rf⟩
    · refine aw_iload_n (pc' := 15) dX11_taken_14 rfl rfl ?_
      refine aw_bipush (v := 7) (pc' := 17) dX11_taken_15 rfl (by decide) ?_
      refine aw_cle (tgt := 22) (pc' := 20) dX11_taken_17 (by decide) rfl (fun c17 => ?_) (fun c17 => ?_)
      · refine aw_aload_n (pc' := 23) dX11_taken_22 rfl rfl rfl ?_
        refine aw_get clsAll (pc' := 26) dX11_taken_23 rfl fl_RX11_194 ((hx.2 55 (by decide) (by decide)).trans h0_55) rfl ?_
        refine aw_if_ne (tgt := 32) (pc' := 29) dX11_taken_26 (by decide) rfl (fun c => absurd (by decide) c) (fun _ => ?_)
        refine aw_bipush (v := (-11)) (pc' := 31) dX11_taken_29 rfl (by decide) ?_
        exact aw_ri dX11_taken_31 rfl rfl (Nat.le_of_ble_eq_true rfl) (Nat.le_of_ble_eq_true rfl) ⟨(by first | (simp [sp_taken, cnd, okC, okS, okW, okN, inR, n2_, n3_, n5_, n31_, c16, c17]; done) | (simp_all [sp_taken, cnd, okC, okS, okW, okN, inR, n2_, n3_, n5_, n31_]; done) | skip), sm_rf⟩
      · refine aw_iconst (v := (-1)) (pc' := 21) dX11_taken_20 rfl (by decide) ?_
        exact aw_ri dX11_taken_21 rfl rfl (Nat.le_of_ble_eq_true rfl) (Nat.le_of_ble_eq_true rfl) ⟨(by first | (simp [sp_taken, cnd, okC, okS, okW, okN, inR, n2_, n3_, n5_, n31_, c16, c17]; done) | (simp_all [sp_taken, cnd, okC, okS, okW, okN, inR, n2_, n3_, n5_, n31_]; done) | skip), sm_rf⟩
  · refine aw_astore_n (lv' := [_, _, _, _]) (pc' := 6) dX11_taken_5 rfl (Nat.le_of_ble_eq_true rfl) rfl rfl ?_
    refine aw_aload_n (pc' := 7) dX11_taken_6 rfl rfl rfl ?_
    refine aw_ifnull_r (pc' := 10) dX11_taken_7 rfl ?_
    refine aw_iload_n (pc' := 11) dX11_taken_10 rfl rfl ?_
    refine aw_zlt (tgt := 20) (pc' := 14) dX11_taken_11 (by decide) rfl (fun c18 => ?_) (fun c18 => ?_)
    · refine aw_iconst (v := (-1)) (pc' := 21) dX11_taken_20 rfl (by decide) ?_
      exact aw_ri dX11_taken_21 rfl rfl (Nat.le_of_ble_eq_true rfl) (Nat.le_of_ble_eq_true rfl) ⟨(by first | (simp [sp_taken, cnd, okC, okS, okW, okN, inR, n2_, n3_, n5_, n31_, c18]; done) | (simp_all [sp_taken, cnd, okC, okS, okW, okN, inR, n2_, n3_, n5_, n31_]; done) | skip), sm_rf⟩
    · refine aw_iload_n (pc' := 15) dX11_taken_14 rfl rfl ?_
      refine aw_bipush (v := 7) (pc' := 17) dX11_taken_15 rfl (by decide) ?_
      refine aw_cle (tgt := 22) (pc' := 20) dX11_taken_17 (by decide) rfl (fun c19 => ?_) (fun c19 => ?_)
      · refine aw_aload_n (pc' := 23) dX11_taken_22 rfl rfl rfl ?_
        refine aw_get clsAll (pc' := 26) dX11_taken_23 rfl fl_RX11_194 ((hx.2 57 (by decide) (by decide)).trans h0_57) rfl ?_
        refine aw_if_ne (tgt := 32) (pc' := 29) dX11_taken_26 (by decide) rfl (fun c => absurd (by decide) c) (fun _ => ?_)
        refine aw_bipush (v := (-11)) (pc' := 31) dX11_taken_29 rfl (by decide) ?_
        exact aw_ri dX11_taken_31 rfl rfl (Nat.le_of_ble_eq_true rfl) (Nat.le_of_ble_eq_true rfl) ⟨(by first | (simp [sp_taken, cnd, okC, okS, okW, okN, inR, n2_, n3_, n5_, n31_, c18, c19]; done) | (simp_all [sp_taken, cnd, okC, okS, okW, okN, inR, n2_, n3_, n5_, n31_]; done) | skip), sm_rf⟩
      · refine aw_iconst (v := (-1)) (pc' := 21) dX11_taken_20 rfl (by decide) ?_
        exact aw_ri dX11_taken_21 rfl rfl (Nat.le_of_ble_eq_true rfl) (Nat.le_of_ble_eq_true rfl) ⟨(by first | (simp [sp_taken, cnd, okC, okS, okW, okN, inR, n2_, n3_, n5_, n31_, c18, c19]; done) | (simp_all [sp_taken, cnd, okC, okS, okW, okN, inR, n2_, n3_, n5_, n31_]; done) | skip), sm_rf⟩
  · refine aw_astore_n (lv' := [_, _, _, _]) (pc' := 6) dX11_taken_5 rfl (Nat.le_of_ble_eq_true rfl) rfl rfl ?_
    refine aw_aload_n (pc' := 7) dX11_taken_6 rfl rfl rfl ?_
    refine aw_ifnull_n (tgt := 20) dX11_taken_7 (by decide) ?_
    refine aw_iconst (v := (-1)) (pc' := 21) dX11_taken_20 rfl (by decide) ?_
    exact aw_ri dX11_taken_21 rfl rfl (Nat.le_of_ble_eq_true rfl) (Nat.le_of_ble_eq_true rfl) ⟨(by first | (simp [sp_taken, cnd, okC, okS, okW, okN, inR, n2_, n3_, n5_, n31_, c5, c6]; done) | (simp_all [sp_taken, cnd, okC, okS, okW, okN, inR, n2_, n3_, n5_, n31_]; done) | skip), sm_rf⟩
set_option maxRecDepth 4000 in
theorem x_count (h : List aE) (hx : Fx 0 h) (hlen : h.length = 126) (w : Int32) : AM mX11_count 0 [.ref 8, .int w] h 0 0 (PI fun r h' => r = sp_count w ∧ Sm h h') := by
  refine am_of (lv := [some (.ref 8), some (.int w)]) rfl (Nat.le_of_ble_eq_true rfl) rfl ?_
  refine aw_iload_n (pc' := 1) dX11_count_0 rfl rfl ?_
  rcases Decidable.em (w = 0) with rfl | s1_0
  · refine aw_tabIn (tgt := 64) (off := 63) dX11_count_1 (by decide) (by decide) (by decide) (by decide) ?_
    refine aw_aload_n (pc' := 65) dX11_count_64 rfl rfl rfl ?_
    refine aw_get clsAll (pc' := 68) dX11_count_65 rfl fl_RX11_28 hx.1 rfl ?_
    refine aw_get clsAll (pc' := 71) dX11_count_68 rfl fl_RX11_381 ((hx.2 15 (by decide) (by decide)).trans h0_15) rfl ?_
    exact aw_ri dX11_count_71 rfl rfl (Nat.le_of_ble_eq_true rfl) (Nat.le_of_ble_eq_true rfl) ⟨(by first | (simp [sp_count, cnd, okC, okS, okW, okN, inR, n3_, n31_]; done) | (simp_all [sp_count, cnd, okC, okS, okW, okN, inR, n3_, n31_]; done) | skip), sm_rf⟩
  rcases Decidable.em (w = 1) with rfl | s1_1
  · refine aw_tabIn (tgt := 72) (off := 71) dX11_count_1 (by decide) (by decide) (by decide) (by decide) ?_
    refine aw_aload_n (pc' := 73) dX11_count_72 rfl rfl rfl ?_
    refine aw_get clsAll (pc' := 76) dX11_count_73 rfl fl_RX11_28 hx.1 rfl ?_
    refine aw_get clsAll (pc' := 79) dX11_count_76 rfl fl_RX11_451 ((hx.2 15 (by decide) (by decide)).trans h0_15) rfl ?_
    exact aw_ri dX11_count_79 rfl rfl (Nat.le_of_ble_eq_true rfl) (Nat.le_of_ble_eq_true rfl) ⟨(by first | (simp [sp_count, cnd, okC, okS, okW, okN, inR, n3_, n31_]; done) | (simp_all [sp_count, cnd, okC, okS, okW, okN, inR, n3_, n31_]; done) | skip), sm_rf⟩
  rcases Decidable.em (w = 2) with rfl | s1_2
  · refine aw_tabIn (tgt := 80) (off := 79) dX11_count_1 (by decide) (by decide) (by decide) (by decide) ?_
    refine aw_aload_n (pc' := 81) dX11_count_80 rfl rfl rfl ?_
    refine aw_get clsAll (pc' := 84) dX11_count_81 rfl fl_RX11_454 hx.1 rfl ?_
    exact aw_ri dX11_count_84 rfl rfl (Nat.le_of_ble_eq_true rfl) (Nat.le_of_ble_eq_true rfl) ⟨(by first | (simp [sp_count, cnd, okC, okS, okW, okN, inR, n3_, n31_]; done) | (simp_all [sp_count, cnd, okC, okS, okW, okN, inR, n3_, n31_]; done) | skip), sm_rf⟩
  rcases Decidable.em (w = 3) with rfl | s1_3
  · refine aw_tabIn (tgt := 85) (off := 84) dX11_count_1 (by decide) (by decide) (by decide) (by decide) ?_
    refine aw_aload_n (pc' := 86) dX11_count_85 rfl rfl rfl ?_
    refine aw_get clsAll (pc' := 89) dX11_count_86 rfl fl_RX11_19 hx.1 rfl ?_
    refine aw_get clsAll (pc' := 92) dX11_count_89 rfl fl_RX11_301 ((hx.2 6 (by decide) (by decide)).trans h0_6) rfl ?_
    exact aw_ri dX11_count_92 rfl rfl (Nat.le_of_ble_eq_true rfl) (Nat.le_of_ble_eq_true rfl) ⟨(by first | (simp [sp_count, cnd, okC, okS, okW, okN, inR, n3_, n31_]; done) | (simp_all [sp_count, cnd, okC, okS, okW, okN, inR, n3_, n31_]; done) | skip), sm_rf⟩
  rcases Decidable.em (w = 4) with rfl | s1_4
  · refine aw_tabIn (tgt := 93) (off := 92) dX11_count_1 (by decide) (by decide) (by decide) (by decide) ?_
    refine aw_aload_n (pc' := 94) dX11_count_93 rfl rfl rfl ?_
    refine aw_get clsAll (pc' := 97) dX11_count_94 rfl fl_RX11_168 hx.1 rfl ?_
    exact aw_ri dX11_count_97 rfl rfl (Nat.le_of_ble_eq_true rfl) (Nat.le_of_ble_eq_true rfl) ⟨(by first | (simp [sp_count, cnd, okC, okS, okW, okN, inR, n3_, n31_]; done) | (simp_all [sp_count, cnd, okC, okS, okW, okN, inR, n3_, n31_]; done) | skip), sm_rf⟩
  rcases Decidable.em (w = 5) with rfl | s1_5
  · refine aw_tabIn (tgt := 98) (off := 97) dX11_count_1 (by decide) (by decide) (by decide) (by decide) ?_
    refine aw_aload_n (pc' := 99) dX11_count_98 rfl rfl rfl ?_
    refine aw_get clsAll (pc' := 102) dX11_count_99 rfl fl_RX11_220 hx.1 rfl ?_
    exact aw_ri dX11_count_102 rfl rfl (Nat.le_of_ble_eq_true rfl) (Nat.le_of_ble_eq_true rfl) ⟨(by first | (simp [sp_count, cnd, okC, okS, okW, okN, inR, n3_, n31_]; done) | (simp_all [sp_count, cnd, okC, okS, okW, okN, inR, n3_, n31_]; done) | skip), sm_rf⟩
  rcases Decidable.em (w = 6) with rfl | s1_6
  · refine aw_tabIn (tgt := 103) (off := 102) dX11_count_1 (by decide) (by decide) (by decide) (by decide) ?_
    refine aw_aload_n (pc' := 104) dX11_count_103 rfl rfl rfl ?_
    refine aw_get clsAll (pc' := 107) dX11_count_104 rfl fl_RX11_267 hx.1 rfl ?_
    exact aw_ri dX11_count_107 rfl rfl (Nat.le_of_ble_eq_true rfl) (Nat.le_of_ble_eq_true rfl) ⟨(by first | (simp [sp_count, cnd, okC, okS, okW, okN, inR, n3_, n31_]; done) | (simp_all [sp_count, cnd, okC, okS, okW, okN, inR, n3_, n31_]; done) | skip), sm_rf⟩
  rcases Decidable.em (w = 7) with rfl | s1_7
  · refine aw_tabIn (tgt := 108) (off := 107) dX11_count_1 (by decide) (by decide) (by decide) (by decide) ?_
    refine aw_aload_n (pc' := 109) dX11_count_108 rfl rfl rfl ?_
    refine aw_get clsAll (pc' := 112) dX11_count_109 rfl fl_RX11_48 hx.1 rfl ?_
    refine aw_get clsAll (pc' := 115) dX11_count_112 rfl fl_RX11_273 ((hx.2 24 (by decide) (by decide)).trans h0_24) rfl ?_
    exact aw_ri dX11_count_115 rfl rfl (Nat.le_of_ble_eq_true rfl) (Nat.le_of_ble_eq_true rfl) ⟨(by first | (simp [sp_count, cnd, okC, okS, okW, okN, inR, n3_, n31_]; done) | (simp_all [sp_count, cnd, okC, okS, okW, okN, inR, n3_, n31_]; done) | skip), sm_rf⟩
  rcases Decidable.em (w = 8) with rfl | s1_8
  · refine aw_tabIn (tgt := 116) (off := 115) dX11_count_1 (by decide) (by decide) (by decide) (by decide) ?_
    refine aw_aload_n (pc' := 117) dX11_count_116 rfl rfl rfl ?_
    refine aw_get clsAll (pc' := 120) dX11_count_117 rfl fl_RX11_457 hx.1 rfl ?_
    exact aw_ri dX11_count_120 rfl rfl (Nat.le_of_ble_eq_true rfl) (Nat.le_of_ble_eq_true rfl) ⟨(by first | (simp [sp_count, cnd, okC, okS, okW, okN, inR, n3_, n31_]; done) | (simp_all [sp_count, cnd, okC, okS, okW, okN, inR, n3_, n31_]; done) | skip), sm_rf⟩
  rcases Decidable.em (w = 9) with rfl | s1_9
  · refine aw_tabIn (tgt := 121) (off := 120) dX11_count_1 (by decide) (by decide) (by decide) (by decide) ?_
    refine aw_aload_n (pc' := 122) dX11_count_121 rfl rfl rfl ?_
    refine aw_get clsAll (pc' := 125) dX11_count_122 rfl fl_RX11_76 hx.1 rfl ?_
    refine aw_get clsAll (pc' := 128) dX11_count_125 rfl fl_RX11_460 ((hx.2 30 (by decide) (by decide)).trans h0_30) rfl ?_
    exact aw_ri dX11_count_128 rfl rfl (Nat.le_of_ble_eq_true rfl) (Nat.le_of_ble_eq_true rfl) ⟨(by first | (simp [sp_count, cnd, okC, okS, okW, okN, inR, n3_, n31_]; done) | (simp_all [sp_count, cnd, okC, okS, okW, okN, inR, n3_, n31_]; done) | skip), sm_rf⟩
  rcases Decidable.em (w = 10) with rfl | s1_10
  · refine aw_tabIn (tgt := 129) (off := 128) dX11_count_1 (by decide) (by decide) (by decide) (by decide) ?_
    refine aw_aload_n (pc' := 130) dX11_count_129 rfl rfl rfl ?_
    refine aw_get clsAll (pc' := 133) dX11_count_130 rfl fl_RX11_76 hx.1 rfl ?_
    refine aw_get clsAll (pc' := 136) dX11_count_133 rfl fl_RX11_310 ((hx.2 30 (by decide) (by decide)).trans h0_30) rfl ?_
    exact aw_ri dX11_count_136 rfl rfl (Nat.le_of_ble_eq_true rfl) (Nat.le_of_ble_eq_true rfl) ⟨(by first | (simp [sp_count, cnd, okC, okS, okW, okN, inR, n3_, n31_]; done) | (simp_all [sp_count, cnd, okC, okS, okW, okN, inR, n3_, n31_]; done) | skip), sm_rf⟩
  rcases Decidable.em (w = 11) with rfl | s1_11
  · refine aw_tabIn (tgt := 137) (off := 136) dX11_count_1 (by decide) (by decide) (by decide) (by decide) ?_
    refine aw_aload_n (pc' := 138) dX11_count_137 rfl rfl rfl ?_
    refine aw_get clsAll (pc' := 141) dX11_count_138 rfl fl_RX11_28 hx.1 rfl ?_
    refine aw_get clsAll (pc' := 144) dX11_count_141 rfl fl_RX11_405 ((hx.2 15 (by decide) (by decide)).trans h0_15) rfl ?_
    exact aw_ri dX11_count_144 rfl rfl (Nat.le_of_ble_eq_true rfl) (Nat.le_of_ble_eq_true rfl) ⟨(by first | (simp [sp_count, cnd, okC, okS, okW, okN, inR, n3_, n31_]; done) | (simp_all [sp_count, cnd, okC, okS, okW, okN, inR, n3_, n31_]; done) | skip), sm_rf⟩
  refine aw_tabOut (tgt := 145) dX11_count_1 (tabo (by have := tne s1_0; have := tne s1_1; have := tne s1_2; have := tne s1_3; have := tne s1_4; have := tne s1_5; have := tne s1_6; have := tne s1_7; have := tne s1_8; have := tne s1_9; have := tne s1_10; have := tne s1_11; simp at *; omega)) (by decide) ?_
  refine aw_iconst (v := (-1)) (pc' := 146) dX11_count_145 rfl (by decide) ?_
  exact aw_ri dX11_count_146 rfl rfl (Nat.le_of_ble_eq_true rfl) (Nat.le_of_ble_eq_true rfl) ⟨(by first | (simp [sp_count, cnd, okC, okS, okW, okN, inR, n3_, n31_, s1_0, s1_1, s1_2, s1_3, s1_4, s1_5, s1_6, s1_7, s1_8, s1_9, s1_10, s1_11]; done) | (simp_all [sp_count, cnd, okC, okS, okW, okN, inR, n3_, n31_]; done) | skip), sm_rf⟩
