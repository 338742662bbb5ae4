set_option maxRecDepth 4000 in
theorem x_watch (h : List aE) (hx : Fx 0 h) (hlen : h.length = 126) (p : Int32) (i : Int32) : AM mX11_watch 2 [.ref 8, .int p, .int i] h 0 0 (PI fun r h' => r = sp_watch p i ∧ Sm h h') := by
  refine am_of (lv := [some (.ref 8), some (.int p), some (.int i)]) rfl (Nat.le_of_ble_eq_true rfl) rfl ?_
  refine aw_iload_n (pc' := 1) dX11_watch_0 rfl rfl ?_
  refine aw_iconst (v := 1) (pc' := 2) dX11_watch_1 rfl (by decide) ?_
  refine aw_clt (tgt := 20) (pc' := 5) dX11_watch_2 (by decide) rfl (fun c1 => ?_) (fun c1 => ?_)
  · refine aw_iconst (v := (-1)) (pc' := 21) dX11_watch_20 rfl (by decide) ?_
    exact aw_ri dX11_watch_21 rfl rfl (Nat.le_of_ble_eq_true rfl) (Nat.le_of_ble_eq_true rfl) ⟨(by first | (simp [sp_watch, cnd, okC, okS, okW, okN, inR, n2_, n3_, n5_, n31_, c1]; done) | (simp_all [sp_watch, cnd, okC, okS, okW, okN, inR, n2_, n3_, n5_, n31_]; done) | skip), sm_rf⟩
  · refine aw_iload_n (pc' := 6) dX11_watch_5 rfl rfl ?_
    refine aw_iconst (v := 3) (pc' := 7) dX11_watch_6 rfl (by decide) ?_
    refine aw_cgt (tgt := 20) (pc' := 10) dX11_watch_7 (by decide) rfl (fun c2 => ?_) (fun c2 => ?_)
    · refine aw_iconst (v := (-1)) (pc' := 21) dX11_watch_20 rfl (by decide) ?_
      exact aw_ri dX11_watch_21 rfl rfl (Nat.le_of_ble_eq_true rfl) (Nat.le_of_ble_eq_true rfl) ⟨(by first | (simp [sp_watch, cnd, okC, okS, okW, okN, inR, n2_, n3_, n5_, n31_, c1, c2]; done) | (simp_all [sp_watch, cnd, okC, okS, okW, okN, inR, n2_, n3_, n5_, n31_]; done) | skip), sm_rf⟩
    · refine aw_iload_n (pc' := 11) dX11_watch_10 rfl rfl ?_
      refine aw_zlt (tgt := 20) (pc' := 14) dX11_watch_11 (by decide) rfl (fun c3 => ?_) (fun c3 => ?_)
      · refine aw_iconst (v := (-1)) (pc' := 21) dX11_watch_20 rfl (by decide) ?_
        exact aw_ri dX11_watch_21 rfl rfl (Nat.le_of_ble_eq_true rfl) (Nat.le_of_ble_eq_true rfl) ⟨(by first | (simp [sp_watch, cnd, okC, okS, okW, okN, inR, n2_, n3_, n5_, n31_, c1, c2, c3]; done) | (simp_all [sp_watch, cnd, okC, okS, okW, okN, inR, n2_, n3_, n5_, n31_]; done) | skip), sm_rf⟩
      · refine aw_iload_n (pc' := 15) dX11_watch_14 rfl rfl ?_
        refine aw_bipush (v := 9) (pc' := 17) dX11_watch_15 rfl (by decide) ?_
        refine aw_cle (tgt := 22) (pc' := 20) dX11_watch_17 (by decide) rfl (fun c4 => ?_) (fun c4 => ?_)
        · refine aw_aload_n (pc' := 23) dX11_watch_22 rfl rfl rfl ?_
          refine aw_get clsAll (pc' := 26) dX11_watch_23 rfl fl_RX11_19 hx.1 rfl ?_
          refine aw_iload_n (pc' := 27) dX11_watch_26 rfl rfl ?_
          refine aw_iload_n (pc' := 28) dX11_watch_27 rfl rfl ?_
          have cc5 : AM mX2_watchesMade 1 [.ref 14, .int p, .int i] h 0 0 (PI fun r h' => (¬ (0 < (3 * p)) ∧ 0 = r ∧ ∃ h10 : List aE, h.set 6 (.inr (2, [.ref 15, .ref 16, .ref 17, .ref 18, .int 0, .ref 19, .ref 20, .int p, .ref 21, .ref 22, .int 0, .int 0, .int 0])) = h10 ∧ ∃ h11 : List aE, h10.set 12 (.inl (0, 9, .inl (fun _ => (-2)))) = h11 ∧ h11 = h') ∨ (0 < (3 * p) ∧ 0 = r ∧ ∃ h13 : List aE, h.set 6 (.inr (2, [.ref 15, .ref 16, .ref 17, .ref 18, .int 0, .ref 19, .ref 20, .int p, .ref 21, .ref 22, .int 0, .int 0, .int 0])) = h13 ∧ ∃ h14 : List aE, h13.set 12 (.inl (0, 9, .inl (fun _ => (-2)))) = h14 ∧ h14 = h')) := by
            refine am_of (lv := [some (.ref 14), some (.int p), some (.int i), none, none, none]) rfl (Nat.le_of_ble_eq_true rfl) rfl ?_
            refine aw_aload_n (pc' := 1) dX2_watchesMade_0 rfl rfl rfl ?_
            refine aw_iload_n (pc' := 2) dX2_watchesMade_1 rfl rfl ?_
            refine aw_putG clsAll (pc' := 5) dX2_watchesMade_2 rfl fl_RX2_54 ((hx.2 6 (by decide) (by decide)).trans h0_6) (Nat.le_of_ble_eq_true rfl) rfl (fun h6 e6 => ?_)
            refine aw_aload_n (pc' := 6) dX2_watchesMade_5 rfl rfl rfl ?_
            refine aw_get clsAll (pc' := 9) dX2_watchesMade_6 rfl fl_RX2_27 (gss e6 ((hx.2 6 (by decide) (by decide)).trans h0_6)) rfl ?_
            refine aw_bipush (v := (-2)) (pc' := 11) dX2_watchesMade_9 rfl (by decide) ?_
            refine aw_callSv (M' := mJ7_fill_53178) (nc' := 0) (ns' := 0) (pc' := 14) dX2_watchesMade_11 rfl ml_RX2_57 kJ7_fill_53178 (c_fill (-2) (gsn e6 (by decide) ((hx.2 12 (by decide) (by decide)).trans h0_12)) (by decide)) rfl rfl (Nat.le_of_ble_eq_true rfl) (rok rfl) rfl rfl (fun h7 q7 => ?_)
            refine aw_iconst (v := 0) (pc' := 15) dX2_watchesMade_14 rfl (by decide) ?_
            refine aw_istore_n (lv' := [_, _, _, _, _, _]) (pc' := 16) dX2_watchesMade_15 rfl (Nat.le_of_ble_eq_true rfl) rfl ?_
            refine aw_iconst (v := 0) (pc' := 17) dX2_watchesMade_16 rfl (by decide) ?_
            refine aw_istore (lv' := [_, _, _, _, _, _]) (pc' := 19) dX2_watchesMade_17 rfl (Nat.le_of_ble_eq_true rfl) rfl ?_
            refine aw_iconst (v := 0) (pc' := 20) dX2_watchesMade_19 rfl (by decide) ?_
            refine aw_istore (lv' := [_, _, _, _, _, _]) (pc' := 22) dX2_watchesMade_20 rfl (Nat.le_of_ble_eq_true rfl) rfl ?_
            refine aw_iload (pc' := 24) dX2_watchesMade_22 rfl rfl ?_
            refine aw_bipush (v := 120) (pc' := 26) dX2_watchesMade_24 rfl (by decide) ?_
            refine aw_cge (tgt := 86) (pc' := 29) dX2_watchesMade_26 (by decide) rfl (fun c => absurd (by decide) c) (fun _ => ?_)
            refine aw_iload_n (pc' := 30) dX2_watchesMade_29 rfl rfl ?_
            refine aw_bipush (v := 9) (pc' := 32) dX2_watchesMade_30 rfl (by decide) ?_
            refine aw_cge (tgt := 86) (pc' := 35) dX2_watchesMade_32 (by decide) rfl (fun c => absurd (by decide) c) (fun _ => ?_)
            refine aw_iload (pc' := 37) dX2_watchesMade_35 rfl rfl ?_
            refine aw_iconst (v := 3) (pc' := 38) dX2_watchesMade_37 rfl (by decide) ?_
            refine aw_iload_n (pc' := 39) dX2_watchesMade_38 rfl rfl ?_
            refine aw_imul (pc' := 40) dX2_watchesMade_39 rfl ?_
            refine aw_cge (tgt := 86) (pc' := 43) dX2_watchesMade_40 (by decide) rfl (fun c8 => ?_) (fun c8 => ?_)
            · refine aw_iload (pc' := 88) dX2_watchesMade_86 rfl rfl ?_
              exact aw_ri dX2_watchesMade_88 rfl rfl (Nat.le_of_ble_eq_true rfl) (Nat.le_of_ble_eq_true rfl) (Or.inl ⟨c8, rfl, h6, e6, h7, q7, rfl⟩)
            · refine aw_aload_n (pc' := 44) dX2_watchesMade_43 rfl rfl rfl ?_
              refine aw_get clsAll (pc' := 47) dX2_watchesMade_44 rfl fl_RX2_21 (gsn q7 (by decide) (gss e6 ((hx.2 6 (by decide) (by decide)).trans h0_6))) rfl ?_
              refine aw_iload (pc' := 49) dX2_watchesMade_47 rfl rfl ?_
              refine aw_iald (v := 0) (pc' := 50) dX2_watchesMade_49 rfl (gsn q7 (by decide) (gsn e6 (by decide) ((hx.2 10 (by decide) (by decide)).trans h0_10))) (vpc (by decide)) rfl ?_
              refine aw_iconst (v := 1) (pc' := 51) dX2_watchesMade_50 rfl (by decide) ?_
              refine aw_icmp_ne (tgt := 80) (pc' := 54) dX2_watchesMade_51 (by decide) rfl (fun _ => ?_) (fun c => absurd c (by decide))
              refine aw_iinc (lv' := [_, _, _, _, _, _]) (pc' := 83) dX2_watchesMade_80 rfl rfl (Nat.le_of_ble_eq_true rfl) rfl ?_
              refine aw_goto (tgt := 22) dX2_watchesMade_83 (by decide) ?_
              refine aw_iload (pc' := 24) dX2_watchesMade_22 rfl rfl ?_
              refine aw_bipush (v := 120) (pc' := 26) dX2_watchesMade_24 rfl (by decide) ?_
              refine aw_cge (tgt := 86) (pc' := 29) dX2_watchesMade_26 (by decide) rfl (fun c => absurd (by decide) c) (fun _ => ?_)
              refine aw_iload_n (pc' := 30) dX2_watchesMade_29 rfl rfl ?_
              refine aw_bipush (v := 9) (pc' := 32) dX2_watchesMade_30 rfl (by decide) ?_
              refine aw_cge (tgt := 86) (pc' := 35) dX2_watchesMade_32 (by decide) rfl (fun c => absurd (by decide) c) (fun _ => ?_)
              refine aw_iload (pc' := 37) dX2_watchesMade_35 rfl rfl ?_
              refine aw_iconst (v := 3) (pc' := 38) dX2_watchesMade_37 rfl (by decide) ?_
              refine aw_iload_n (pc' := 39) dX2_watchesMade_38 rfl rfl ?_
              refine aw_imul (pc' := 40) dX2_watchesMade_39 rfl ?_
              refine aw_cge (tgt := 86) (pc' := 43) dX2_watchesMade_40 (by decide) rfl (fun c => absurd c8 c) (fun _ => ?_)
              refine aw_aload_n (pc' := 44) dX2_watchesMade_43 rfl rfl rfl ?_
              refine aw_get clsAll (pc' := 47) dX2_watchesMade_44 rfl fl_RX2_21 (gsn q7 (by decide) (gss e6 ((hx.2 6 (by decide) (by decide)).trans h0_6))) rfl ?_
              refine aw_iload (pc' := 49) dX2_watchesMade_47 rfl rfl ?_
              refine aw_iald (v := 0) (pc' := 50) dX2_watchesMade_49 rfl (gsn q7 (by decide) (gsn e6 (by decide) ((hx.2 10 (by decide) (by decide)).trans h0_10))) (vpc (by decide)) rfl ?_
              refine aw_iconst (v := 1) (pc' := 51) dX2_watchesMade_50 rfl (by decide) ?_
              refine aw_icmp_ne (tgt := 80) (pc' := 54) dX2_watchesMade_51 (by decide) rfl (fun _ => ?_) (fun c => absurd c (by decide))
              refine aw_iinc (lv' := [_, _, _, _, _, _]) (pc' := 83) dX2_watchesMade_80 rfl rfl (Nat.le_of_ble_eq_true rfl) rfl ?_
              refine aw_goto (tgt := 22) dX2_watchesMade_83 (by decide) ?_
              refine aw_iload (pc' := 24) dX2_watchesMade_22 rfl rfl ?_
              refine aw_bipush (v := 120) (pc' := 26) dX2_watchesMade_24 rfl (by decide) ?_
              refine aw_cge (tgt := 86) (pc' := 29) dX2_watchesMade_26 (by decide) rfl (fun c => absurd (by decide) c) (fun _ => ?_)
              refine aw_iload_n (pc' := 30) dX2_watchesMade_29 rfl rfl ?_
              refine aw_bipush (v := 9) (pc' := 32) dX2_watchesMade_30 rfl (by decide) ?_
              refine aw_cge (tgt := 86) (pc' := 35) dX2_watchesMade_32 (by decide) rfl (fun c => absurd (by decide) c) (fun _ => ?_)
              refine aw_iload (pc' := 37) dX2_watchesMade_35 rfl rfl ?_
              refine aw_iconst (v := 3) (pc' := 38) dX2_watchesMade_37 rfl (by decide) ?_
              refine aw_iload_n (pc' := 39) dX2_watchesMade_38 rfl rfl ?_
              refine aw_imul (pc' := 40) dX2_watchesMade_39 rfl ?_
              refine aw_cge (tgt := 86) (pc' := 43) dX2_watchesMade_40 (by decide) rfl (fun c => absurd c8 c) (fun _ => ?_)
              refine aw_aload_n (pc' := 44) dX2_watchesMade_43 rfl rfl rfl ?_
              refine aw_get clsAll (pc' := 47) dX2_watchesMade_44 rfl fl_RX2_21 (gsn q7 (by decide) (gss e6 ((hx.2 6 (by decide) (by decide)).trans h0_6))) rfl ?_
              refine aw_iload (pc' := 49) dX2_watchesMade_47 rfl rfl ?_
              refine aw_iald (v := 0) (pc' := 50) dX2_watchesMade_49 rfl (gsn q7 (by decide) (gsn e6 (by decide) ((hx.2 10 (by decide) (by decide)).trans h0_10))) (vpc (by decide)) rfl ?_
              refine aw_iconst (v := 1) (pc' := 51) dX2_watchesMade_50 rfl (by decide) ?_
              refine aw_icmp_ne (tgt := 80) (pc' := 54) dX2_watchesMade_51 (by decide) rfl (fun _ => ?_) (fun c => absurd c (by decide))
              refine aw_iinc (lv' := [_, _, _, _, _, _]) (pc' := 83) dX2_watchesMade_80 rfl rfl (Nat.le_of_ble_eq_true rfl) rfl ?_
              refine aw_goto (tgt := 22) dX2_watchesMade_83 (by decide) ?_
              refine aw_iload (pc' := 24) dX2_watchesMade_22 rfl rfl ?_
              refine aw_bipush (v := 120) (pc' := 26) dX2_watchesMade_24 rfl (by decide) ?_
              refine aw_cge (tgt := 86) (pc' := 29) dX2_watchesMade_26 (by decide) rfl (fun c => absurd (by decide) c) (fun _ => ?_)
              refine aw_iload_n (pc' := 30) dX2_watchesMade_29 rfl rfl ?_
              refine aw_bipush (v := 9) (pc' := 32) dX2_watchesMade_30 rfl (by decide) ?_
              refine aw_cge (tgt := 86) (pc' := 35) dX2_watchesMade_32 (by decide) rfl (fun c => absurd (by decide) c) (fun _ => ?_)
              refine aw_iload (pc' := 37) dX2_watchesMade_35 rfl rfl ?_
              refine aw_iconst (v := 3) (pc' := 38) dX2_watchesMade_37 rfl (by decide) ?_
              refine aw_iload_n (pc' := 39) dX2_watchesMade_38 rfl rfl ?_
              refine aw_imul (pc' := 40) dX2_watchesMade_39 rfl ?_
              refine aw_cge (tgt := 86) (pc' := 43) dX2_watchesMade_40 (by decide) rfl (fun c => absurd c8 c) (fun _ => ?_)
              refine aw_aload_n (pc' := 44) dX2_watchesMade_43 rfl rfl rfl ?_
              refine aw_get clsAll (pc' := 47) dX2_watchesMade_44 rfl fl_RX2_21 (gsn q7 (by decide) (gss e6 ((hx.2 6 (by decide) (by decide)).trans h0_6))) rfl ?_
              refine aw_iload (pc' := 49) dX2_watchesMade_47 rfl rfl ?_
              refine aw_iald (v := 0) (pc' := 50) dX2_watchesMade_49 rfl (gsn q7 (by decide) (gsn e6 (by decide) ((hx.2 10 (by decide) (by decide)).trans h0_10))) (vpc (by decide)) rfl ?_
              refine aw_iconst (v := 1) (pc' := 51) dX2_watchesMade_50 rfl (by decide) ?_
              refine aw_icmp_ne (tgt := 80) (pc' := 54) dX2_watchesMade_51 (by decide) rfl (fun _ => ?_) (fun c => absurd c (by decide))
              refine aw_iinc (lv' := [_, _, _, _, _, _]) (pc' := 83) dX2_watchesMade_80 rfl rfl (Nat.le_of_ble_eq_true rfl) rfl ?_
              refine aw_goto (tgt := 22) dX2_watchesMade_83 (by decide) ?_
              refine aw_iload (pc' := 24) dX2_watchesMade_22 rfl rfl ?_
              refine aw_bipush (v := 120) (pc' := 26) dX2_watchesMade_24 rfl (by decide) ?_
              refine aw_cge (tgt := 86) (pc' := 29) dX2_watchesMade_26 (by decide) rfl (fun c => absurd (by decide) c) (fun _ => ?_)
              refine aw_iload_n (pc' := 30) dX2_watchesMade_29 rfl rfl ?_
              refine aw_bipush (v := 9) (pc' := 32) dX2_watchesMade_30 rfl (by decide) ?_
              refine aw_cge (tgt := 86) (pc' := 35) dX2_watchesMade_32 (by decide) rfl (fun c => absurd (by decide) c) (fun _ => ?_)
              refine aw_iload (pc' := 37) dX2_watchesMade_35 rfl rfl ?_
              refine aw_iconst (v := 3) (pc' := 38) dX2_watchesMade_37 rfl (by decide) ?_
              refine aw_iload_n (pc' := 39) dX2_watchesMade_38 rfl rfl ?_
              refine aw_imul (pc' := 40) dX2_watchesMade_39 rfl ?_
              refine aw_cge (tgt := 86) (pc' := 43) dX2_watchesMade_40 (by decide) rfl (fun c => absurd c8 c) (fun _ => ?_)
              refine aw_aload_n (pc' := 44) dX2_watchesMade_43 rfl rfl rfl ?_
              refine aw_get clsAll (pc' := 47) dX2_watchesMade_44 rfl fl_RX2_21 (gsn q7 (by decide) (gss e6 ((hx.2 6 (by decide) (by decide)).trans h0_6))) rfl ?_
              refine aw_iload (pc' := 49) dX2_watchesMade_47 rfl rfl ?_
              refine aw_iald (v := 0) (pc' := 50) dX2_watchesMade_49 rfl (gsn q7 (by decide) (gsn e6 (by decide) ((hx.2 10 (by decide) (by decide)).trans h0_10))) (vpc (by decide)) rfl ?_
              refine aw_iconst (v := 1) (pc' := 51) dX2_watchesMade_50 rfl (by decide) ?_
              refine aw_icmp_ne (tgt := 80) (pc' := 54) dX2_watchesMade_51 (by decide) rfl (fun _ => ?_) (fun c => absurd c (by decide))
              refine aw_iinc (lv' := [_, _, _, _, _, _]) (pc' := 83) dX2_watchesMade_80 rfl rfl (Nat.le_of_ble_eq_true rfl) rfl ?_
              refine aw_goto (tgt := 22) dX2_watchesMade_83 (by decide) ?_
              refine aw_iload (pc' := 24) dX2_watchesMade_22 rfl rfl ?_
              refine aw_bipush (v := 120) (pc' := 26) dX2_watchesMade_24 rfl (by decide) ?_
              refine aw_cge (tgt := 86) (pc' := 29) dX2_watchesMade_26 (by decide) rfl (fun c => absurd (by decide) c) (fun _ => ?_)
              refine aw_iload_n (pc' := 30) dX2_watchesMade_29 rfl rfl ?_
              refine aw_bipush (v := 9) (pc' := 32) dX2_watchesMade_30 rfl (by decide) ?_
              refine aw_cge (tgt := 86) (pc' := 35) dX2_watchesMade_32 (by decide) rfl (fun c => absurd (by decide) c) (fun _ => ?_)
              refine aw_iload (pc' := 37) dX2_watchesMade_35 rfl rfl ?_
              refine aw_iconst (v := 3) (pc' := 38) dX2_watchesMade_37 rfl (by decide) ?_
              refine aw_iload_n (pc' := 39) dX2_watchesMade_38 rfl rfl ?_
              refine aw_imul (pc' := 40) dX2_watchesMade_39 rfl ?_
              refine aw_cge (tgt := 86) (pc' := 43) dX2_watchesMade_40 (by decide) rfl (fun c => absurd c8 c) (fun _ => ?_)
              refine aw_aload_n (pc' := 44) dX2_watchesMade_43 rfl rfl rfl ?_
              refine aw_get clsAll (pc' := 47) dX2_watchesMade_44 rfl fl_RX2_21 (gsn q7 (by decide) (gss e6 ((hx.2 6 (by decide) (by decide)).trans h0_6))) rfl ?_
              refine aw_iload (pc' := 49) dX2_watchesMade_47 rfl rfl ?_
              refine aw_iald (v := 0) (pc' := 50) dX2_watchesMade_49 rfl (gsn q7 (by decide) (gsn e6 (by decide) ((hx.2 10 (by decide) (by decide)).trans h0_10))) (vpc (by decide)) rfl ?_
              refine aw_iconst (v := 1) (pc' := 51) dX2_watchesMade_50 rfl (by decide) ?_
              refine aw_icmp_ne (tgt := 80) (pc' := 54) dX2_watchesMade_51 (by decide) rfl (fun _ => ?_) (fun c => absurd c (by decide))
              refine aw_iinc (lv' := [_, _, _, _, _, _]) (pc' := 83) dX2_watchesMade_80 rfl rfl (Nat.le_of_ble_eq_true rfl) rfl ?_
              refine aw_goto (tgt := 22) dX2_watchesMade_83 (by decide) ?_
              refine aw_iload (pc' := 24) dX2_watchesMade_22 rfl rfl ?_
              refine aw_bipush (v := 120) (pc' := 26) dX2_watchesMade_24 rfl (by decide) ?_
              refine aw_cge (tgt := 86) (pc' := 29) dX2_watchesMade_26 (by decide) rfl (fun c => absurd (by decide) c) (fun _ => ?_)
              refine aw_iload_n (pc' := 30) dX2_watchesMade_29 rfl rfl ?_
              refine aw_bipush (v := 9) (pc' := 32) dX2_watchesMade_30 rfl (by decide) ?_
              refine aw_cge (tgt := 86) (pc' := 35) dX2_watchesMade_32 (by decide) rfl (fun c => absurd (by decide) c) (fun _ => ?_)
              refine aw_iload (pc' := 37) dX2_watchesMade_35 rfl rfl ?_
              refine aw_iconst (v := 3) (pc' := 38) dX2_watchesMade_37 rfl (by decide) ?_
              refine aw_iload_n (pc' := 39) dX2_watchesMade_38 rfl rfl ?_
              refine aw_imul (pc' := 40) dX2_watchesMade_39 rfl ?_
              refine aw_cge (tgt := 86) (pc' := 43) dX2_watchesMade_40 (by decide) rfl (fun c => absurd c8 c) (fun _ => ?_)
              refine aw_aload_n (pc' := 44) dX2_watchesMade_43 rfl rfl rfl ?_
              refine aw_get clsAll (pc' := 47) dX2_watchesMade_44 rfl fl_RX2_21 (gsn q7 (by decide) (gss e6 ((hx.2 6 (by decide) (by decide)).trans h0_6))) rfl ?_
              refine aw_iload (pc' := 49) dX2_watchesMade_47 rfl rfl ?_
              refine aw_iald (v := 0) (pc' := 50) dX2_watchesMade_49 rfl (gsn q7 (by decide) (gsn e6 (by decide) ((hx.2 10 (by decide) (by decide)).trans h0_10))) (vpc (by decide)) rfl ?_
              refine aw_iconst (v := 1) (pc' := 51) dX2_watchesMade_50 rfl (by decide) ?_
              refine aw_icmp_ne (tgt := 80) (pc' := 54) dX2_watchesMade_51 (by decide) rfl (fun _ => ?_) (fun c => absurd c (by decide))
              refine aw_iinc (lv' := [_, _, _, _, _, _]) (pc' := 83) dX2_watchesMade_80 rfl rfl (Nat.le_of_ble_eq_true rfl) rfl ?_
              refine aw_goto (tgt := 22) dX2_watchesMade_83 (by decide) ?_
              refine aw_iload (pc' := 24) dX2_watchesMade_22 rfl rfl ?_
              refine aw_bipush (v := 120) (pc' := 26) dX2_watchesMade_24 rfl (by decide) ?_
              refine aw_cge (tgt := 86) (pc' := 29) dX2_watchesMade_26 (by decide) rfl (fun c => absurd (by decide) c) (fun _ => ?_)
              refine aw_iload_n (pc' := 30) dX2_watchesMade_29 rfl rfl ?_
              refine aw_bipush (v := 9) (pc' := 32) dX2_watchesMade_30 rfl (by decide) ?_
              refine aw_cge (tgt := 86) (pc' := 35) dX2_watchesMade_32 (by decide) rfl (fun c => absurd (by decide) c) (fun _ => ?_)
              refine aw_iload (pc' := 37) dX2_watchesMade_35 rfl rfl ?_
              refine aw_iconst (v := 3) (pc' := 38) dX2_watchesMade_37 rfl (by decide) ?_
              refine aw_iload_n (pc' := 39) dX2_watchesMade_38 rfl rfl ?_
              refine aw_imul (pc' := 40) dX2_watchesMade_39 rfl ?_
              refine aw_cge (tgt := 86) (pc' := 43) dX2_watchesMade_40 (by decide) rfl (fun c => absurd c8 c) (fun _ => ?_)
              refine aw_aload_n (pc' := 44) dX2_watchesMade_43 rfl rfl rfl ?_
              refine aw_get clsAll (pc' := 47) dX2_watchesMade_44 rfl fl_RX2_21 (gsn q7 (by decide) (gss e6 ((hx.2 6 (by decide) (by decide)).trans h0_6))) rfl ?_
              refine aw_iload (pc' := 49) dX2_watchesMade_47 rfl rfl ?_
              refine aw_iald (v := 0) (pc' := 50) dX2_watchesMade_49 rfl (gsn q7 (by decide) (gsn e6 (by decide) ((hx.2 10 (by decide) (by decide)).trans h0_10))) (vpc (by decide)) rfl ?_
              refine aw_iconst (v := 1) (pc' := 51) dX2_watchesMade_50 rfl (by decide) ?_
              refine aw_icmp_ne (tgt := 80) (pc' := 54) dX2_watchesMade_51 (by decide) rfl (fun _ => ?_) (fun c => absurd c (by decide))
              refine aw_iinc (lv' := [_, _, _, _, _, _]) (pc' := 83) dX2_watchesMade_80 rfl rfl (Nat.le_of_ble_eq_true rfl) rfl ?_
              refine aw_goto (tgt := 22) dX2_watchesMade_83 (by decide) ?_
              refine aw_iload (pc' := 24) dX2_watchesMade_22 rfl rfl ?_
              refine aw_bipush (v := 120) (pc' := 26) dX2_watchesMade_24 rfl (by decide) ?_
              refine aw_cge (tgt := 86) (pc' := 29) dX2_watchesMade_26 (by decide) rfl (fun c => absurd (by decide) c) (fun _ => ?_)
              refine aw_iload_n (pc' := 30) dX2_watchesMade_29 rfl rfl ?_
              refine aw_bipush (v := 9) (pc' := 32) dX2_watchesMade_30 rfl (by decide) ?_
              refine aw_cge (tgt := 86) (pc' := 35) dX2_watchesMade_32 (by decide) rfl (fun c => absurd (by decide) c) (fun _ => ?_)
              refine aw_iload (pc' := 37) dX2_watchesMade_35 rfl rfl ?_
              refine aw_iconst (v := 3) (pc' := 38) dX2_watchesMade_37 rfl (by decide) ?_
              refine aw_iload_n (pc' := 39) dX2_watchesMade_38 rfl rfl ?_
              refine aw_imul (pc' := 40) dX2_watchesMade_39 rfl ?_
              refine aw_cge (tgt := 86) (pc' := 43) dX2_watchesMade_40 (by decide) rfl (fun c => absurd c8 c) (fun _ => ?_)
              refine aw_aload_n (pc' := 44) dX2_watchesMade_43 rfl rfl rfl ?_
              refine aw_get clsAll (pc' := 47) dX2_watchesMade_44 rfl fl_RX2_21 (gsn q7 (by decide) (gss e6 ((hx.2 6 (by decide) (by decide)).trans h0_6))) rfl ?_
              refine aw_iload (pc' := 49) dX2_watchesMade_47 rfl rfl ?_
              refine aw_iald (v := 0) (pc' := 50) dX2_watchesMade_49 rfl (gsn q7 (by decide) (gsn e6 (by decide) ((hx.2 10 (by decide) (by decide)).trans h0_10))) (vpc (by decide)) rfl ?_
              refine aw_iconst (v := 1) (pc' := 51) dX2_watchesMade_50 rfl (by decide) ?_
              refine aw_icmp_ne (tgt := 80) (pc' := 54) dX2_watchesMade_51 (by decide) rfl (fun _ => ?_) (fun c => absurd c (by decide))
              refine aw_iinc (lv' := [_, _, _, _, _, _]) (pc' := 83) dX2_watchesMade_80 rfl rfl (Nat.le_of_ble_eq_true rfl) rfl ?_
              refine aw_goto (tgt := 22) dX2_watchesMade_83 (by decide) ?_
              refine aw_iload (pc' := 24) dX2_watchesMade_22 rfl rfl ?_
              refine aw_bipush (v := 120) (pc' := 26) dX2_watchesMade_24 rfl (by decide) ?_
              refine aw_cge (tgt := 86) (pc' := 29) dX2_watchesMade_26 (by decide) rfl (fun c => absurd (by decide) c) (fun _ => ?_)
              refine aw_iload_n (pc' := 30) dX2_watchesMade_29 rfl rfl ?_
              refine aw_bipush (v := 9) (pc' := 32) dX2_watchesMade_30 rfl (by decide) ?_
              refine aw_cge (tgt := 86) (pc' := 35) dX2_watchesMade_32 (by decide) rfl (fun c => absurd (by decide) c) (fun _ => ?_)
              refine aw_iload (pc' := 37) dX2_watchesMade_35 rfl rfl ?_
              refine aw_iconst (v := 3) (pc' := 38) dX2_watchesMade_37 rfl (by decide) ?_
              refine aw_iload_n (pc' := 39) dX2_watchesMade_38 rfl rfl ?_
              refine aw_imul (pc' := 40) dX2_watchesMade_39 rfl ?_
              refine aw_cge (tgt := 86) (pc' := 43) dX2_watchesMade_40 (by decide) rfl (fun c => absurd c8 c) (fun _ => ?_)
              refine aw_aload_n (pc' := 44) dX2_watchesMade_43 rfl rfl rfl ?_
              refine aw_get clsAll (pc' := 47) dX2_watchesMade_44 rfl fl_RX2_21 (gsn q7 (by decide) (gss e6 ((hx.2 6 (by decide) (by decide)).trans h0_6))) rfl ?_
              refine aw_iload (pc' := 49) dX2_watchesMade_47 rfl rfl ?_
              refine aw_iald (v := 0) (pc' := 50) dX2_watchesMade_49 rfl (gsn q7 (by decide) (gsn e6 (by decide) ((hx.2 10 (by decide) (by decide)).trans h0_10))) (vpc (by decide)) rfl ?_
              refine aw_iconst (v := 1) (pc' := 51) dX2_watchesMade_50 rfl (by decide) ?_
              refine aw_icmp_ne (tgt := 80) (pc' := 54) dX2_watchesMade_51 (by decide) rfl (fun _ => ?_) (fun c => absurd c (by decide))
              refine aw_iinc (lv' := [_, _, _, _, _, _]) (pc' := 83) dX2_watchesMade_80 rfl rfl (Nat.le_of_ble_eq_true rfl) rfl ?_
              refine aw_goto (tgt := 22) dX2_watchesMade_83 (by decide) ?_
              refine aw_iload (pc' := 24) dX2_watchesMade_22 rfl rfl ?_
              refine aw_bipush (v := 120) (pc' := 26) dX2_watchesMade_24 rfl (by decide) ?_
              refine aw_cge (tgt := 86) (pc' := 29) dX2_watchesMade_26 (by decide) rfl (fun c => absurd (by decide) c) (fun _ => ?_)
              refine aw_iload_n (pc' := 30) dX2_watchesMade_29 rfl rfl ?_
              refine aw_bipush (v := 9) (pc' := 32) dX2_watchesMade_30 rfl (by decide) ?_
              refine aw_cge (tgt := 86) (pc' := 35) dX2_watchesMade_32 (by decide) rfl (fun c => absurd (by decide) c) (fun _ => ?_)
              refine aw_iload (pc' := 37) dX2_watchesMade_35 rfl rfl ?_
              refine aw_iconst (v := 3) (pc' := 38) dX2_watchesMade_37 rfl (by decide) ?_
              refine aw_iload_n (pc' := 39) dX2_watchesMade_38 rfl rfl ?_
              refine aw_imul (pc' := 40) dX2_watchesMade_39 rfl ?_
              refine aw_cge (tgt := 86) (pc' := 43) dX2_watchesMade_40 (by decide) rfl (fun c => absurd c8 c) (fun _ => ?_)
              refine aw_aload_n (pc' := 44) dX2_watchesMade_43 rfl rfl rfl ?_
              refine aw_get clsAll (pc' := 47) dX2_watchesMade_44 rfl fl_RX2_21 (gsn q7 (by decide) (gss e6 ((hx.2 6 (by decide) (by decide)).trans h0_6))) rfl ?_
              refine aw_iload (pc' := 49) dX2_watchesMade_47 rfl rfl ?_
              refine aw_iald (v := 0) (pc' := 50) dX2_watchesMade_49 rfl (gsn q7 (by decide) (gsn e6 (by decide) ((hx.2 10 (by decide) (by decide)).trans h0_10))) (vpc (by decide)) rfl ?_
              refine aw_iconst (v := 1) (pc' := 51) dX2_watchesMade_50 rfl (by decide) ?_
              refine aw_icmp_ne (tgt := 80) (pc' := 54) dX2_watchesMade_51 (by decide) rfl (fun _ => ?_) (fun c => absurd c (by decide))
              refine aw_iinc (lv' := [_, _, _, _, _, _]) (pc' := 83) dX2_watchesMade_80 rfl rfl (Nat.le_of_ble_eq_true rfl) rfl ?_
              refine aw_goto (tgt := 22) dX2_watchesMade_83 (by decide) ?_
              refine aw_iload (pc' := 24) dX2_watchesMade_22 rfl rfl ?_
              refine aw_bipush (v := 120) (pc' := 26) dX2_watchesMade_24 rfl (by decide) ?_
              refine aw_cge (tgt := 86) (pc' := 29) dX2_watchesMade_26 (by decide) rfl (fun c => absurd (by decide) c) (fun _ => ?_)
              refine aw_iload_n (pc' := 30) dX2_watchesMade_29 rfl rfl ?_
              refine aw_bipush (v := 9) (pc' := 32) dX2_watchesMade_30 rfl (by decide) ?_
              refine aw_cge (tgt := 86) (pc' := 35) dX2_watchesMade_32 (by decide) rfl (fun c => absurd (by decide) c) (fun _ => ?_)
              refine aw_iload (pc' := 37) dX2_watchesMade_35 rfl rfl ?_
              refine aw_iconst (v := 3) (pc' := 38) dX2_watchesMade_37 rfl (by decide) ?_
              refine aw_iload_n (pc' := 39) dX2_watchesMade_38 rfl rfl ?_
              refine aw_imul (pc' := 40) dX2_watchesMade_39 rfl ?_
              refine aw_cge (tgt := 86) (pc' := 43) dX2_watchesMade_40 (by decide) rfl (fun c => absurd c8 c) (fun _ => ?_)
              refine aw_aload_n (pc' := 44) dX2_watchesMade_43 rfl rfl rfl ?_
              refine aw_get clsAll (pc' := 47) dX2_watchesMade_44 rfl fl_RX2_21 (gsn q7 (by decide) (gss e6 ((hx.2 6 (by decide) (by decide)).trans h0_6))) rfl ?_
              refine aw_iload (pc' := 49) dX2_watchesMade_47 rfl rfl ?_
              refine aw_iald (v := 0) (pc' := 50) dX2_watchesMade_49 rfl (gsn q7 (by decide) (gsn e6 (by decide) ((hx.2 10 (by decide) (by decide)).trans h0_10))) (vpc (by decide)) rfl ?_
              refine aw_iconst (v := 1) (pc' := 51) dX2_watchesMade_50 rfl (by decide) ?_
              refine aw_icmp_ne (tgt := 80) (pc' := 54) dX2_watchesMade_51 (by decide) rfl (fun _ => ?_) (fun c => absurd c (by decide))
              refine aw_iinc (lv' := [_, _, _, _, _, _]) (pc' := 83) dX2_watchesMade_80 rfl rfl (Nat.le_of_ble_eq_true rfl) rfl ?_
              refine aw_goto (tgt := 22) dX2_watchesMade_83 (by decide) ?_
              refine aw_iload (pc' := 24) dX2_watchesMade_22 rfl rfl ?_
              refine aw_bipush (v := 120) (pc' := 26) dX2_watchesMade_24 rfl (by decide) ?_
              refine aw_cge (tgt := 86) (pc' := 29) dX2_watchesMade_26 (by decide) rfl (fun c => absurd (by decide) c) (fun _ => ?_)
              refine aw_iload_n (pc' := 30) dX2_watchesMade_29 rfl rfl ?_
              refine aw_bipush (v := 9) (pc' := 32) dX2_watchesMade_30 rfl (by decide) ?_
              refine aw_cge (tgt := 86) (pc' := 35) dX2_watchesMade_32 (by decide) rfl (fun c => absurd (by decide) c) (fun _ => ?_)
              refine aw_iload (pc' := 37) dX2_watchesMade_35 rfl rfl ?_
              refine aw_iconst (v := 3) (pc' := 38) dX2_watchesMade_37 rfl (by decide) ?_
              refine aw_iload_n (pc' := 39) dX2_watchesMade_38 rfl rfl ?_
              refine aw_imul (pc' := 40) dX2_watchesMade_39 rfl ?_
              refine aw_cge (tgt := 86) (pc' := 43) dX2_watchesMade_40 (by decide) rfl (fun c => absurd c8 c) (fun _ => ?_)
              refine aw_aload_n (pc' := 44) dX2_watchesMade_43 rfl rfl rfl ?_
              refine aw_get clsAll (pc' := 47) dX2_watchesMade_44 rfl fl_RX2_21 (gsn q7 (by decide) (gss e6 ((hx.2 6 (by decide) (by decide)).trans h0_6))) rfl ?_
              refine aw_iload (pc' := 49) dX2_watchesMade_47 rfl rfl ?_
              refine aw_iald (v := 0) (pc' := 50) dX2_watchesMade_49 rfl (gsn q7 (by decide) (gsn e6 (by decide) ((hx.2 10 (by decide) (by decide)).trans h0_10))) (vpc (by decide)) rfl ?_
              refine aw_iconst (v := 1) (pc' := 51) dX2_watchesMade_50 rfl (by decide) ?_
              refine aw_icmp_ne (tgt := 80) (pc' := 54) dX2_watchesMade_51 (by decide) rfl (fun _ => ?_) (fun c => absurd c (by decide))
              refine aw_iinc (lv' := [_, _, _, _, _, _]) (pc' := 83) dX2_watchesMade_80 rfl rfl (Nat.le_of_ble_eq_true rfl) rfl ?_
              refine aw_goto (tgt := 22) dX2_watchesMade_83 (by decide) ?_
              refine aw_iload (pc' := 24) dX2_watchesMade_22 rfl rfl ?_
              refine aw_bipush (v := 120) (pc' := 26) dX2_watchesMade_24 rfl (by decide) ?_
              refine aw_cge (tgt := 86) (pc' := 29) dX2_watchesMade_26 (by decide) rfl (fun c => absurd (by decide) c) (fun _ => ?_)
              refine aw_iload_n (pc' := 30) dX2_watchesMade_29 rfl rfl ?_
              refine aw_bipush (v := 9) (pc' := 32) dX2_watchesMade_30 rfl (by decide) ?_
              refine aw_cge (tgt := 86) (pc' := 35) dX2_watchesMade_32 (by decide) rfl (fun c => absurd (by decide) c) (fun _ => ?_)
              refine aw_iload (pc' := 37) dX2_watchesMade_35 rfl rfl ?_
              refine aw_iconst (v := 3) (pc' := 38) dX2_watchesMade_37 rfl (by decide) ?_
              refine aw_iload_n (pc' := 39) dX2_watchesMade_38 rfl rfl ?_
              refine aw_imul (pc' := 40) dX2_watchesMade_39 rfl ?_
              refine aw_cge (tgt := 86) (pc' := 43) dX2_watchesMade_40 (by decide) rfl (fun c => absurd c8 c) (fun _ => ?_)
              refine aw_aload_n (pc' := 44) dX2_watchesMade_43 rfl rfl rfl ?_
              refine aw_get clsAll (pc' := 47) dX2_watchesMade_44 rfl fl_RX2_21 (gsn q7 (by decide) (gss e6 ((hx.2 6 (by decide) (by decide)).trans h0_6))) rfl ?_
              refine aw_iload (pc' := 49) dX2_watchesMade_47 rfl rfl ?_
              refine aw_iald (v := 0) (pc' := 50) dX2_watchesMade_49 rfl (gsn q7 (by decide) (gsn e6 (by decide) ((hx.2 10 (by decide) (by decide)).trans h0_10))) (vpc (by decide)) rfl ?_
              refine aw_iconst (v := 1) (pc' := 51) dX2_watchesMade_50 rfl (by decide) ?_
              refine aw_icmp_ne (tgt := 80) (pc' := 54) dX2_watchesMade_51 (by decide) rfl (fun _ => ?_) (fun c => absurd c (by decide))
              refine aw_iinc (lv' := [_, _, _, _, _, _]) (pc' := 83) dX2_watchesMade_80 rfl rfl (Nat.le_of_ble_eq_true rfl) rfl ?_
              refine aw_goto (tgt := 22) dX2_watchesMade_83 (by decide) ?_
              refine aw_iload (pc' := 24) dX2_watchesMade_22 rfl rfl ?_
              refine aw_bipush (v := 120) (pc' := 26) dX2_watchesMade_24 rfl (by decide) ?_
              refine aw_cge (tgt := 86) (pc' := 29) dX2_watchesMade_26 (by decide) rfl (fun c => absurd (by decide) c) (fun _ => ?_)
              refine aw_iload_n (pc' := 30) dX2_watchesMade_29 rfl rfl ?_
              refine aw_bipush (v := 9) (pc' := 32) dX2_watchesMade_30 rfl (by decide) ?_
              refine aw_cge (tgt := 86) (pc' := 35) dX2_watchesMade_32 (by decide) rfl (fun c => absurd (by decide) c) (fun _ => ?_)
              refine aw_iload (pc' := 37) dX2_watchesMade_35 rfl rfl ?_
              refine aw_iconst (v := 3) (pc' := 38) dX2_watchesMade_37 rfl (by decide) ?_
              refine aw_iload_n (pc' := 39) dX2_watchesMade_38 rfl rfl ?_
              refine aw_imul (pc' := 40) dX2_watchesMade_39 rfl ?_
              refine aw_cge (tgt := 86) (pc' := 43) dX2_watchesMade_40 (by decide) rfl (fun c => absurd c8 c) (fun _ => ?_)
              refine aw_aload_n (pc' := 44) dX2_watchesMade_43 rfl rfl rfl ?_
              refine aw_get clsAll (pc' := 47) dX2_watchesMade_44 rfl fl_RX2_21 (gsn q7 (by decide) (gss e6 ((hx.2 6 (by decide) (by decide)).trans h0_6))) rfl ?_
              refine aw_iload (pc' := 49) dX2_watchesMade_47 rfl rfl ?_
              refine aw_iald (v := 0) (pc' := 50) dX2_watchesMade_49 rfl (gsn q7 (by decide) (gsn e6 (by decide) ((hx.2 10 (by decide) (by decide)).trans h0_10))) (vpc (by decide)) rfl ?_
              refine aw_iconst (v := 1) (pc' := 51) dX2_watchesMade_50 rfl (by decide) ?_
              refine aw_icmp_ne (tgt := 80) (pc' := 54) dX2_watchesMade_51 (by decide) rfl (fun _ => ?_) (fun c => absurd c (by decide))
              refine aw_iinc (lv' := [_, _, _, _, _, _]) (pc' := 83) dX2_watchesMade_80 rfl rfl (Nat.le_of_ble_eq_true rfl) rfl ?_
              refine aw_goto (tgt := 22) dX2_watchesMade_83 (by decide) ?_
              refine aw_iload (pc' := 24) dX2_watchesMade_22 rfl rfl ?_
              refine aw_bipush (v := 120) (pc' := 26) dX2_watchesMade_24 rfl (by decide) ?_
              refine aw_cge (tgt := 86) (pc' := 29) dX2_watchesMade_26 (by decide) rfl (fun c => absurd (by decide) c) (fun _ => ?_)
              refine aw_iload_n (pc' := 30) dX2_watchesMade_29 rfl rfl ?_
              refine aw_bipush (v := 9) (pc' := 32) dX2_watchesMade_30 rfl (by decide) ?_
              refine aw_cge (tgt := 86) (pc' := 35) dX2_watchesMade_32 (by decide) rfl (fun c => absurd (by decide) c) (fun _ => ?_)
              refine aw_iload (pc' := 37) dX2_watchesMade_35 rfl rfl ?_
              refine aw_iconst (v := 3) (pc' := 38) dX2_watchesMade_37 rfl (by decide) ?_
              refine aw_iload_n (pc' := 39) dX2_watchesMade_38 rfl rfl ?_
              refine aw_imul (pc' := 40) dX2_watchesMade_39 rfl ?_
              refine aw_cge (tgt := 86) (pc' := 43) dX2_watchesMade_40 (by decide) rfl (fun c => absurd c8 c) (fun _ => ?_)
              refine aw_aload_n (pc' := 44) dX2_watchesMade_43 rfl rfl rfl ?_
              refine aw_get clsAll (pc' := 47) dX2_watchesMade_44 rfl fl_RX2_21 (gsn q7 (by decide) (gss e6 ((hx.2 6 (by decide) (by decide)).trans h0_6))) rfl ?_
              refine aw_iload (pc' := 49) dX2_watchesMade_47 rfl rfl ?_
              refine aw_iald (v := 0) (pc' := 50) dX2_watchesMade_49 rfl (gsn q7 (by decide) (gsn e6 (by decide) ((hx.2 10 (by decide) (by decide)).trans h0_10))) (vpc (by decide)) rfl ?_
              refine aw_iconst (v := 1) (pc' := 51) dX2_watchesMade_50 rfl (by decide) ?_
              refine aw_icmp_ne (tgt := 80) (pc' := 54) dX2_watchesMade_51 (by decide) rfl (fun _ => ?_) (fun c => absurd c (by decide))
              refine aw_iinc (lv' := [_, _, _, _, _, _]) (pc' := 83) dX2_watchesMade_80 rfl rfl (Nat.le_of_ble_eq_true rfl) rfl ?_
              refine aw_goto (tgt := 22) dX2_watchesMade_83 (by decide) ?_
              refine aw_iload (pc' := 24) dX2_watchesMade_22 rfl rfl ?_
              refine aw_bipush (v := 120) (pc' := 26) dX2_watchesMade_24 rfl (by decide) ?_
              refine aw_cge (tgt := 86) (pc' := 29) dX2_watchesMade_26 (by decide) rfl (fun c => absurd (by decide) c) (fun _ => ?_)
              refine aw_iload_n (pc' := 30) dX2_watchesMade_29 rfl rfl ?_
              refine aw_bipush (v := 9) (pc' := 32) dX2_watchesMade_30 rfl (by decide) ?_
              refine aw_cge (tgt := 86) (pc' := 35) dX2_watchesMade_32 (by decide) rfl (fun c => absurd (by decide) c) (fun _ => ?_)
              refine aw_iload (pc' := 37) dX2_watchesMade_35 rfl rfl ?_
              refine aw_iconst (v := 3) (pc' := 38) dX2_watchesMade_37 rfl (by decide) ?_
              refine aw_iload_n (pc' := 39) dX2_watchesMade_38 rfl rfl ?_
              refine aw_imul (pc' := 40) dX2_watchesMade_39 rfl ?_
              refine aw_cge (tgt := 86) (pc' := 43) dX2_watchesMade_40 (by decide) rfl (fun c => absurd c8 c) (fun _ => ?_)
              refine aw_aload_n (pc' := 44) dX2_watchesMade_43 rfl rfl rfl ?_
              refine aw_get clsAll (pc' := 47) dX2_watchesMade_44 rfl fl_RX2_21 (gsn q7 (by decide) (gss e6 ((hx.2 6 (by decide) (by decide)).trans h0_6))) rfl ?_
              refine aw_iload (pc' := 49) dX2_watchesMade_47 rfl rfl ?_
              refine aw_iald (v := 0) (pc' := 50) dX2_watchesMade_49 rfl (gsn q7 (by decide) (gsn e6 (by decide) ((hx.2 10 (by decide) (by decide)).trans h0_10))) (vpc (by decide)) rfl ?_
              refine aw_iconst (v := 1) (pc' := 51) dX2_watchesMade_50 rfl (by decide) ?_
              refine aw_icmp_ne (tgt := 80) (pc' := 54) dX2_watchesMade_51 (by decide) rfl (fun _ => ?_) (fun c => absurd c (by decide))
              refine aw_iinc (lv' := [_, _, _, _, _, _]) (pc' := 83) dX2_watchesMade_80 rfl rfl (Nat.le_of_ble_eq_true rfl) rfl ?_
              refine aw_goto (tgt := 22) dX2_watchesMade_83 (by decide) ?_
              refine aw_iload (pc' := 24) dX2_watchesMade_22 rfl rfl ?_
              refine aw_bipush (v := 120) (pc' := 26) dX2_watchesMade_24 rfl (by decide) ?_
              refine aw_cge (tgt := 86) (pc' := 29) dX2_watchesMade_26 (by decide) rfl (fun c => absurd (by decide) c) (fun _ => ?_)
              refine aw_iload_n (pc' := 30) dX2_watchesMade_29 rfl rfl ?_
              refine aw_bipush (v := 9) (pc' := 32) dX2_watchesMade_30 rfl (by decide) ?_
              refine aw_cge (tgt := 86) (pc' := 35) dX2_watchesMade_32 (by decide) rfl (fun c => absurd (by decide) c) (fun _ => ?_)
              refine aw_iload (pc' := 37) dX2_watchesMade_35 rfl rfl ?_
              refine aw_iconst (v := 3) (pc' := 38) dX2_watchesMade_37 rfl (by decide) ?_
              refine aw_iload_n (pc' := 39) dX2_watchesMade_38 rfl rfl ?_
              refine aw_imul (pc' := 40) dX2_watchesMade_39 rfl ?_
              refine aw_cge (tgt := 86) (pc' := 43) dX2_watchesMade_40 (by decide) rfl (fun c => absurd c8 c) (fun _ => ?_)
              refine aw_aload_n (pc' := 44) dX2_watchesMade_43 rfl rfl rfl ?_
              refine aw_get clsAll (pc' := 47) dX2_watchesMade_44 rfl fl_RX2_21 (gsn q7 (by decide) (gss e6 ((hx.2 6 (by decide) (by decide)).trans h0_6))) rfl ?_
              refine aw_iload (pc' := 49) dX2_watchesMade_47 rfl rfl ?_
              refine aw_iald (v := 0) (pc' := 50) dX2_watchesMade_49 rfl (gsn q7 (by decide) (gsn e6 (by decide) ((hx.2 10 (by decide) (by decide)).trans h0_10))) (vpc (by decide)) rfl ?_
              refine aw_iconst (v := 1) (pc' := 51) dX2_watchesMade_50 rfl (by decide) ?_
              refine aw_icmp_ne (tgt := 80) (pc' := 54) dX2_watchesMade_51 (by decide) rfl (fun _ => ?_) (fun c => absurd c (by decide))
              refine aw_iinc (lv' := [_, _, _, _, _, _]) (pc' := 83) dX2_watchesMade_80 rfl rfl (Nat.le_of_ble_eq_true rfl) rfl ?_
              refine aw_goto (tgt := 22) dX2_watchesMade_83 (by decide) ?_
              refine aw_iload (pc' := 24) dX2_watchesMade_22 rfl rfl ?_
              refine aw_bipush (v := 120) (pc' := 26) dX2_watchesMade_24 rfl (by decide) ?_
              refine aw_cge (tgt := 86) (pc' := 29) dX2_watchesMade_26 (by decide) rfl (fun c => absurd (by decide) c) (fun _ => ?_)
              refine aw_iload_n (pc' := 30) dX2_watchesMade_29 rfl rfl ?_
              refine aw_bipush (v := 9) (pc' := 32) dX2_watchesMade_30 rfl (by decide) ?_
              refine aw_cge (tgt := 86) (pc' := 35) dX2_watchesMade_32 (by decide) rfl (fun c => absurd (by decide) c) (fun _ => ?_)
              refine aw_iload (pc' := 37) dX2_watchesMade_35 rfl rfl ?_
              refine aw_iconst (v := 3) (pc' := 38) dX2_watchesMade_37 rfl (by decide) ?_
              refine aw_iload_n (pc' := 39) dX2_watchesMade_38 rfl rfl ?_
              refine aw_imul (pc' := 40) dX2_watchesMade_39 rfl ?_
              refine aw_cge (tgt := 86) (pc' := 43) dX2_watchesMade_40 (by decide) rfl (fun c => absurd c8 c) (fun _ => ?_)
              refine aw_aload_n (pc' := 44) dX2_watchesMade_43 rfl rfl rfl ?_
              refine aw_get clsAll (pc' := 47) dX2_watchesMade_44 rfl fl_RX2_21 (gsn q7 (by decide) (gss e6 ((hx.2 6 (by decide) (by decide)).trans h0_6))) rfl ?_
              refine aw_iload (pc' := 49) dX2_watchesMade_47 rfl rfl ?_
              refine aw_iald (v := 0) (pc' := 50) dX2_watchesMade_49 rfl (gsn q7 (by decide) (gsn e6 (by decide) ((hx.2 10 (by decide) (by decide)).trans h0_10))) (vpc (by decide)) rfl ?_
              refine aw_iconst (v := 1) (pc' := 51) dX2_watchesMade_50 rfl (by decide) ?_
              refine aw_icmp_ne (tgt := 80) (pc' := 54) dX2_watchesMade_51 (by decide) rfl (fun _ => ?_) (fun c => absurd c (by decide))
              refine aw_iinc (lv' := [_, _, _, _, _, _]) (pc' := 83) dX2_watchesMade_80 rfl rfl (Nat.le_of_ble_eq_true rfl) rfl ?_
              refine aw_goto (tgt := 22) dX2_watchesMade_83 (by decide) ?_
              refine aw_iload (pc' := 24) dX2_watchesMade_22 rfl rfl ?_
              refine aw_bipush (v := 120) (pc' := 26) dX2_watchesMade_24 rfl (by decide) ?_
              refine aw_cge (tgt := 86) (pc' := 29) dX2_watchesMade_26 (by decide) rfl (fun c => absurd (by decide) c) (fun _ => ?_)
              refine aw_iload_n (pc' := 30) dX2_watchesMade_29 rfl rfl ?_
              refine aw_bipush (v := 9) (pc' := 32) dX2_watchesMade_30 rfl (by decide) ?_
              refine aw_cge (tgt := 86) (pc' := 35) dX2_watchesMade_32 (by decide) rfl (fun c => absurd (by decide) c) (fun _ => ?_)
              refine aw_iload (pc' := 37) dX2_watchesMade_35 rfl rfl ?_
              refine aw_iconst (v := 3) (pc' := 38) dX2_watchesMade_37 rfl (by decide) ?_
              refine aw_iload_n (pc' := 39) dX2_watchesMade_38 rfl rfl ?_
              refine aw_imul (pc' := 40) dX2_watchesMade_39 rfl ?_
              refine aw_cge (tgt := 86) (pc' := 43) dX2_watchesMade_40 (by decide) rfl (fun c => absurd c8 c) (fun _ => ?_)
              refine aw_aload_n (pc' := 44) dX2_watchesMade_43 rfl rfl rfl ?_
              refine aw_get clsAll (pc' := 47) dX2_watchesMade_44 rfl fl_RX2_21 (gsn q7 (by decide) (gss e6 ((hx.2 6 (by decide) (by decide)).trans h0_6))) rfl ?_
              refine aw_iload (pc' := 49) dX2_watchesMade_47 rfl rfl ?_
              refine aw_iald (v := 0) (pc' := 50) dX2_watchesMade_49 rfl (gsn q7 (by decide) (gsn e6 (by decide) ((hx.2 10 (by decide) (by decide)).trans h0_10))) (vpc (by decide)) rfl ?_
              refine aw_iconst (v := 1) (pc' := 51) dX2_watchesMade_50 rfl (by decide) ?_
              refine aw_icmp_ne (tgt := 80) (pc' := 54) dX2_watchesMade_51 (by decide) rfl (fun _ => ?_) (fun c => absurd c (by decide))
              refine aw_iinc (lv' := [_, _, _, _, _, _]) (pc' := 83) dX2_watchesMade_80 rfl rfl (Nat.le_of_ble_eq_true rfl) rfl ?_
              refine aw_goto (tgt := 22) dX2_watchesMade_83 (by decide) ?_
              refine aw_iload (pc' := 24) dX2_watchesMade_22 rfl rfl ?_
              refine aw_bipush (v := 120) (pc' := 26) dX2_watchesMade_24 rfl (by decide) ?_
              refine aw_cge (tgt := 86) (pc' := 29) dX2_watchesMade_26 (by decide) rfl (fun c => absurd (by decide) c) (fun _ => ?_)
              refine aw_iload_n (pc' := 30) dX2_watchesMade_29 rfl rfl ?_
              refine aw_bipush (v := 9) (pc' := 32) dX2_watchesMade_30 rfl (by decide) ?_
              refine aw_cge (tgt := 86) (pc' := 35) dX2_watchesMade_32 (by decide) rfl (fun c => absurd (by decide) c) (fun _ => ?_)
              refine aw_iload (pc' := 37) dX2_watchesMade_35 rfl rfl ?_
              refine aw_iconst (v := 3) (pc' := 38) dX2_watchesMade_37 rfl (by decide) ?_
              refine aw_iload_n (pc' := 39) dX2_watchesMade_38 rfl rfl ?_
              refine aw_imul (pc' := 40) dX2_watchesMade_39 rfl ?_
              refine aw_cge (tgt := 86) (pc' := 43) dX2_watchesMade_40 (by decide) rfl (fun c => absurd c8 c) (fun _ => ?_)
              refine aw_aload_n (pc' := 44) dX2_watchesMade_43 rfl rfl rfl ?_
              refine aw_get clsAll (pc' := 47) dX2_watchesMade_44 rfl fl_RX2_21 (gsn q7 (by decide) (gss e6 ((hx.2 6 (by decide) (by decide)).trans h0_6))) rfl ?_
              refine aw_iload (pc' := 49) dX2_watchesMade_47 rfl rfl ?_
              refine aw_iald (v := 0) (pc' := 50) dX2_watchesMade_49 rfl (gsn q7 (by decide) (gsn e6 (by decide) ((hx.2 10 (by decide) (by decide)).trans h0_10))) (vpc (by decide)) rfl ?_
              refine aw_iconst (v := 1) (pc' := 51) dX2_watchesMade_50 rfl (by decide) ?_
              refine aw_icmp_ne (tgt := 80) (pc' := 54) dX2_watchesMade_51 (by decide) rfl (fun _ => ?_) (fun c => absurd c (by decide))
              refine aw_iinc (lv' := [_, _, _, _, _, _]) (pc' := 83) dX2_watchesMade_80 rfl rfl (Nat.le_of_ble_eq_true rfl) rfl ?_
              refine aw_goto (tgt := 22) dX2_watchesMade_83 (by decide) ?_
              refine aw_iload (pc' := 24) dX2_watchesMade_22 rfl rfl ?_
              refine aw_bipush (v := 120) (pc' := 26) dX2_watchesMade_24 rfl (by decide) ?_
              refine aw_cge (tgt := 86) (pc' := 29) dX2_watchesMade_26 (by decide) rfl (fun c => absurd (by decide) c) (fun _ => ?_)
              refine aw_iload_n (pc' := 30) dX2_watchesMade_29 rfl rfl ?_
              refine aw_bipush (v := 9) (pc' := 32) dX2_watchesMade_30 rfl (by decide) ?_
              refine aw_cge (tgt := 86) (pc' := 35) dX2_watchesMade_32 (by decide) rfl (fun c => absurd (by decide) c) (fun _ => ?_)
              refine aw_iload (pc' := 37) dX2_watchesMade_35 rfl rfl ?_
              refine aw_iconst (v := 3) (pc' := 38) dX2_watchesMade_37 rfl (by decide) ?_
              refine aw_iload_n (pc' := 39) dX2_watchesMade_38 rfl rfl ?_
              refine aw_imul (pc' := 40) dX2_watchesMade_39 rfl ?_
              refine aw_cge (tgt := 86) (pc' := 43) dX2_watchesMade_40 (by decide) rfl (fun c => absurd c8 c) (fun _ => ?_)
              refine aw_aload_n (pc' := 44) dX2_watchesMade_43 rfl rfl rfl ?_
              refine aw_get clsAll (pc' := 47) dX2_watchesMade_44 rfl fl_RX2_21 (gsn q7 (by decide) (gss e6 ((hx.2 6 (by decide) (by decide)).trans h0_6))) rfl ?_
              refine aw_iload (pc' := 49) dX2_watchesMade_47 rfl rfl ?_
              refine aw_iald (v := 0) (pc' := 50) dX2_watchesMade_49 rfl (gsn q7 (by decide) (gsn e6 (by decide) ((hx.2 10 (by decide) (by decide)).trans h0_10))) (vpc (by decide)) rfl ?_
              refine aw_iconst (v := 1) (pc' := 51) dX2_watchesMade_50 rfl (by decide) ?_
              refine aw_icmp_ne (tgt := 80) (pc' := 54) dX2_watchesMade_51 (by decide) rfl (fun _ => ?_) (fun c => absurd c (by decide))
              refine aw_iinc (lv' := [_, _, _, _, _, _]) (pc' := 83) dX2_watchesMade_80 rfl rfl (Nat.le_of_ble_eq_true rfl) rfl ?_
              refine aw_goto (tgt := 22) dX2_watchesMade_83 (by decide) ?_
              refine aw_iload (pc' := 24) dX2_watchesMade_22 rfl rfl ?_
              refine aw_bipush (v := 120) (pc' := 26) dX2_watchesMade_24 rfl (by decide) ?_
              refine aw_cge (tgt := 86) (pc' := 29) dX2_watchesMade_26 (by decide) rfl (fun c => absurd (by decide) c) (fun _ => ?_)
              refine aw_iload_n (pc' := 30) dX2_watchesMade_29 rfl rfl ?_
              refine aw_bipush (v := 9) (pc' := 32) dX2_watchesMade_30 rfl (by decide) ?_
              refine aw_cge (tgt := 86) (pc' := 35) dX2_watchesMade_32 (by decide) rfl (fun c => absurd (by decide) c) (fun _ => ?_)
              refine aw_iload (pc' := 37) dX2_watchesMade_35 rfl rfl ?_
              refine aw_iconst (v := 3) (pc' := 38) dX2_watchesMade_37 rfl (by decide) ?_
              refine aw_iload_n (pc' := 39) dX2_watchesMade_38 rfl rfl ?_
              refine aw_imul (pc' := 40) dX2_watchesMade_39 rfl ?_
              refine aw_cge (tgt := 86) (pc' := 43) dX2_watchesMade_40 (by decide) rfl (fun c => absurd c8 c) (fun _ => ?_)
              refine aw_aload_n (pc' := 44) dX2_watchesMade_43 rfl rfl rfl ?_
              refine aw_get clsAll (pc' := 47) dX2_watchesMade_44 rfl fl_RX2_21 (gsn q7 (by decide) (gss e6 ((hx.2 6 (by decide) (by decide)).trans h0_6))) rfl ?_
              refine aw_iload (pc' := 49) dX2_watchesMade_47 rfl rfl ?_
              refine aw_iald (v := 0) (pc' := 50) dX2_watchesMade_49 rfl (gsn q7 (by decide) (gsn e6 (by decide) ((hx.2 10 (by decide) (by decide)).trans h0_10))) (vpc (by decide)) rfl ?_
              refine aw_iconst (v := 1) (pc' := 51) dX2_watchesMade_50 rfl (by decide) ?_
              refine aw_icmp_ne (tgt := 80) (pc' := 54) dX2_watchesMade_51 (by decide) rfl (fun _ => ?_) (fun c => absurd c (by decide))
              refine aw_iinc (lv' := [_, _, _, _, _, _]) (pc' := 83) dX2_watchesMade_80 rfl rfl (Nat.le_of_ble_eq_true rfl) rfl ?_
              refine aw_goto (tgt := 22) dX2_watchesMade_83 (by decide) ?_
              refine aw_iload (pc' := 24) dX2_watchesMade_22 rfl rfl ?_
              refine aw_bipush (v := 120) (pc' := 26) dX2_watchesMade_24 rfl (by decide) ?_
              refine aw_cge (tgt := 86) (pc' := 29) dX2_watchesMade_26 (by decide) rfl (fun c => absurd (by decide) c) (fun _ => ?_)
              refine aw_iload_n (pc' := 30) dX2_watchesMade_29 rfl rfl ?_
              refine aw_bipush (v := 9) (pc' := 32) dX2_watchesMade_30 rfl (by decide) ?_
              refine aw_cge (tgt := 86) (pc' := 35) dX2_watchesMade_32 (by decide) rfl (fun c => absurd (by decide) c) (fun _ => ?_)
              refine aw_iload (pc' := 37) dX2_watchesMade_35 rfl rfl ?_
              refine aw_iconst (v := 3) (pc' := 38) dX2_watchesMade_37 rfl (by decide) ?_
              refine aw_iload_n (pc' := 39) dX2_watchesMade_38 rfl rfl ?_
              refine aw_imul (pc' := 40) dX2_watchesMade_39 rfl ?_
              refine aw_cge (tgt := 86) (pc' := 43) dX2_watchesMade_40 (by decide) rfl (fun c => absurd c8 c) (fun _ => ?_)
              refine aw_aload_n (pc' := 44) dX2_watchesMade_43 rfl rfl rfl ?_
              refine aw_get clsAll (pc' := 47) dX2_watchesMade_44 rfl fl_RX2_21 (gsn q7 (by decide) (gss e6 ((hx.2 6 (by decide) (by decide)).trans h0_6))) rfl ?_
              refine aw_iload (pc' := 49) dX2_watchesMade_47 rfl rfl ?_
              refine aw_iald (v := 0) (pc' := 50) dX2_watchesMade_49 rfl (gsn q7 (by decide) (gsn e6 (by decide) ((hx.2 10 (by decide) (by decide)).trans h0_10))) (vpc (by decide)) rfl ?_
              refine aw_iconst (v := 1) (pc' := 51) dX2_watchesMade_50 rfl (by decide) ?_
              refine aw_icmp_ne (tgt := 80) (pc' := 54) dX2_watchesMade_51 (by decide) rfl (fun _ => ?_) (fun c => absurd c (by decide))
              refine aw_iinc (lv' := [_, _, _, _, _, _]) (pc' := 83) dX2_watchesMade_80 rfl rfl (Nat.le_of_ble_eq_true rfl) rfl ?_
              refine aw_goto (tgt := 22) dX2_watchesMade_83 (by decide) ?_
              refine aw_iload (pc' := 24) dX2_watchesMade_22 rfl rfl ?_
              refine aw_bipush (v := 120) (pc' := 26) dX2_watchesMade_24 rfl (by decide) ?_
              refine aw_cge (tgt := 86) (pc' := 29) dX2_watchesMade_26 (by decide) rfl (fun c => absurd (by decide) c) (fun _ => ?_)
              refine aw_iload_n (pc' := 30) dX2_watchesMade_29 rfl rfl ?_
              refine aw_bipush (v := 9) (pc' := 32) dX2_watchesMade_30 rfl (by decide) ?_
              refine aw_cge (tgt := 86) (pc' := 35) dX2_watchesMade_32 (by decide) rfl (fun c => absurd (by decide) c) (fun _ => ?_)
              refine aw_iload (pc' := 37) dX2_watchesMade_35 rfl rfl ?_
              refine aw_iconst (v := 3) (pc' := 38) dX2_watchesMade_37 rfl (by decide) ?_
              refine aw_iload_n (pc' := 39) dX2_watchesMade_38 rfl rfl ?_
              refine aw_imul (pc' := 40) dX2_watchesMade_39 rfl ?_
              refine aw_cge (tgt := 86) (pc' := 43) dX2_watchesMade_40 (by decide) rfl (fun c => absurd c8 c) (fun _ => ?_)
              refine aw_aload_n (pc' := 44) dX2_watchesMade_43 rfl rfl rfl ?_
              refine aw_get clsAll (pc' := 47) dX2_watchesMade_44 rfl fl_RX2_21 (gsn q7 (by decide) (gss e6 ((hx.2 6 (by decide) (by decide)).trans h0_6))) rfl ?_
              refine aw_iload (pc' := 49) dX2_watchesMade_47 rfl rfl ?_
              refine aw_iald (v := 0) (pc' := 50) dX2_watchesMade_49 rfl (gsn q7 (by decide) (gsn e6 (by decide) ((hx.2 10 (by decide) (by decide)).trans h0_10))) (vpc (by decide)) rfl ?_
              refine aw_iconst (v := 1) (pc' := 51) dX2_watchesMade_50 rfl (by decide) ?_
              refine aw_icmp_ne (tgt := 80) (pc' := 54) dX2_watchesMade_51 (by decide) rfl (fun _ => ?_) (fun c => absurd c (by decide))
              refine aw_iinc (lv' := [_, _, _, _, _, _]) (pc' := 83) dX2_watchesMade_80 rfl rfl (Nat.le_of_ble_eq_true rfl) rfl ?_
              refine aw_goto (tgt := 22) dX2_watchesMade_83 (by decide) ?_
              refine aw_iload (pc' := 24) dX2_watchesMade_22 rfl rfl ?_
              refine aw_bipush (v := 120) (pc' := 26) dX2_watchesMade_24 rfl (by decide) ?_
              refine aw_cge (tgt := 86) (pc' := 29) dX2_watchesMade_26 (by decide) rfl (fun c => absurd (by decide) c) (fun _ => ?_)
              refine aw_iload_n (pc' := 30) dX2_watchesMade_29 rfl rfl ?_
              refine aw_bipush (v := 9) (pc' := 32) dX2_watchesMade_30 rfl (by decide) ?_
              refine aw_cge (tgt := 86) (pc' := 35) dX2_watchesMade_32 (by decide) rfl (fun c => absurd (by decide) c) (fun _ => ?_)
              refine aw_iload (pc' := 37) dX2_watchesMade_35 rfl rfl ?_
              refine aw_iconst (v := 3) (pc' := 38) dX2_watchesMade_37 rfl (by decide) ?_
              refine aw_iload_n (pc' := 39) dX2_watchesMade_38 rfl rfl ?_
              refine aw_imul (pc' := 40) dX2_watchesMade_39 rfl ?_
              refine aw_cge (tgt := 86) (pc' := 43) dX2_watchesMade_40 (by decide) rfl (fun c => absurd c8 c) (fun _ => ?_)
              refine aw_aload_n (pc' := 44) dX2_watchesMade_43 rfl rfl rfl ?_
              refine aw_get clsAll (pc' := 47) dX2_watchesMade_44 rfl fl_RX2_21 (gsn q7 (by decide) (gss e6 ((hx.2 6 (by decide) (by decide)).trans h0_6))) rfl ?_
              refine aw_iload (pc' := 49) dX2_watchesMade_47 rfl rfl ?_
              refine aw_iald (v := 0) (pc' := 50) dX2_watchesMade_49 rfl (gsn q7 (by decide) (gsn e6 (by decide) ((hx.2 10 (by decide) (by decide)).trans h0_10))) (vpc (by decide)) rfl ?_
              refine aw_iconst (v := 1) (pc' := 51) dX2_watchesMade_50 rfl (by decide) ?_
              refine aw_icmp_ne (tgt := 80) (pc' := 54) dX2_watchesMade_51 (by decide) rfl (fun _ => ?_) (fun c => absurd c (by decide))
              refine aw_iinc (lv' := [_, _, _, _, _, _]) (pc' := 83) dX2_watchesMade_80 rfl rfl (Nat.le_of_ble_eq_true rfl) rfl ?_
              refine aw_goto (tgt := 22) dX2_watchesMade_83 (by decide) ?_
              refine aw_iload (pc' := 24) dX2_watchesMade_22 rfl rfl ?_
              refine aw_bipush (v := 120) (pc' := 26) dX2_watchesMade_24 rfl (by decide) ?_
              refine aw_cge (tgt := 86) (pc' := 29) dX2_watchesMade_26 (by decide) rfl (fun c => absurd (by decide) c) (fun _ => ?_)
              refine aw_iload_n (pc' := 30) dX2_watchesMade_29 rfl rfl ?_
              refine aw_bipush (v := 9) (pc' := 32) dX2_watchesMade_30 rfl (by decide) ?_
              refine aw_cge (tgt := 86) (pc' := 35) dX2_watchesMade_32 (by decide) rfl (fun c => absurd (by decide) c) (fun _ => ?_)
              refine aw_iload (pc' := 37) dX2_watchesMade_35 rfl rfl ?_
              refine aw_iconst (v := 3) (pc' := 38) dX2_watchesMade_37 rfl (by decide) ?_
              refine aw_iload_n (pc' := 39) dX2_watchesMade_38 rfl rfl ?_
              refine aw_imul (pc' := 40) dX2_watchesMade_39 rfl ?_
              refine aw_cge (tgt := 86) (pc' := 43) dX2_watchesMade_40 (by decide) rfl (fun c => absurd c8 c) (fun _ => ?_)
              refine aw_aload_n (pc' := 44) dX2_watchesMade_43 rfl rfl rfl ?_
              refine aw_get clsAll (pc' := 47) dX2_watchesMade_44 rfl fl_RX2_21 (gsn q7 (by decide) (gss e6 ((hx.2 6 (by decide) (by decide)).trans h0_6))) rfl ?_
              refine aw_iload (pc' := 49) dX2_watchesMade_47 rfl rfl ?_
              refine aw_iald (v := 0) (pc' := 50) dX2_watchesMade_49 rfl (gsn q7 (by decide) (gsn e6 (by decide) ((hx.2 10 (by decide) (by decide)).trans h0_10))) (vpc (by decide)) rfl ?_
              refine aw_iconst (v := 1) (pc' := 51) dX2_watchesMade_50 rfl (by decide) ?_
              refine aw_icmp_ne (tgt := 80) (pc' := 54) dX2_watchesMade_51 (by decide) rfl (fun _ => ?_) (fun c => absurd c (by decide))
              refine aw_iinc (lv' := [_, _, _, _, _, _]) (pc' := 83) dX2_watchesMade_80 rfl rfl (Nat.le_of_ble_eq_true rfl) rfl ?_
              refine aw_goto (tgt := 22) dX2_watchesMade_83 (by decide) ?_
              refine aw_iload (pc' := 24) dX2_watchesMade_22 rfl rfl ?_
              refine aw_bipush (v := 120) (pc' := 26) dX2_watchesMade_24 rfl (by decide) ?_
              refine aw_cge (tgt := 86) (pc' := 29) dX2_watchesMade_26 (by decide) rfl (fun c => absurd (by decide) c) (fun _ => ?_)
              refine aw_iload_n (pc' := 30) dX2_watchesMade_29 rfl rfl ?_
              refine aw_bipush (v := 9) (pc' := 32) dX2_watchesMade_30 rfl (by decide) ?_
              refine aw_cge (tgt := 86) (pc' := 35) dX2_watchesMade_32 (by decide) rfl (fun c => absurd (by decide) c) (fun _ => ?_)
              refine aw_iload (pc' := 37) dX2_watchesMade_35 rfl rfl ?_
              refine aw_iconst (v := 3) (pc' := 38) dX2_watchesMade_37 rfl (by decide) ?_
              refine aw_iload_n (pc' := 39) dX2_watchesMade_38 rfl rfl ?_
              refine aw_imul (pc' := 40) dX2_watchesMade_39 rfl ?_
              refine aw_cge (tgt := 86) (pc' := 43) dX2_watchesMade_40 (by decide) rfl (fun c => absurd c8 c) (fun _ => ?_)
              refine aw_aload_n (pc' := 44) dX2_watchesMade_43 rfl rfl rfl ?_
              refine aw_get clsAll (pc' := 47) dX2_watchesMade_44 rfl fl_RX2_21 (gsn q7 (by decide) (gss e6 ((hx.2 6 (by decide) (by decide)).trans h0_6))) rfl ?_
              refine aw_iload (pc' := 49) dX2_watchesMade_47 rfl rfl ?_
              refine aw_iald (v := 0) (pc' := 50) dX2_watchesMade_49 rfl (gsn q7 (by decide) (gsn e6 (by decide) ((hx.2 10 (by decide) (by decide)).trans h0_10))) (vpc (by decide)) rfl ?_
              refine aw_iconst (v := 1) (pc' := 51) dX2_watchesMade_50 rfl (by decide) ?_
              refine aw_icmp_ne (tgt := 80) (pc' := 54) dX2_watchesMade_51 (by decide) rfl (fun _ => ?_) (fun c => absurd c (by decide))
              refine aw_iinc (lv' := [_, _, _, _, _, _]) (pc' := 83) dX2_watchesMade_80 rfl rfl (Nat.le_of_ble_eq_true rfl) rfl ?_
              refine aw_goto (tgt := 22) dX2_watchesMade_83 (by decide) ?_
              refine aw_iload (pc' := 24) dX2_watchesMade_22 rfl rfl ?_
              refine aw_bipush (v := 120) (pc' := 26) dX2_watchesMade_24 rfl (by decide) ?_
              refine aw_cge (tgt := 86) (pc' := 29) dX2_watchesMade_26 (by decide) rfl (fun c => absurd (by decide) c) (fun _ => ?_)
              refine aw_iload_n (pc' := 30) dX2_watchesMade_29 rfl rfl ?_
              refine aw_bipush (v := 9) (pc' := 32) dX2_watchesMade_30 rfl (by decide) ?_
              refine aw_cge (tgt := 86) (pc' := 35) dX2_watchesMade_32 (by decide) rfl (fun c => absurd (by decide) c) (fun _ => ?_)
              refine aw_iload (pc' := 37) dX2_watchesMade_35 rfl rfl ?_
              refine aw_iconst (v := 3) (pc' := 38) dX2_watchesMade_37 rfl (by decide) ?_
              refine aw_iload_n (pc' := 39) dX2_watchesMade_38 rfl rfl ?_
              refine aw_imul (pc' := 40) dX2_watchesMade_39 rfl ?_
              refine aw_cge (tgt := 86) (pc' := 43) dX2_watchesMade_40 (by decide) rfl (fun c => absurd c8 c) (fun _ => ?_)
              refine aw_aload_n (pc' := 44) dX2_watchesMade_43 rfl rfl rfl ?_
              refine aw_get clsAll (pc' := 47) dX2_watchesMade_44 rfl fl_RX2_21 (gsn q7 (by decide) (gss e6 ((hx.2 6 (by decide) (by decide)).trans h0_6))) rfl ?_
              refine aw_iload (pc' := 49) dX2_watchesMade_47 rfl rfl ?_
              refine aw_iald (v := 0) (pc' := 50) dX2_watchesMade_49 rfl (gsn q7 (by decide) (gsn e6 (by decide) ((hx.2 10 (by decide) (by decide)).trans h0_10))) (vpc (by decide)) rfl ?_
              refine aw_iconst (v := 1) (pc' := 51) dX2_watchesMade_50 rfl (by decide) ?_
              refine aw_icmp_ne (tgt := 80) (pc' := 54) dX2_watchesMade_51 (by decide) rfl (fun _ => ?_) (fun c => absurd c (by decide))
              refine aw_iinc (lv' := [_, _, _, _, _, _]) (pc' := 83) dX2_watchesMade_80 rfl rfl (Nat.le_of_ble_eq_true rfl) rfl ?_
              refine aw_goto (tgt := 22) dX2_watchesMade_83 (by decide) ?_
              refine aw_iload (pc' := 24) dX2_watchesMade_22 rfl rfl ?_
              refine aw_bipush (v := 120) (pc' := 26) dX2_watchesMade_24 rfl (by decide) ?_
              refine aw_cge (tgt := 86) (pc' := 29) dX2_watchesMade_26 (by decide) rfl (fun c => absurd (by decide) c) (fun _ => ?_)
              refine aw_iload_n (pc' := 30) dX2_watchesMade_29 rfl rfl ?_
              refine aw_bipush (v := 9) (pc' := 32) dX2_watchesMade_30 rfl (by decide) ?_
              refine aw_cge (tgt := 86) (pc' := 35) dX2_watchesMade_32 (by decide) rfl (fun c => absurd (by decide) c) (fun _ => ?_)
              refine aw_iload (pc' := 37) dX2_watchesMade_35 rfl rfl ?_
              refine aw_iconst (v := 3) (pc' := 38) dX2_watchesMade_37 rfl (by decide) ?_
              refine aw_iload_n (pc' := 39) dX2_watchesMade_38 rfl rfl ?_
              refine aw_imul (pc' := 40) dX2_watchesMade_39 rfl ?_
              refine aw_cge (tgt := 86) (pc' := 43) dX2_watchesMade_40 (by decide) rfl (fun c => absurd c8 c) (fun _ => ?_)
              refine aw_aload_n (pc' := 44) dX2_watchesMade_43 rfl rfl rfl ?_
              refine aw_get clsAll (pc' := 47) dX2_watchesMade_44 rfl fl_RX2_21 (gsn q7 (by decide) (gss e6 ((hx.2 6 (by decide) (by decide)).trans h0_6))) rfl ?_
              refine aw_iload (pc' := 49) dX2_watchesMade_47 rfl rfl ?_
              refine aw_iald (v := 0) (pc' := 50) dX2_watchesMade_49 rfl (gsn q7 (by decide) (gsn e6 (by decide) ((hx.2 10 (by decide) (by decide)).trans h0_10))) (vpc (by decide)) rfl ?_
              refine aw_iconst (v := 1) (pc' := 51) dX2_watchesMade_50 rfl (by decide) ?_
              refine aw_icmp_ne (tgt := 80) (pc' := 54) dX2_watchesMade_51 (by decide) rfl (fun _ => ?_) (fun c => absurd c (by decide))
              refine aw_iinc (lv' := [_, _, _, _, _, _]) (pc' := 83) dX2_watchesMade_80 rfl rfl (Nat.le_of_ble_eq_true rfl) rfl ?_
              refine aw_goto (tgt := 22) dX2_watchesMade_83 (by decide) ?_
              refine aw_iload (pc' := 24) dX2_watchesMade_22 rfl rfl ?_
              refine aw_bipush (v := 120) (pc' := 26) dX2_watchesMade_24 rfl (by decide) ?_
              refine aw_cge (tgt := 86) (pc' := 29) dX2_watchesMade_26 (by decide) rfl (fun c => absurd (by decide) c) (fun _ => ?_)
              refine aw_iload_n (pc' := 30) dX2_watchesMade_29 rfl rfl ?_
              refine aw_bipush (v := 9) (pc' := 32) dX2_watchesMade_30 rfl (by decide) ?_
              refine aw_cge (tgt := 86) (pc' := 35) dX2_watchesMade_32 (by decide) rfl (fun c => absurd (by decide) c) (fun _ => ?_)
              refine aw_iload (pc' := 37) dX2_watchesMade_35 rfl rfl ?_
              refine aw_iconst (v := 3) (pc' := 38) dX2_watchesMade_37 rfl (by decide) ?_
              refine aw_iload_n (pc' := 39) dX2_watchesMade_38 rfl rfl ?_
              refine aw_imul (pc' := 40) dX2_watchesMade_39 rfl ?_
              refine aw_cge (tgt := 86) (pc' := 43) dX2_watchesMade_40 (by decide) rfl (fun c => absurd c8 c) (fun _ => ?_)
              refine aw_aload_n (pc' := 44) dX2_watchesMade_43 rfl rfl rfl ?_
              refine aw_get clsAll (pc' := 47) dX2_watchesMade_44 rfl fl_RX2_21 (gsn q7 (by decide) (gss e6 ((hx.2 6 (by decide) (by decide)).trans h0_6))) rfl ?_
              refine aw_iload (pc' := 49) dX2_watchesMade_47 rfl rfl ?_
              refine aw_iald (v := 0) (pc' := 50) dX2_watchesMade_49 rfl (gsn q7 (by decide) (gsn e6 (by decide) ((hx.2 10 (by decide) (by decide)).trans h0_10))) (vpc (by decide)) rfl ?_
              refine aw_iconst (v := 1) (pc' := 51) dX2_watchesMade_50 rfl (by decide) ?_
              refine aw_icmp_ne (tgt := 80) (pc' := 54) dX2_watchesMade_51 (by decide) rfl (fun _ => ?_) (fun c => absurd c (by decide))
              refine aw_iinc (lv' := [_, _, _, _, _, _]) (pc' := 83) dX2_watchesMade_80 rfl rfl (Nat.le_of_ble_eq_true rfl) rfl ?_
              refine aw_goto (tgt := 22) dX2_watchesMade_83 (by decide) ?_
              refine aw_iload (pc' := 24) dX2_watchesMade_22 rfl rfl ?_
              refine aw_bipush (v := 120) (pc' := 26) dX2_watchesMade_24 rfl (by decide) ?_
              refine aw_cge (tgt := 86) (pc' := 29) dX2_watchesMade_26 (by decide) rfl (fun c => absurd (by decide) c) (fun _ => ?_)
              refine aw_iload_n (pc' := 30) dX2_watchesMade_29 rfl rfl ?_
              refine aw_bipush (v := 9) (pc' := 32) dX2_watchesMade_30 rfl (by decide) ?_
              refine aw_cge (tgt := 86) (pc' := 35) dX2_watchesMade_32 (by decide) rfl (fun c => absurd (by decide) c) (fun _ => ?_)
              refine aw_iload (pc' := 37) dX2_watchesMade_35 rfl rfl ?_
              refine aw_iconst (v := 3) (pc' := 38) dX2_watchesMade_37 rfl (by decide) ?_
              refine aw_iload_n (pc' := 39) dX2_watchesMade_38 rfl rfl ?_
              refine aw_imul (pc' := 40) dX2_watchesMade_39 rfl ?_
              refine aw_cge (tgt := 86) (pc' := 43) dX2_watchesMade_40 (by decide) rfl (fun c => absurd c8 c) (fun _ => ?_)
              refine aw_aload_n (pc' := 44) dX2_watchesMade_43 rfl rfl rfl ?_
              refine aw_get clsAll (pc' := 47) dX2_watchesMade_44 rfl fl_RX2_21 (gsn q7 (by decide) (gss e6 ((hx.2 6 (by decide) (by decide)).trans h0_6))) rfl ?_
              refine aw_iload (pc' := 49) dX2_watchesMade_47 rfl rfl ?_
              refine aw_iald (v := 0) (pc' := 50) dX2_watchesMade_49 rfl (gsn q7 (by decide) (gsn e6 (by decide) ((hx.2 10 (by decide) (by decide)).trans h0_10))) (vpc (by decide)) rfl ?_
              refine aw_iconst (v := 1) (pc' := 51) dX2_watchesMade_50 rfl (by decide) ?_
              refine aw_icmp_ne (tgt := 80) (pc' := 54) dX2_watchesMade_51 (by decide) rfl (fun _ => ?_) (fun c => absurd c (by decide))
              refine aw_iinc (lv' := [_, _, _, _, _, _]) (pc' := 83) dX2_watchesMade_80 rfl rfl (Nat.le_of_ble_eq_true rfl) rfl ?_
              refine aw_goto (tgt := 22) dX2_watchesMade_83 (by decide) ?_
              refine aw_iload (pc' := 24) dX2_watchesMade_22 rfl rfl ?_
              refine aw_bipush (v := 120) (pc' := 26) dX2_watchesMade_24 rfl (by decide) ?_
              refine aw_cge (tgt := 86) (pc' := 29) dX2_watchesMade_26 (by decide) rfl (fun c => absurd (by decide) c) (fun _ => ?_)
              refine aw_iload_n (pc' := 30) dX2_watchesMade_29 rfl rfl ?_
              refine aw_bipush (v := 9) (pc' := 32) dX2_watchesMade_30 rfl (by decide) ?_
              refine aw_cge (tgt := 86) (pc' := 35) dX2_watchesMade_32 (by decide) rfl (fun c => absurd (by decide) c) (fun _ => ?_)
              refine aw_iload (pc' := 37) dX2_watchesMade_35 rfl rfl ?_
              refine aw_iconst (v := 3) (pc' := 38) dX2_watchesMade_37 rfl (by decide) ?_
              refine aw_iload_n (pc' := 39) dX2_watchesMade_38 rfl rfl ?_
              refine aw_imul (pc' := 40) dX2_watchesMade_39 rfl ?_
              refine aw_cge (tgt := 86) (pc' := 43) dX2_watchesMade_40 (by decide) rfl (fun c => absurd c8 c) (fun _ => ?_)
              refine aw_aload_n (pc' := 44) dX2_watchesMade_43 rfl rfl rfl ?_
              refine aw_get clsAll (pc' := 47) dX2_watchesMade_44 rfl fl_RX2_21 (gsn q7 (by decide) (gss e6 ((hx.2 6 (by decide) (by decide)).trans h0_6))) rfl ?_
              refine aw_iload (pc' := 49) dX2_watchesMade_47 rfl rfl ?_
              refine aw_iald (v := 0) (pc' := 50) dX2_watchesMade_49 rfl (gsn q7 (by decide) (gsn e6 (by decide) ((hx.2 10 (by decide) (by decide)).trans h0_10))) (vpc (by decide)) rfl ?_
              refine aw_iconst (v := 1) (pc' := 51) dX2_watchesMade_50 rfl (by decide) ?_
              refine aw_icmp_ne (tgt := 80) (pc' := 54) dX2_watchesMade_51 (by decide) rfl (fun _ => ?_) (fun c => absurd c (by decide))
              refine aw_iinc (lv' := [_, _, _, _, _, _]) (pc' := 83) dX2_watchesMade_80 rfl rfl (Nat.le_of_ble_eq_true rfl) rfl ?_
              refine aw_goto (tgt := 22) dX2_watchesMade_83 (by decide) ?_
              refine aw_iload (pc' := 24) dX2_watchesMade_22 rfl rfl ?_
              refine aw_bipush (v := 120) (pc' := 26) dX2_watchesMade_24 rfl (by decide) ?_
              refine aw_cge (tgt := 86) (pc' := 29) dX2_watchesMade_26 (by decide) rfl (fun c => absurd (by decide) c) (fun _ => ?_)
              refine aw_iload_n (pc' := 30) dX2_watchesMade_29 rfl rfl ?_
              refine aw_bipush (v := 9) (pc' := 32) dX2_watchesMade_30 rfl (by decide) ?_
              refine aw_cge (tgt := 86) (pc' := 35) dX2_watchesMade_32 (by decide) rfl (fun c => absurd (by decide) c) (fun _ => ?_)
              refine aw_iload (pc' := 37) dX2_watchesMade_35 rfl rfl ?_
              refine aw_iconst (v := 3) (pc' := 38) dX2_watchesMade_37 rfl (by decide) ?_
              refine aw_iload_n (pc' := 39) dX2_watchesMade_38 rfl rfl ?_
              refine aw_imul (pc' := 40) dX2_watchesMade_39 rfl ?_
              refine aw_cge (tgt := 86) (pc' := 43) dX2_watchesMade_40 (by decide) rfl (fun c => absurd c8 c) (fun _ => ?_)
              refine aw_aload_n (pc' := 44) dX2_watchesMade_43 rfl rfl rfl ?_
              refine aw_get clsAll (pc' := 47) dX2_watchesMade_44 rfl fl_RX2_21 (gsn q7 (by decide) (gss e6 ((hx.2 6 (by decide) (by decide)).trans h0_6))) rfl ?_
              refine aw_iload (pc' := 49) dX2_watchesMade_47 rfl rfl ?_
              refine aw_iald (v := 0) (pc' := 50) dX2_watchesMade_49 rfl (gsn q7 (by decide) (gsn e6 (by decide) ((hx.2 10 (by decide) (by decide)).trans h0_10))) (vpc (by decide)) rfl ?_
              refine aw_iconst (v := 1) (pc' := 51) dX2_watchesMade_50 rfl (by decide) ?_
              refine aw_icmp_ne (tgt := 80) (pc' := 54) dX2_watchesMade_51 (by decide) rfl (fun _ => ?_) (fun c => absurd c (by decide))
              refine aw_iinc (lv' := [_, _, _, _, _, _]) (pc' := 83) dX2_watchesMade_80 rfl rfl (Nat.le_of_ble_eq_true rfl) rfl ?_
              refine aw_goto (tgt := 22) dX2_watchesMade_83 (by decide) ?_
              refine aw_iload (pc' := 24) dX2_watchesMade_22 rfl rfl ?_
              refine aw_bipush (v := 120) (pc' := 26) dX2_watchesMade_24 rfl (by decide) ?_
              refine aw_cge (tgt := 86) (pc' := 29) dX2_watchesMade_26 (by decide) rfl (fun c => absurd (by decide) c) (fun _ => ?_)
              refine aw_iload_n (pc' := 30) dX2_watchesMade_29 rfl rfl ?_
              refine aw_bipush (v := 9) (pc' := 32) dX2_watchesMade_30 rfl (by decide) ?_
              refine aw_cge (tgt := 86) (pc' := 35) dX2_watchesMade_32 (by decide) rfl (fun c => absurd (by decide) c) (fun _ => ?_)
              refine aw_iload (pc' := 37) dX2_watchesMade_35 rfl rfl ?_
              refine aw_iconst (v := 3) (pc' := 38) dX2_watchesMade_37 rfl (by decide) ?_
              refine aw_iload_n (pc' := 39) dX2_watchesMade_38 rfl rfl ?_
              refine aw_imul (pc' := 40) dX2_watchesMade_39 rfl ?_
              refine aw_cge (tgt := 86) (pc' := 43) dX2_watchesMade_40 (by decide) rfl (fun c => absurd c8 c) (fun _ => ?_)
              refine aw_aload_n (pc' := 44) dX2_watchesMade_43 rfl rfl rfl ?_
              refine aw_get clsAll (pc' := 47) dX2_watchesMade_44 rfl fl_RX2_21 (gsn q7 (by decide) (gss e6 ((hx.2 6 (by decide) (by decide)).trans h0_6))) rfl ?_
              refine aw_iload (pc' := 49) dX2_watchesMade_47 rfl rfl ?_
              refine aw_iald (v := 0) (pc' := 50) dX2_watchesMade_49 rfl (gsn q7 (by decide) (gsn e6 (by decide) ((hx.2 10 (by decide) (by decide)).trans h0_10))) (vpc (by decide)) rfl ?_
              refine aw_iconst (v := 1) (pc' := 51) dX2_watchesMade_50 rfl (by decide) ?_
              refine aw_icmp_ne (tgt := 80) (pc' := 54) dX2_watchesMade_51 (by decide) rfl (fun _ => ?_) (fun c => absurd c (by decide))
              refine aw_iinc (lv' := [_, _, _, _, _, _]) (pc' := 83) dX2_watchesMade_80 rfl rfl (Nat.le_of_ble_eq_true rfl) rfl ?_
              refine aw_goto (tgt := 22) dX2_watchesMade_83 (by decide) ?_
              refine aw_iload (pc' := 24) dX2_watchesMade_22 rfl rfl ?_
              refine aw_bipush (v := 120) (pc' := 26) dX2_watchesMade_24 rfl (by decide) ?_
              refine aw_cge (tgt := 86) (pc' := 29) dX2_watchesMade_26 (by decide) rfl (fun c => absurd (by decide) c) (fun _ => ?_)
              refine aw_iload_n (pc' := 30) dX2_watchesMade_29 rfl rfl ?_
              refine aw_bipush (v := 9) (pc' := 32) dX2_watchesMade_30 rfl (by decide) ?_
              refine aw_cge (tgt := 86) (pc' := 35) dX2_watchesMade_32 (by decide) rfl (fun c => absurd (by decide) c) (fun _ => ?_)
              refine aw_iload (pc' := 37) dX2_watchesMade_35 rfl rfl ?_
              refine aw_iconst (v := 3) (pc' := 38) dX2_watchesMade_37 rfl (by decide) ?_
              refine aw_iload_n (pc' := 39) dX2_watchesMade_38 rfl rfl ?_
              refine aw_imul (pc' := 40) dX2_watchesMade_39 rfl ?_
              refine aw_cge (tgt := 86) (pc' := 43) dX2_watchesMade_40 (by decide) rfl (fun c => absurd c8 c) (fun _ => ?_)
              refine aw_aload_n (pc' := 44) dX2_watchesMade_43 rfl rfl rfl ?_
              refine aw_get clsAll (pc' := 47) dX2_watchesMade_44 rfl fl_RX2_21 (gsn q7 (by decide) (gss e6 ((hx.2 6 (by decide) (by decide)).trans h0_6))) rfl ?_
              refine aw_iload (pc' := 49) dX2_watchesMade_47 rfl rfl ?_
              refine aw_iald (v := 0) (pc' := 50) dX2_watchesMade_49 rfl (gsn q7 (by decide) (gsn e6 (by decide) ((hx.2 10 (by decide) (by decide)).trans h0_10))) (vpc (by decide)) rfl ?_
              refine aw_iconst (v := 1) (pc' := 51) dX2_watchesMade_50 rfl (by decide) ?_
              refine aw_icmp_ne (tgt := 80) (pc' := 54) dX2_watchesMade_51 (by decide) rfl (fun _ => ?_) (fun c => absurd c (by decide))
              refine aw_iinc (lv' := [_, _, _, _, _, _]) (pc' := 83) dX2_watchesMade_80 rfl rfl (Nat.le_of_ble_eq_true rfl) rfl ?_
              refine aw_goto (tgt := 22) dX2_watchesMade_83 (by decide) ?_
              refine aw_iload (pc' := 24) dX2_watchesMade_22 rfl rfl ?_
              refine aw_bipush (v := 120) (pc' := 26) dX2_watchesMade_24 rfl (by decide) ?_
              refine aw_cge (tgt := 86) (pc' := 29) dX2_watchesMade_26 (by decide) rfl (fun c => absurd (by decide) c) (fun _ => ?_)
              refine aw_iload_n (pc' := 30) dX2_watchesMade_29 rfl rfl ?_
              refine aw_bipush (v := 9) (pc' := 32) dX2_watchesMade_30 rfl (by decide) ?_
              refine aw_cge (tgt := 86) (pc' := 35) dX2_watchesMade_32 (by decide) rfl (fun c => absurd (by decide) c) (fun _ => ?_)
              refine aw_iload (pc' := 37) dX2_watchesMade_35 rfl rfl ?_
              refine aw_iconst (v := 3) (pc' := 38) dX2_watchesMade_37 rfl (by decide) ?_
              refine aw_iload_n (pc' := 39) dX2_watchesMade_38 rfl rfl ?_
              refine aw_imul (pc' := 40) dX2_watchesMade_39 rfl ?_
              refine aw_cge (tgt := 86) (pc' := 43) dX2_watchesMade_40 (by decide) rfl (fun c => absurd c8 c) (fun _ => ?_)
              refine aw_aload_n (pc' := 44) dX2_watchesMade_43 rfl rfl rfl ?_
              refine aw_get clsAll (pc' := 47) dX2_watchesMade_44 rfl fl_RX2_21 (gsn q7 (by decide) (gss e6 ((hx.2 6 (by decide) (by decide)).trans h0_6))) rfl ?_
              refine aw_iload (pc' := 49) dX2_watchesMade_47 rfl rfl ?_
              refine aw_iald (v := 0) (pc' := 50) dX2_watchesMade_49 rfl (gsn q7 (by decide) (gsn e6 (by decide) ((hx.2 10 (by decide) (by decide)).trans h0_10))) (vpc (by decide)) rfl ?_
              refine aw_iconst (v := 1) (pc' := 51) dX2_watchesMade_50 rfl (by decide) ?_
              refine aw_icmp_ne (tgt := 80) (pc' := 54) dX2_watchesMade_51 (by decide) rfl (fun _ => ?_) (fun c => absurd c (by decide))
              refine aw_iinc (lv' := [_, _, _, _, _, _]) (pc' := 83) dX2_watchesMade_80 rfl rfl (Nat.le_of_ble_eq_true rfl) rfl ?_
              refine aw_goto (tgt := 22) dX2_watchesMade_83 (by decide) ?_
              refine aw_iload (pc' := 24) dX2_watchesMade_22 rfl rfl ?_
              refine aw_bipush (v := 120) (pc' := 26) dX2_watchesMade_24 rfl (by decide) ?_
              refine aw_cge (tgt := 86) (pc' := 29) dX2_watchesMade_26 (by decide) rfl (fun c => absurd (by decide) c) (fun _ => ?_)
              refine aw_iload_n (pc' := 30) dX2_watchesMade_29 rfl rfl ?_
              refine aw_bipush (v := 9) (pc' := 32) dX2_watchesMade_30 rfl (by decide) ?_
              refine aw_cge (tgt := 86) (pc' := 35) dX2_watchesMade_32 (by decide) rfl (fun c => absurd (by decide) c) (fun _ => ?_)
              refine aw_iload (pc' := 37) dX2_watchesMade_35 rfl rfl ?_
              refine aw_iconst (v := 3) (pc' := 38) dX2_watchesMade_37 rfl (by decide) ?_
              refine aw_iload_n (pc' := 39) dX2_watchesMade_38 rfl rfl ?_
              refine aw_imul (pc' := 40) dX2_watchesMade_39 rfl ?_
              refine aw_cge (tgt := 86) (pc' := 43) dX2_watchesMade_40 (by decide) rfl (fun c => absurd c8 c) (fun _ => ?_)
              refine aw_aload_n (pc' := 44) dX2_watchesMade_43 rfl rfl rfl ?_
              refine aw_get clsAll (pc' := 47) dX2_watchesMade_44 rfl fl_RX2_21 (gsn q7 (by decide) (gss e6 ((hx.2 6 (by decide) (by decide)).trans h0_6))) rfl ?_
              refine aw_iload (pc' := 49) dX2_watchesMade_47 rfl rfl ?_
              refine aw_iald (v := 0) (pc' := 50) dX2_watchesMade_49 rfl (gsn q7 (by decide) (gsn e6 (by decide) ((hx.2 10 (by decide) (by decide)).trans h0_10))) (vpc (by decide)) rfl ?_
              refine aw_iconst (v := 1) (pc' := 51) dX2_watchesMade_50 rfl (by decide) ?_
              refine aw_icmp_ne (tgt := 80) (pc' := 54) dX2_watchesMade_51 (by decide) rfl (fun _ => ?_) (fun c => absurd c (by decide))
              refine aw_iinc (lv' := [_, _, _, _, _, _]) (pc' := 83) dX2_watchesMade_80 rfl rfl (Nat.le_of_ble_eq_true rfl) rfl ?_
              refine aw_goto (tgt := 22) dX2_watchesMade_83 (by decide) ?_
              refine aw_iload (pc' := 24) dX2_watchesMade_22 rfl rfl ?_
              refine aw_bipush (v := 120) (pc' := 26) dX2_watchesMade_24 rfl (by decide) ?_
              refine aw_cge (tgt := 86) (pc' := 29) dX2_watchesMade_26 (by decide) rfl (fun c => absurd (by decide) c) (fun _ => ?_)
              refine aw_iload_n (pc' := 30) dX2_watchesMade_29 rfl rfl ?_
              refine aw_bipush (v := 9) (pc' := 32) dX2_watchesMade_30 rfl (by decide) ?_
              refine aw_cge (tgt := 86) (pc' := 35) dX2_watchesMade_32 (by decide) rfl (fun c => absurd (by decide) c) (fun _ => ?_)
              refine aw_iload (pc' := 37) dX2_watchesMade_35 rfl rfl ?_
              refine aw_iconst (v := 3) (pc' := 38) dX2_watchesMade_37 rfl (by decide) ?_
              refine aw_iload_n (pc' := 39) dX2_watchesMade_38 rfl rfl ?_
              refine aw_imul (pc' := 40) dX2_watchesMade_39 rfl ?_
              refine aw_cge (tgt := 86) (pc' := 43) dX2_watchesMade_40 (by decide) rfl (fun c => absurd c8 c) (fun _ => ?_)
              refine aw_aload_n (pc' := 44) dX2_watchesMade_43 rfl rfl rfl ?_
              refine aw_get clsAll (pc' := 47) dX2_watchesMade_44 rfl fl_RX2_21 (gsn q7 (by decide) (gss e6 ((hx.2 6 (by decide) (by decide)).trans h0_6))) rfl ?_
              refine aw_iload (pc' := 49) dX2_watchesMade_47 rfl rfl ?_
              refine aw_iald (v := 0) (pc' := 50) dX2_watchesMade_49 rfl (gsn q7 (by decide) (gsn e6 (by decide) ((hx.2 10 (by decide) (by decide)).trans h0_10))) (vpc (by decide)) rfl ?_
              refine aw_iconst (v := 1) (pc' := 51) dX2_watchesMade_50 rfl (by decide) ?_
              refine aw_icmp_ne (tgt := 80) (pc' := 54) dX2_watchesMade_51 (by decide) rfl (fun _ => ?_) (fun c => absurd c (by decide))
              refine aw_iinc (lv' := [_, _, _, _, _, _]) (pc' := 83) dX2_watchesMade_80 rfl rfl (Nat.le_of_ble_eq_true rfl) rfl ?_
              refine aw_goto (tgt := 22) dX2_watchesMade_83 (by decide) ?_
              refine aw_iload (pc' := 24) dX2_watchesMade_22 rfl rfl ?_
              refine aw_bipush (v := 120) (pc' := 26) dX2_watchesMade_24 rfl (by decide) ?_
              refine aw_cge (tgt := 86) (pc' := 29) dX2_watchesMade_26 (by decide) rfl (fun c => absurd (by decide) c) (fun _ => ?_)
              refine aw_iload_n (pc' := 30) dX2_watchesMade_29 rfl rfl ?_
              refine aw_bipush (v := 9) (pc' := 32) dX2_watchesMade_30 rfl (by decide) ?_
              refine aw_cge (tgt := 86) (pc' := 35) dX2_watchesMade_32 (by decide) rfl (fun c => absurd (by decide) c) (fun _ => ?_)
              refine aw_iload (pc' := 37) dX2_watchesMade_35 rfl rfl ?_
              refine aw_iconst (v := 3) (pc' := 38) dX2_watchesMade_37 rfl (by decide) ?_
              refine aw_iload_n (pc' := 39) dX2_watchesMade_38 rfl rfl ?_
              refine aw_imul (pc' := 40) dX2_watchesMade_39 rfl ?_
              refine aw_cge (tgt := 86) (pc' := 43) dX2_watchesMade_40 (by decide) rfl (fun c => absurd c8 c) (fun _ => ?_)
              refine aw_aload_n (pc' := 44) dX2_watchesMade_43 rfl rfl rfl ?_
              refine aw_get clsAll (pc' := 47) dX2_watchesMade_44 rfl fl_RX2_21 (gsn q7 (by decide) (gss e6 ((hx.2 6 (by decide) (by decide)).trans h0_6))) rfl ?_
              refine aw_iload (pc' := 49) dX2_watchesMade_47 rfl rfl ?_
              refine aw_iald (v := 0) (pc' := 50) dX2_watchesMade_49 rfl (gsn q7 (by decide) (gsn e6 (by decide) ((hx.2 10 (by decide) (by decide)).trans h0_10))) (vpc (by decide)) rfl ?_
              refine aw_iconst (v := 1) (pc' := 51) dX2_watchesMade_50 rfl (by decide) ?_
              refine aw_icmp_ne (tgt := 80) (pc' := 54) dX2_watchesMade_51 (by decide) rfl (fun _ => ?_) (fun c => absurd c (by decide))
              refine aw_iinc (lv' := [_, _, _, _, _, _]) (pc' := 83) dX2_watchesMade_80 rfl rfl (Nat.le_of_ble_eq_true rfl) rfl ?_
              refine aw_goto (tgt := 22) dX2_watchesMade_83 (by decide) ?_
              refine aw_iload (pc' := 24) dX2_watchesMade_22 rfl rfl ?_
              refine aw_bipush (v := 120) (pc' := 26) dX2_watchesMade_24 rfl (by decide) ?_
              refine aw_cge (tgt := 86) (pc' := 29) dX2_watchesMade_26 (by decide) rfl (fun c => absurd (by decide) c) (fun _ => ?_)
              refine aw_iload_n (pc' := 30) dX2_watchesMade_29 rfl rfl ?_
              refine aw_bipush (v := 9) (pc' := 32) dX2_watchesMade_30 rfl (by decide) ?_
              refine aw_cge (tgt := 86) (pc' := 35) dX2_watchesMade_32 (by decide) rfl (fun c => absurd (by decide) c) (fun _ => ?_)
              refine aw_iload (pc' := 37) dX2_watchesMade_35 rfl rfl ?_
              refine aw_iconst (v := 3) (pc' := 38) dX2_watchesMade_37 rfl (by decide) ?_
              refine aw_iload_n (pc' := 39) dX2_watchesMade_38 rfl rfl ?_
              refine aw_imul (pc' := 40) dX2_watchesMade_39 rfl ?_
              refine aw_cge (tgt := 86) (pc' := 43) dX2_watchesMade_40 (by decide) rfl (fun c => absurd c8 c) (fun _ => ?_)
              refine aw_aload_n (pc' := 44) dX2_watchesMade_43 rfl rfl rfl ?_
              refine aw_get clsAll (pc' := 47) dX2_watchesMade_44 rfl fl_RX2_21 (gsn q7 (by decide) (gss e6 ((hx.2 6 (by decide) (by decide)).trans h0_6))) rfl ?_
              refine aw_iload (pc' := 49) dX2_watchesMade_47 rfl rfl ?_
              refine aw_iald (v := 0) (pc' := 50) dX2_watchesMade_49 rfl (gsn q7 (by decide) (gsn e6 (by decide) ((hx.2 10 (by decide) (by decide)).trans h0_10))) (vpc (by decide)) rfl ?_
              refine aw_iconst (v := 1) (pc' := 51) dX2_watchesMade_50 rfl (by decide) ?_
              refine aw_icmp_ne (tgt := 80) (pc' := 54) dX2_watchesMade_51 (by decide) rfl (fun _ => ?_) (fun c => absurd c (by decide))
              refine aw_iinc (lv' := [_, _, _, _, _, _]) (pc' := 83) dX2_watchesMade_80 rfl rfl (Nat.le_of_ble_eq_true rfl) rfl ?_
              refine aw_goto (tgt := 22) dX2_watchesMade_83 (by decide) ?_
              refine aw_iload (pc' := 24) dX2_watchesMade_22 rfl rfl ?_
              refine aw_bipush (v := 120) (pc' := 26) dX2_watchesMade_24 rfl (by decide) ?_
              refine aw_cge (tgt := 86) (pc' := 29) dX2_watchesMade_26 (by decide) rfl (fun c => absurd (by decide) c) (fun _ => ?_)
              refine aw_iload_n (pc' := 30) dX2_watchesMade_29 rfl rfl ?_
              refine aw_bipush (v := 9) (pc' := 32) dX2_watchesMade_30 rfl (by decide) ?_
              refine aw_cge (tgt := 86) (pc' := 35) dX2_watchesMade_32 (by decide) rfl (fun c => absurd (by decide) c) (fun _ => ?_)
              refine aw_iload (pc' := 37) dX2_watchesMade_35 rfl rfl ?_
              refine aw_iconst (v := 3) (pc' := 38) dX2_watchesMade_37 rfl (by decide) ?_
              refine aw_iload_n (pc' := 39) dX2_watchesMade_38 rfl rfl ?_
              refine aw_imul (pc' := 40) dX2_watchesMade_39 rfl ?_
              refine aw_cge (tgt := 86) (pc' := 43) dX2_watchesMade_40 (by decide) rfl (fun c => absurd c8 c) (fun _ => ?_)
              refine aw_aload_n (pc' := 44) dX2_watchesMade_43 rfl rfl rfl ?_
              refine aw_get clsAll (pc' := 47) dX2_watchesMade_44 rfl fl_RX2_21 (gsn q7 (by decide) (gss e6 ((hx.2 6 (by decide) (by decide)).trans h0_6))) rfl ?_
              refine aw_iload (pc' := 49) dX2_watchesMade_47 rfl rfl ?_
              refine aw_iald (v := 0) (pc' := 50) dX2_watchesMade_49 rfl (gsn q7 (by decide) (gsn e6 (by decide) ((hx.2 10 (by decide) (by decide)).trans h0_10))) (vpc (by decide)) rfl ?_
              refine aw_iconst (v := 1) (pc' := 51) dX2_watchesMade_50 rfl (by decide) ?_
              refine aw_icmp_ne (tgt := 80) (pc' := 54) dX2_watchesMade_51 (by decide) rfl (fun _ => ?_) (fun c => absurd c (by decide))
              refine aw_iinc (lv' := [_, _, _, _, _, _]) (pc' := 83) dX2_watchesMade_80 rfl rfl (Nat.le_of_ble_eq_true rfl) rfl ?_
              refine aw_goto (tgt := 22) dX2_watchesMade_83 (by decide) ?_
              refine aw_iload (pc' := 24) dX2_watchesMade_22 rfl rfl ?_
              refine aw_bipush (v := 120) (pc' := 26) dX2_watchesMade_24 rfl (by decide) ?_
              refine aw_cge (tgt := 86) (pc' := 29) dX2_watchesMade_26 (by decide) rfl (fun c => absurd (by decide) c) (fun _ => ?_)
              refine aw_iload_n (pc' := 30) dX2_watchesMade_29 rfl rfl ?_
              refine aw_bipush (v := 9) (pc' := 32) dX2_watchesMade_30 rfl (by decide) ?_
              refine aw_cge (tgt := 86) (pc' := 35) dX2_watchesMade_32 (by decide) rfl (fun c => absurd (by decide) c) (fun _ => ?_)
              refine aw_iload (pc' := 37) dX2_watchesMade_35 rfl rfl ?_
              refine aw_iconst (v := 3) (pc' := 38) dX2_watchesMade_37 rfl (by decide) ?_
              refine aw_iload_n (pc' := 39) dX2_watchesMade_38 rfl rfl ?_
              refine aw_imul (pc' := 40) dX2_watchesMade_39 rfl ?_
              refine aw_cge (tgt := 86) (pc' := 43) dX2_watchesMade_40 (by decide) rfl (fun c => absurd c8 c) (fun _ => ?_)
              refine aw_aload_n (pc' := 44) dX2_watchesMade_43 rfl rfl rfl ?_
              refine aw_get clsAll (pc' := 47) dX2_watchesMade_44 rfl fl_RX2_21 (gsn q7 (by decide) (gss e6 ((hx.2 6 (by decide) (by decide)).trans h0_6))) rfl ?_
              refine aw_iload (pc' := 49) dX2_watchesMade_47 rfl rfl ?_
              refine aw_iald (v := 0) (pc' := 50) dX2_watchesMade_49 rfl (gsn q7 (by decide) (gsn e6 (by decide) ((hx.2 10 (by decide) (by decide)).trans h0_10))) (vpc (by decide)) rfl ?_
              refine aw_iconst (v := 1) (pc' := 51) dX2_watchesMade_50 rfl (by decide) ?_
              refine aw_icmp_ne (tgt := 80) (pc' := 54) dX2_watchesMade_51 (by decide) rfl (fun _ => ?_) (fun c => absurd c (by decide))
              refine aw_iinc (lv' := [_, _, _, _, _, _]) (pc' := 83) dX2_watchesMade_80 rfl rfl (Nat.le_of_ble_eq_true rfl) rfl ?_
              refine aw_goto (tgt := 22) dX2_watchesMade_83 (by decide) ?_
              refine aw_iload (pc' := 24) dX2_watchesMade_22 rfl rfl ?_
              refine aw_bipush (v := 120) (pc' := 26) dX2_watchesMade_24 rfl (by decide) ?_
              refine aw_cge (tgt := 86) (pc' := 29) dX2_watchesMade_26 (by decide) rfl (fun c => absurd (by decide) c) (fun _ => ?_)
              refine aw_iload_n (pc' := 30) dX2_watchesMade_29 rfl rfl ?_
              refine aw_bipush (v := 9) (pc' := 32) dX2_watchesMade_30 rfl (by decide) ?_
              refine aw_cge (tgt := 86) (pc' := 35) dX2_watchesMade_32 (by decide) rfl (fun c => absurd (by decide) c) (fun _ => ?_)
              refine aw_iload (pc' := 37) dX2_watchesMade_35 rfl rfl ?_
              refine aw_iconst (v := 3) (pc' := 38) dX2_watchesMade_37 rfl (by decide) ?_
              refine aw_iload_n (pc' := 39) dX2_watchesMade_38 rfl rfl ?_
              refine aw_imul (pc' := 40) dX2_watchesMade_39 rfl ?_
              refine aw_cge (tgt := 86) (pc' := 43) dX2_watchesMade_40 (by decide) rfl (fun c => absurd c8 c) (fun _ => ?_)
              refine aw_aload_n (pc' := 44) dX2_watchesMade_43 rfl rfl rfl ?_
              refine aw_get clsAll (pc' := 47) dX2_watchesMade_44 rfl fl_RX2_21 (gsn q7 (by decide) (gss e6 ((hx.2 6 (by decide) (by decide)).trans h0_6))) rfl ?_
              refine aw_iload (pc' := 49) dX2_watchesMade_47 rfl rfl ?_
              refine aw_iald (v := 0) (pc' := 50) dX2_watchesMade_49 rfl (gsn q7 (by decide) (gsn e6 (by decide) ((hx.2 10 (by decide) (by decide)).trans h0_10))) (vpc (by decide)) rfl ?_
              refine aw_iconst (v := 1) (pc' := 51) dX2_watchesMade_50 rfl (by decide) ?_
              refine aw_icmp_ne (tgt := 80) (pc' := 54) dX2_watchesMade_51 (by decide) rfl (fun _ => ?_) (fun c => absurd c (by decide))
              refine aw_iinc (lv' := [_, _, _, _, _, _]) (pc' := 83) dX2_watchesMade_80 rfl rfl (Nat.le_of_ble_eq_true rfl) rfl ?_
              refine aw_goto (tgt := 22) dX2_watchesMade_83 (by decide) ?_
              refine aw_iload (pc' := 24) dX2_watchesMade_22 rfl rfl ?_
              refine aw_bipush (v := 120) (pc' := 26) dX2_watchesMade_24 rfl (by decide) ?_
              refine aw_cge (tgt := 86) (pc' := 29) dX2_watchesMade_26 (by decide) rfl (fun c => absurd (by decide) c) (fun _ => ?_)
              refine aw_iload_n (pc' := 30) dX2_watchesMade_29 rfl rfl ?_
              refine aw_bipush (v := 9) (pc' := 32) dX2_watchesMade_30 rfl (by decide) ?_
              refine aw_cge (tgt := 86) (pc' := 35) dX2_watchesMade_32 (by decide) rfl (fun c => absurd (by decide) c) (fun _ => ?_)
              refine aw_iload (pc' := 37) dX2_watchesMade_35 rfl rfl ?_
              refine aw_iconst (v := 3) (pc' := 38) dX2_watchesMade_37 rfl (by decide) ?_
              refine aw_iload_n (pc' := 39) dX2_watchesMade_38 rfl rfl ?_
              refine aw_imul (pc' := 40) dX2_watchesMade_39 rfl ?_
              refine aw_cge (tgt := 86) (pc' := 43) dX2_watchesMade_40 (by decide) rfl (fun c => absurd c8 c) (fun _ => ?_)
              refine aw_aload_n (pc' := 44) dX2_watchesMade_43 rfl rfl rfl ?_
              refine aw_get clsAll (pc' := 47) dX2_watchesMade_44 rfl fl_RX2_21 (gsn q7 (by decide) (gss e6 ((hx.2 6 (by decide) (by decide)).trans h0_6))) rfl ?_
              refine aw_iload (pc' := 49) dX2_watchesMade_47 rfl rfl ?_
              refine aw_iald (v := 0) (pc' := 50) dX2_watchesMade_49 rfl (gsn q7 (by decide) (gsn e6 (by decide) ((hx.2 10 (by decide) (by decide)).trans h0_10))) (vpc (by decide)) rfl ?_
              refine aw_iconst (v := 1) (pc' := 51) dX2_watchesMade_50 rfl (by decide) ?_
              refine aw_icmp_ne (tgt := 80) (pc' := 54) dX2_watchesMade_51 (by decide) rfl (fun _ => ?_) (fun c => absurd c (by decide))
              refine aw_iinc (lv' := [_, _, _, _, _, _]) (pc' := 83) dX2_watchesMade_80 rfl rfl (Nat.le_of_ble_eq_true rfl) rfl ?_
              refine aw_goto (tgt := 22) dX2_watchesMade_83 (by decide) ?_
              refine aw_iload (pc' := 24) dX2_watchesMade_22 rfl rfl ?_
              refine aw_bipush (v := 120) (pc' := 26) dX2_watchesMade_24 rfl (by decide) ?_
              refine aw_cge (tgt := 86) (pc' := 29) dX2_watchesMade_26 (by decide) rfl (fun c => absurd (by decide) c) (fun _ => ?_)
              refine aw_iload_n (pc' := 30) dX2_watchesMade_29 rfl rfl ?_
              refine aw_bipush (v := 9) (pc' := 32) dX2_watchesMade_30 rfl (by decide) ?_
              refine aw_cge (tgt := 86) (pc' := 35) dX2_watchesMade_32 (by decide) rfl (fun c => absurd (by decide) c) (fun _ => ?_)
              refine aw_iload (pc' := 37) dX2_watchesMade_35 rfl rfl ?_
              refine aw_iconst (v := 3) (pc' := 38) dX2_watchesMade_37 rfl (by decide) ?_
              refine aw_iload_n (pc' := 39) dX2_watchesMade_38 rfl rfl ?_
              refine aw_imul (pc' := 40) dX2_watchesMade_39 rfl ?_
              refine aw_cge (tgt := 86) (pc' := 43) dX2_watchesMade_40 (by decide) rfl (fun c => absurd c8 c) (fun _ => ?_)
              refine aw_aload_n (pc' := 44) dX2_watchesMade_43 rfl rfl rfl ?_
              refine aw_get clsAll (pc' := 47) dX2_watchesMade_44 rfl fl_RX2_21 (gsn q7 (by decide) (gss e6 ((hx.2 6 (by decide) (by decide)).trans h0_6))) rfl ?_
              refine aw_iload (pc' := 49) dX2_watchesMade_47 rfl rfl ?_
              refine aw_iald (v := 0) (pc' := 50) dX2_watchesMade_49 rfl (gsn q7 (by decide) (gsn e6 (by decide) ((hx.2 10 (by decide) (by decide)).trans h0_10))) (vpc (by decide)) rfl ?_
              refine aw_iconst (v := 1) (pc' := 51) dX2_watchesMade_50 rfl (by decide) ?_
              refine aw_icmp_ne (tgt := 80) (pc' := 54) dX2_watchesMade_51 (by decide) rfl (fun _ => ?_) (fun c => absurd c (by decide))
              refine aw_iinc (lv' := [_, _, _, _, _, _]) (pc' := 83) dX2_watchesMade_80 rfl rfl (Nat.le_of_ble_eq_true rfl) rfl ?_
              refine aw_goto (tgt := 22) dX2_watchesMade_83 (by decide) ?_
              refine aw_iload (pc' := 24) dX2_watchesMade_22 rfl rfl ?_
              refine aw_bipush (v := 120) (pc' := 26) dX2_watchesMade_24 rfl (by decide) ?_
              refine aw_cge (tgt := 86) (pc' := 29) dX2_watchesMade_26 (by decide) rfl (fun c => absurd (by decide) c) (fun _ => ?_)
              refine aw_iload_n (pc' := 30) dX2_watchesMade_29 rfl rfl ?_
              refine aw_bipush (v := 9) (pc' := 32) dX2_watchesMade_30 rfl (by decide) ?_
              refine aw_cge (tgt := 86) (pc' := 35) dX2_watchesMade_32 (by decide) rfl (fun c => absurd (by decide) c) (fun _ => ?_)
              refine aw_iload (pc' := 37) dX2_watchesMade_35 rfl rfl ?_
              refine aw_iconst (v := 3) (pc' := 38) dX2_watchesMade_37 rfl (by decide) ?_
              refine aw_iload_n (pc' := 39) dX2_watchesMade_38 rfl rfl ?_
              refine aw_imul (pc' := 40) dX2_watchesMade_39 rfl ?_
              refine aw_cge (tgt := 86) (pc' := 43) dX2_watchesMade_40 (by decide) rfl (fun c => absurd c8 c) (fun _ => ?_)
              refine aw_aload_n (pc' := 44) dX2_watchesMade_43 rfl rfl rfl ?_
              refine aw_get clsAll (pc' := 47) dX2_watchesMade_44 rfl fl_RX2_21 (gsn q7 (by decide) (gss e6 ((hx.2 6 (by decide) (by decide)).trans h0_6))) rfl ?_
              refine aw_iload (pc' := 49) dX2_watchesMade_47 rfl rfl ?_
              refine aw_iald (v := 0) (pc' := 50) dX2_watchesMade_49 rfl (gsn q7 (by decide) (gsn e6 (by decide) ((hx.2 10 (by decide) (by decide)).trans h0_10))) (vpc (by decide)) rfl ?_
              refine aw_iconst (v := 1) (pc' := 51) dX2_watchesMade_50 rfl (by decide) ?_
              refine aw_icmp_ne (tgt := 80) (pc' := 54) dX2_watchesMade_51 (by decide) rfl (fun _ => ?_) (fun c => absurd c (by decide))
              refine aw_iinc (lv' := [_, _, _, _, _, _]) (pc' := 83) dX2_watchesMade_80 rfl rfl (Nat.le_of_ble_eq_true rfl) rfl ?_
              refine aw_goto (tgt := 22) dX2_watchesMade_83 (by decide) ?_
              refine aw_iload (pc' := 24) dX2_watchesMade_22 rfl rfl ?_
              refine aw_bipush (v := 120) (pc' := 26) dX2_watchesMade_24 rfl (by decide) ?_
              refine aw_cge (tgt := 86) (pc' := 29) dX2_watchesMade_26 (by decide) rfl (fun c => absurd (by decide) c) (fun _ => ?_)
              refine aw_iload_n (pc' := 30) dX2_watchesMade_29 rfl rfl ?_
              refine aw_bipush (v := 9) (pc' := 32) dX2_watchesMade_30 rfl (by decide) ?_
              refine aw_cge (tgt := 86) (pc' := 35) dX2_watchesMade_32 (by decide) rfl (fun c => absurd (by decide) c) (fun _ => ?_)
              refine aw_iload (pc' := 37) dX2_watchesMade_35 rfl rfl ?_
              refine aw_iconst (v := 3) (pc' := 38) dX2_watchesMade_37 rfl (by decide) ?_
              refine aw_iload_n (pc' := 39) dX2_watchesMade_38 rfl rfl ?_
              refine aw_imul (pc' := 40) dX2_watchesMade_39 rfl ?_
              refine aw_cge (tgt := 86) (pc' := 43) dX2_watchesMade_40 (by decide) rfl (fun c => absurd c8 c) (fun _ => ?_)
              refine aw_aload_n (pc' := 44) dX2_watchesMade_43 rfl rfl rfl ?_
              refine aw_get clsAll (pc' := 47) dX2_watchesMade_44 rfl fl_RX2_21 (gsn q7 (by decide) (gss e6 ((hx.2 6 (by decide) (by decide)).trans h0_6))) rfl ?_
              refine aw_iload (pc' := 49) dX2_watchesMade_47 rfl rfl ?_
              refine aw_iald (v := 0) (pc' := 50) dX2_watchesMade_49 rfl (gsn q7 (by decide) (gsn e6 (by decide) ((hx.2 10 (by decide) (by decide)).trans h0_10))) (vpc (by decide)) rfl ?_
              refine aw_iconst (v := 1) (pc' := 51) dX2_watchesMade_50 rfl (by decide) ?_
              refine aw_icmp_ne (tgt := 80) (pc' := 54) dX2_watchesMade_51 (by decide) rfl (fun _ => ?_) (fun c => absurd c (by decide))
              refine aw_iinc (lv' := [_, _, _, _, _, _]) (pc' := 83) dX2_watchesMade_80 rfl rfl (Nat.le_of_ble_eq_true rfl) rfl ?_
              refine aw_goto (tgt := 22) dX2_watchesMade_83 (by decide) ?_
              refine aw_iload (pc' := 24) dX2_watchesMade_22 rfl rfl ?_
              refine aw_bipush (v := 120) (pc' := 26) dX2_watchesMade_24 rfl (by decide) ?_
              refine aw_cge (tgt := 86) (pc' := 29) dX2_watchesMade_26 (by decide) rfl (fun c => absurd (by decide) c) (fun _ => ?_)
              refine aw_iload_n (pc' := 30) dX2_watchesMade_29 rfl rfl ?_
              refine aw_bipush (v := 9) (pc' := 32) dX2_watchesMade_30 rfl (by decide) ?_
              refine aw_cge (tgt := 86) (pc' := 35) dX2_watchesMade_32 (by decide) rfl (fun c => absurd (by decide) c) (fun _ => ?_)
              refine aw_iload (pc' := 37) dX2_watchesMade_35 rfl rfl ?_
              refine aw_iconst (v := 3) (pc' := 38) dX2_watchesMade_37 rfl (by decide) ?_
              refine aw_iload_n (pc' := 39) dX2_watchesMade_38 rfl rfl ?_
              refine aw_imul (pc' := 40) dX2_watchesMade_39 rfl ?_
              refine aw_cge (tgt := 86) (pc' := 43) dX2_watchesMade_40 (by decide) rfl (fun c => absurd c8 c) (fun _ => ?_)
              refine aw_aload_n (pc' := 44) dX2_watchesMade_43 rfl rfl rfl ?_
              refine aw_get clsAll (pc' := 47) dX2_watchesMade_44 rfl fl_RX2_21 (gsn q7 (by decide) (gss e6 ((hx.2 6 (by decide) (by decide)).trans h0_6))) rfl ?_
              refine aw_iload (pc' := 49) dX2_watchesMade_47 rfl rfl ?_
              refine aw_iald (v := 0) (pc' := 50) dX2_watchesMade_49 rfl (gsn q7 (by decide) (gsn e6 (by decide) ((hx.2 10 (by decide) (by decide)).trans h0_10))) (vpc (by decide)) rfl ?_
              refine aw_iconst (v := 1) (pc' := 51) dX2_watchesMade_50 rfl (by decide) ?_
              refine aw_icmp_ne (tgt := 80) (pc' := 54) dX2_watchesMade_51 (by decide) rfl (fun _ => ?_) (fun c => absurd c (by decide))
              refine aw_iinc (lv' := [_, _, _, _, _, _]) (pc' := 83) dX2_watchesMade_80 rfl rfl (Nat.le_of_ble_eq_true rfl) rfl ?_
              refine aw_goto (tgt := 22) dX2_watchesMade_83 (by decide) ?_
              refine aw_iload (pc' := 24) dX2_watchesMade_22 rfl rfl ?_
              refine aw_bipush (v := 120) (pc' := 26) dX2_watchesMade_24 rfl (by decide) ?_
              refine aw_cge (tgt := 86) (pc' := 29) dX2_watchesMade_26 (by decide) rfl (fun c => absurd (by decide) c) (fun _ => ?_)
              refine aw_iload_n (pc' := 30) dX2_watchesMade_29 rfl rfl ?_
              refine aw_bipush (v := 9) (pc' := 32) dX2_watchesMade_30 rfl (by decide) ?_
              refine aw_cge (tgt := 86) (pc' := 35) dX2_watchesMade_32 (by decide) rfl (fun c => absurd (by decide) c) (fun _ => ?_)
              refine aw_iload (pc' := 37) dX2_watchesMade_35 rfl rfl ?_
              refine aw_iconst (v := 3) (pc' := 38) dX2_watchesMade_37 rfl (by decide) ?_
              refine aw_iload_n (pc' := 39) dX2_watchesMade_38 rfl rfl ?_
              refine aw_imul (pc' := 40) dX2_watchesMade_39 rfl ?_
              refine aw_cge (tgt := 86) (pc' := 43) dX2_watchesMade_40 (by decide) rfl (fun c => absurd c8 c) (fun _ => ?_)
              refine aw_aload_n (pc' := 44) dX2_watchesMade_43 rfl rfl rfl ?_
              refine aw_get clsAll (pc' := 47) dX2_watchesMade_44 rfl fl_RX2_21 (gsn q7 (by decide) (gss e6 ((hx.2 6 (by decide) (by decide)).trans h0_6))) rfl ?_
              refine aw_iload (pc' := 49) dX2_watchesMade_47 rfl rfl ?_
              refine aw_iald (v := 0) (pc' := 50) dX2_watchesMade_49 rfl (gsn q7 (by decide) (gsn e6 (by decide) ((hx.2 10 (by decide) (by decide)).trans h0_10))) (vpc (by decide)) rfl ?_
              refine aw_iconst (v := 1) (pc' := 51) dX2_watchesMade_50 rfl (by decide) ?_
              refine aw_icmp_ne (tgt := 80) (pc' := 54) dX2_watchesMade_51 (by decide) rfl (fun _ => ?_) (fun c => absurd c (by decide))
              refine aw_iinc (lv' := [_, _, _, _, _, _]) (pc' := 83) dX2_watchesMade_80 rfl rfl (Nat.le_of_ble_eq_true rfl) rfl ?_
              refine aw_goto (tgt := 22) dX2_watchesMade_83 (by decide) ?_
              refine aw_iload (pc' := 24) dX2_watchesMade_22 rfl rfl ?_
              refine aw_bipush (v := 120) (pc' := 26) dX2_watchesMade_24 rfl (by decide) ?_
              refine aw_cge (tgt := 86) (pc' := 29) dX2_watchesMade_26 (by decide) rfl (fun c => absurd (by decide) c) (fun _ => ?_)
              refine aw_iload_n (pc' := 30) dX2_watchesMade_29 rfl rfl ?_
              refine aw_bipush (v := 9) (pc' := 32) dX2_watchesMade_30 rfl (by decide) ?_
              refine aw_cge (tgt := 86) (pc' := 35) dX2_watchesMade_32 (by decide) rfl (fun c => absurd (by decide) c) (fun _ => ?_)
              refine aw_iload (pc' := 37) dX2_watchesMade_35 rfl rfl ?_
              refine aw_iconst (v := 3) (pc' := 38) dX2_watchesMade_37 rfl (by decide) ?_
              refine aw_iload_n (pc' := 39) dX2_watchesMade_38 rfl rfl ?_
              refine aw_imul (pc' := 40) dX2_watchesMade_39 rfl ?_
              refine aw_cge (tgt := 86) (pc' := 43) dX2_watchesMade_40 (by decide) rfl (fun c => absurd c8 c) (fun _ => ?_)
              refine aw_aload_n (pc' := 44) dX2_watchesMade_43 rfl rfl rfl ?_
              refine aw_get clsAll (pc' := 47) dX2_watchesMade_44 rfl fl_RX2_21 (gsn q7 (by decide) (gss e6 ((hx.2 6 (by decide) (by decide)).trans h0_6))) rfl ?_
              refine aw_iload (pc' := 49) dX2_watchesMade_47 rfl rfl ?_
              refine aw_iald (v := 0) (pc' := 50) dX2_watchesMade_49 rfl (gsn q7 (by decide) (gsn e6 (by decide) ((hx.2 10 (by decide) (by decide)).trans h0_10))) (vpc (by decide)) rfl ?_
              refine aw_iconst (v := 1) (pc' := 51) dX2_watchesMade_50 rfl (by decide) ?_
              refine aw_icmp_ne (tgt := 80) (pc' := 54) dX2_watchesMade_51 (by decide) rfl (fun _ => ?_) (fun c => absurd c (by decide))
              refine aw_iinc (lv' := [_, _, _, _, _, _]) (pc' := 83) dX2_watchesMade_80 rfl rfl (Nat.le_of_ble_eq_true rfl) rfl ?_
              refine aw_goto (tgt := 22) dX2_watchesMade_83 (by decide) ?_
              refine aw_iload (pc' := 24) dX2_watchesMade_22 rfl rfl ?_
              refine aw_bipush (v := 120) (pc' := 26) dX2_watchesMade_24 rfl (by decide) ?_
              refine aw_cge (tgt := 86) (pc' := 29) dX2_watchesMade_26 (by decide) rfl (fun c => absurd (by decide) c) (fun _ => ?_)
              refine aw_iload_n (pc' := 30) dX2_watchesMade_29 rfl rfl ?_
              refine aw_bipush (v := 9) (pc' := 32) dX2_watchesMade_30 rfl (by decide) ?_
              refine aw_cge (tgt := 86) (pc' := 35) dX2_watchesMade_32 (by decide) rfl (fun c => absurd (by decide) c) (fun _ => ?_)
              refine aw_iload (pc' := 37) dX2_watchesMade_35 rfl rfl ?_
              refine aw_iconst (v := 3) (pc' := 38) dX2_watchesMade_37 rfl (by decide) ?_
              refine aw_iload_n (pc' := 39) dX2_watchesMade_38 rfl rfl ?_
              refine aw_imul (pc' := 40) dX2_watchesMade_39 rfl ?_
              refine aw_cge (tgt := 86) (pc' := 43) dX2_watchesMade_40 (by decide) rfl (fun c => absurd c8 c) (fun _ => ?_)
              refine aw_aload_n (pc' := 44) dX2_watchesMade_43 rfl rfl rfl ?_
              refine aw_get clsAll (pc' := 47) dX2_watchesMade_44 rfl fl_RX2_21 (gsn q7 (by decide) (gss e6 ((hx.2 6 (by decide) (by decide)).trans h0_6))) rfl ?_
              refine aw_iload (pc' := 49) dX2_watchesMade_47 rfl rfl ?_
              refine aw_iald (v := 0) (pc' := 50) dX2_watchesMade_49 rfl (gsn q7 (by decide) (gsn e6 (by decide) ((hx.2 10 (by decide) (by decide)).trans h0_10))) (vpc (by decide)) rfl ?_
              refine aw_iconst (v := 1) (pc' := 51) dX2_watchesMade_50 rfl (by decide) ?_
              refine aw_icmp_ne (tgt := 80) (pc' := 54) dX2_watchesMade_51 (by decide) rfl (fun _ => ?_) (fun c => absurd c (by decide))
              refine aw_iinc (lv' := [_, _, _, _, _, _]) (pc' := 83) dX2_watchesMade_80 rfl rfl (Nat.le_of_ble_eq_true rfl) rfl ?_
              refine aw_goto (tgt := 22) dX2_watchesMade_83 (by decide) ?_
              refine aw_iload (pc' := 24) dX2_watchesMade_22 rfl rfl ?_
              refine aw_bipush (v := 120) (pc' := 26) dX2_watchesMade_24 rfl (by decide) ?_
              refine aw_cge (tgt := 86) (pc' := 29) dX2_watchesMade_26 (by decide) rfl (fun c => absurd (by decide) c) (fun _ => ?_)
              refine aw_iload_n (pc' := 30) dX2_watchesMade_29 rfl rfl ?_
              refine aw_bipush (v := 9) (pc' := 32) dX2_watchesMade_30 rfl (by decide) ?_
              refine aw_cge (tgt := 86) (pc' := 35) dX2_watchesMade_32 (by decide) rfl (fun c => absurd (by decide) c) (fun _ => ?_)
              refine aw_iload (pc' := 37) dX2_watchesMade_35 rfl rfl ?_
              refine aw_iconst (v := 3) (pc' := 38) dX2_watchesMade_37 rfl (by decide) ?_
              refine aw_iload_n (pc' := 39) dX2_watchesMade_38 rfl rfl ?_
              refine aw_imul (pc' := 40) dX2_watchesMade_39 rfl ?_
              refine aw_cge (tgt := 86) (pc' := 43) dX2_watchesMade_40 (by decide) rfl (fun c => absurd c8 c) (fun _ => ?_)
              refine aw_aload_n (pc' := 44) dX2_watchesMade_43 rfl rfl rfl ?_
              refine aw_get clsAll (pc' := 47) dX2_watchesMade_44 rfl fl_RX2_21 (gsn q7 (by decide) (gss e6 ((hx.2 6 (by decide) (by decide)).trans h0_6))) rfl ?_
              refine aw_iload (pc' := 49) dX2_watchesMade_47 rfl rfl ?_
              refine aw_iald (v := 0) (pc' := 50) dX2_watchesMade_49 rfl (gsn q7 (by decide) (gsn e6 (by decide) ((hx.2 10 (by decide) (by decide)).trans h0_10))) (vpc (by decide)) rfl ?_
              refine aw_iconst (v := 1) (pc' := 51) dX2_watchesMade_50 rfl (by decide) ?_
              refine aw_icmp_ne (tgt := 80) (pc' := 54) dX2_watchesMade_51 (by decide) rfl (fun _ => ?_) (fun c => absurd c (by decide))
              refine aw_iinc (lv' := [_, _, _, _, _, _]) (pc' := 83) dX2_watchesMade_80 rfl rfl (Nat.le_of_ble_eq_true rfl) rfl ?_
              refine aw_goto (tgt := 22) dX2_watchesMade_83 (by decide) ?_
              refine aw_iload (pc' := 24) dX2_watchesMade_22 rfl rfl ?_
              refine aw_bipush (v := 120) (pc' := 26) dX2_watchesMade_24 rfl (by decide) ?_
              refine aw_cge (tgt := 86) (pc' := 29) dX2_watchesMade_26 (by decide) rfl (fun c => absurd (by decide) c) (fun _ => ?_)
              refine aw_iload_n (pc' := 30) dX2_watchesMade_29 rfl rfl ?_
              refine aw_bipush (v := 9) (pc' := 32) dX2_watchesMade_30 rfl (by decide) ?_
              refine aw_cge (tgt := 86) (pc' := 35) dX2_watchesMade_32 (by decide) rfl (fun c => absurd (by decide) c) (fun _ => ?_)
              refine aw_iload (pc' := 37) dX2_watchesMade_35 rfl rfl ?_
              refine aw_iconst (v := 3) (pc' := 38) dX2_watchesMade_37 rfl (by decide) ?_
              refine aw_iload_n (pc' := 39) dX2_watchesMade_38 rfl rfl ?_
              refine aw_imul (pc' := 40) dX2_watchesMade_39 rfl ?_
              refine aw_cge (tgt := 86) (pc' := 43) dX2_watchesMade_40 (by decide) rfl (fun c => absurd c8 c) (fun _ => ?_)
              refine aw_aload_n (pc' := 44) dX2_watchesMade_43 rfl rfl rfl ?_
              refine aw_get clsAll (pc' := 47) dX2_watchesMade_44 rfl fl_RX2_21 (gsn q7 (by decide) (gss e6 ((hx.2 6 (by decide) (by decide)).trans h0_6))) rfl ?_
              refine aw_iload (pc' := 49) dX2_watchesMade_47 rfl rfl ?_
              refine aw_iald (v := 0) (pc' := 50) dX2_watchesMade_49 rfl (gsn q7 (by decide) (gsn e6 (by decide) ((hx.2 10 (by decide) (by decide)).trans h0_10))) (vpc (by decide)) rfl ?_
              refine aw_iconst (v := 1) (pc' := 51) dX2_watchesMade_50 rfl (by decide) ?_
              refine aw_icmp_ne (tgt := 80) (pc' := 54) dX2_watchesMade_51 (by decide) rfl (fun _ => ?_) (fun c => absurd c (by decide))
              refine aw_iinc (lv' := [_, _, _, _, _, _]) (pc' := 83) dX2_watchesMade_80 rfl rfl (Nat.le_of_ble_eq_true rfl) rfl ?_
              refine aw_goto (tgt := 22) dX2_watchesMade_83 (by decide) ?_
              refine aw_iload (pc' := 24) dX2_watchesMade_22 rfl rfl ?_
              refine aw_bipush (v := 120) (pc' := 26) dX2_watchesMade_24 rfl (by decide) ?_
              refine aw_cge (tgt := 86) (pc' := 29) dX2_watchesMade_26 (by decide) rfl (fun c => absurd (by decide) c) (fun _ => ?_)
              refine aw_iload_n (pc' := 30) dX2_watchesMade_29 rfl rfl ?_
              refine aw_bipush (v := 9) (pc' := 32) dX2_watchesMade_30 rfl (by decide) ?_
              refine aw_cge (tgt := 86) (pc' := 35) dX2_watchesMade_32 (by decide) rfl (fun c => absurd (by decide) c) (fun _ => ?_)
              refine aw_iload (pc' := 37) dX2_watchesMade_35 rfl rfl ?_
              refine aw_iconst (v := 3) (pc' := 38) dX2_watchesMade_37 rfl (by decide) ?_
              refine aw_iload_n (pc' := 39) dX2_watchesMade_38 rfl rfl ?_
              refine aw_imul (pc' := 40) dX2_watchesMade_39 rfl ?_
              refine aw_cge (tgt := 86) (pc' := 43) dX2_watchesMade_40 (by decide) rfl (fun c => absurd c8 c) (fun _ => ?_)
              refine aw_aload_n (pc' := 44) dX2_watchesMade_43 rfl rfl rfl ?_
              refine aw_get clsAll (pc' := 47) dX2_watchesMade_44 rfl fl_RX2_21 (gsn q7 (by decide) (gss e6 ((hx.2 6 (by decide) (by decide)).trans h0_6))) rfl ?_
              refine aw_iload (pc' := 49) dX2_watchesMade_47 rfl rfl ?_
              refine aw_iald (v := 0) (pc' := 50) dX2_watchesMade_49 rfl (gsn q7 (by decide) (gsn e6 (by decide) ((hx.2 10 (by decide) (by decide)).trans h0_10))) (vpc (by decide)) rfl ?_
              refine aw_iconst (v := 1) (pc' := 51) dX2_watchesMade_50 rfl (by decide) ?_
              refine aw_icmp_ne (tgt := 80) (pc' := 54) dX2_watchesMade_51 (by decide) rfl (fun _ => ?_) (fun c => absurd c (by decide))
              refine aw_iinc (lv' := [_, _, _, _, _, _]) (pc' := 83) dX2_watchesMade_80 rfl rfl (Nat.le_of_ble_eq_true rfl) rfl ?_
              refine aw_goto (tgt := 22) dX2_watchesMade_83 (by decide) ?_
              refine aw_iload (pc' := 24) dX2_watchesMade_22 rfl rfl ?_
              refine aw_bipush (v := 120) (pc' := 26) dX2_watchesMade_24 rfl (by decide) ?_
              refine aw_cge (tgt := 86) (pc' := 29) dX2_watchesMade_26 (by decide) rfl (fun c => absurd (by decide) c) (fun _ => ?_)
              refine aw_iload_n (pc' := 30) dX2_watchesMade_29 rfl rfl ?_
              refine aw_bipush (v := 9) (pc' := 32) dX2_watchesMade_30 rfl (by decide) ?_
              refine aw_cge (tgt := 86) (pc' := 35) dX2_watchesMade_32 (by decide) rfl (fun c => absurd (by decide) c) (fun _ => ?_)
              refine aw_iload (pc' := 37) dX2_watchesMade_35 rfl rfl ?_
              refine aw_iconst (v := 3) (pc' := 38) dX2_watchesMade_37 rfl (by decide) ?_
              refine aw_iload_n (pc' := 39) dX2_watchesMade_38 rfl rfl ?_
              refine aw_imul (pc' := 40) dX2_watchesMade_39 rfl ?_
              refine aw_cge (tgt := 86) (pc' := 43) dX2_watchesMade_40 (by decide) rfl (fun c => absurd c8 c) (fun _ => ?_)
              refine aw_aload_n (pc' := 44) dX2_watchesMade_43 rfl rfl rfl ?_
              refine aw_get clsAll (pc' := 47) dX2_watchesMade_44 rfl fl_RX2_21 (gsn q7 (by decide) (gss e6 ((hx.2 6 (by decide) (by decide)).trans h0_6))) rfl ?_
              refine aw_iload (pc' := 49) dX2_watchesMade_47 rfl rfl ?_
              refine aw_iald (v := 0) (pc' := 50) dX2_watchesMade_49 rfl (gsn q7 (by decide) (gsn e6 (by decide) ((hx.2 10 (by decide) (by decide)).trans h0_10))) (vpc (by decide)) rfl ?_
              refine aw_iconst (v := 1) (pc' := 51) dX2_watchesMade_50 rfl (by decide) ?_
              refine aw_icmp_ne (tgt := 80) (pc' := 54) dX2_watchesMade_51 (by decide) rfl (fun _ => ?_) (fun c => absurd c (by decide))
              refine aw_iinc (lv' := [_, _, _, _, _, _]) (pc' := 83) dX2_watchesMade_80 rfl rfl (Nat.le_of_ble_eq_true rfl) rfl ?_
              refine aw_goto (tgt := 22) dX2_watchesMade_83 (by decide) ?_
              refine aw_iload (pc' := 24) dX2_watchesMade_22 rfl rfl ?_
              refine aw_bipush (v := 120) (pc' := 26) dX2_watchesMade_24 rfl (by decide) ?_
              refine aw_cge (tgt := 86) (pc' := 29) dX2_watchesMade_26 (by decide) rfl (fun c => absurd (by decide) c) (fun _ => ?_)
              refine aw_iload_n (pc' := 30) dX2_watchesMade_29 rfl rfl ?_
              refine aw_bipush (v := 9) (pc' := 32) dX2_watchesMade_30 rfl (by decide) ?_
              refine aw_cge (tgt := 86) (pc' := 35) dX2_watchesMade_32 (by decide) rfl (fun c => absurd (by decide) c) (fun _ => ?_)
              refine aw_iload (pc' := 37) dX2_watchesMade_35 rfl rfl ?_
              refine aw_iconst (v := 3) (pc' := 38) dX2_watchesMade_37 rfl (by decide) ?_
              refine aw_iload_n (pc' := 39) dX2_watchesMade_38 rfl rfl ?_
              refine aw_imul (pc' := 40) dX2_watchesMade_39 rfl ?_
              refine aw_cge (tgt := 86) (pc' := 43) dX2_watchesMade_40 (by decide) rfl (fun c => absurd c8 c) (fun _ => ?_)
              refine aw_aload_n (pc' := 44) dX2_watchesMade_43 rfl rfl rfl ?_
              refine aw_get clsAll (pc' := 47) dX2_watchesMade_44 rfl fl_RX2_21 (gsn q7 (by decide) (gss e6 ((hx.2 6 (by decide) (by decide)).trans h0_6))) rfl ?_
              refine aw_iload (pc' := 49) dX2_watchesMade_47 rfl rfl ?_
              refine aw_iald (v := 0) (pc' := 50) dX2_watchesMade_49 rfl (gsn q7 (by decide) (gsn e6 (by decide) ((hx.2 10 (by decide) (by decide)).trans h0_10))) (vpc (by decide)) rfl ?_
              refine aw_iconst (v := 1) (pc' := 51) dX2_watchesMade_50 rfl (by decide) ?_
              refine aw_icmp_ne (tgt := 80) (pc' := 54) dX2_watchesMade_51 (by decide) rfl (fun _ => ?_) (fun c => absurd c (by decide))
              refine aw_iinc (lv' := [_, _, _, _, _, _]) (pc' := 83) dX2_watchesMade_80 rfl rfl (Nat.le_of_ble_eq_true rfl) rfl ?_
              refine aw_goto (tgt := 22) dX2_watchesMade_83 (by decide) ?_
              refine aw_iload (pc' := 24) dX2_watchesMade_22 rfl rfl ?_
              refine aw_bipush (v := 120) (pc' := 26) dX2_watchesMade_24 rfl (by decide) ?_
              refine aw_cge (tgt := 86) (pc' := 29) dX2_watchesMade_26 (by decide) rfl (fun c => absurd (by decide) c) (fun _ => ?_)
              refine aw_iload_n (pc' := 30) dX2_watchesMade_29 rfl rfl ?_
              refine aw_bipush (v := 9) (pc' := 32) dX2_watchesMade_30 rfl (by decide) ?_
              refine aw_cge (tgt := 86) (pc' := 35) dX2_watchesMade_32 (by decide) rfl (fun c => absurd (by decide) c) (fun _ => ?_)
              refine aw_iload (pc' := 37) dX2_watchesMade_35 rfl rfl ?_
              refine aw_iconst (v := 3) (pc' := 38) dX2_watchesMade_37 rfl (by decide) ?_
              refine aw_iload_n (pc' := 39) dX2_watchesMade_38 rfl rfl ?_
              refine aw_imul (pc' := 40) dX2_watchesMade_39 rfl ?_
              refine aw_cge (tgt := 86) (pc' := 43) dX2_watchesMade_40 (by decide) rfl (fun c => absurd c8 c) (fun _ => ?_)
              refine aw_aload_n (pc' := 44) dX2_watchesMade_43 rfl rfl rfl ?_
              refine aw_get clsAll (pc' := 47) dX2_watchesMade_44 rfl fl_RX2_21 (gsn q7 (by decide) (gss e6 ((hx.2 6 (by decide) (by decide)).trans h0_6))) rfl ?_
              refine aw_iload (pc' := 49) dX2_watchesMade_47 rfl rfl ?_
              refine aw_iald (v := 0) (pc' := 50) dX2_watchesMade_49 rfl (gsn q7 (by decide) (gsn e6 (by decide) ((hx.2 10 (by decide) (by decide)).trans h0_10))) (vpc (by decide)) rfl ?_
              refine aw_iconst (v := 1) (pc' := 51) dX2_watchesMade_50 rfl (by decide) ?_
              refine aw_icmp_ne (tgt := 80) (pc' := 54) dX2_watchesMade_51 (by decide) rfl (fun _ => ?_) (fun c => absurd c (by decide))
              refine aw_iinc (lv' := [_, _, _, _, _, _]) (pc' := 83) dX2_watchesMade_80 rfl rfl (Nat.le_of_ble_eq_true rfl) rfl ?_
              refine aw_goto (tgt := 22) dX2_watchesMade_83 (by decide) ?_
              refine aw_iload (pc' := 24) dX2_watchesMade_22 rfl rfl ?_
              refine aw_bipush (v := 120) (pc' := 26) dX2_watchesMade_24 rfl (by decide) ?_
              refine aw_cge (tgt := 86) (pc' := 29) dX2_watchesMade_26 (by decide) rfl (fun c => absurd (by decide) c) (fun _ => ?_)
              refine aw_iload_n (pc' := 30) dX2_watchesMade_29 rfl rfl ?_
              refine aw_bipush (v := 9) (pc' := 32) dX2_watchesMade_30 rfl (by decide) ?_
              refine aw_cge (tgt := 86) (pc' := 35) dX2_watchesMade_32 (by decide) rfl (fun c => absurd (by decide) c) (fun _ => ?_)
              refine aw_iload (pc' := 37) dX2_watchesMade_35 rfl rfl ?_
              refine aw_iconst (v := 3) (pc' := 38) dX2_watchesMade_37 rfl (by decide) ?_
              refine aw_iload_n (pc' := 39) dX2_watchesMade_38 rfl rfl ?_
              refine aw_imul (pc' := 40) dX2_watchesMade_39 rfl ?_
              refine aw_cge (tgt := 86) (pc' := 43) dX2_watchesMade_40 (by decide) rfl (fun c => absurd c8 c) (fun _ => ?_)
              refine aw_aload_n (pc' := 44) dX2_watchesMade_43 rfl rfl rfl ?_
              refine aw_get clsAll (pc' := 47) dX2_watchesMade_44 rfl fl_RX2_21 (gsn q7 (by decide) (gss e6 ((hx.2 6 (by decide) (by decide)).trans h0_6))) rfl ?_
              refine aw_iload (pc' := 49) dX2_watchesMade_47 rfl rfl ?_
              refine aw_iald (v := 0) (pc' := 50) dX2_watchesMade_49 rfl (gsn q7 (by decide) (gsn e6 (by decide) ((hx.2 10 (by decide) (by decide)).trans h0_10))) (vpc (by decide)) rfl ?_
              refine aw_iconst (v := 1) (pc' := 51) dX2_watchesMade_50 rfl (by decide) ?_
              refine aw_icmp_ne (tgt := 80) (pc' := 54) dX2_watchesMade_51 (by decide) rfl (fun _ => ?_) (fun c => absurd c (by decide))
              refine aw_iinc (lv' := [_, _, _, _, _, _]) (pc' := 83) dX2_watchesMade_80 rfl rfl (Nat.le_of_ble_eq_true rfl) rfl ?_
              refine aw_goto (tgt := 22) dX2_watchesMade_83 (by decide) ?_
              refine aw_iload (pc' := 24) dX2_watchesMade_22 rfl rfl ?_
              refine aw_bipush (v := 120) (pc' := 26) dX2_watchesMade_24 rfl (by decide) ?_
              refine aw_cge (tgt := 86) (pc' := 29) dX2_watchesMade_26 (by decide) rfl (fun c => absurd (by decide) c) (fun _ => ?_)
              refine aw_iload_n (pc' := 30) dX2_watchesMade_29 rfl rfl ?_
              refine aw_bipush (v := 9) (pc' := 32) dX2_watchesMade_30 rfl (by decide) ?_
              refine aw_cge (tgt := 86) (pc' := 35) dX2_watchesMade_32 (by decide) rfl (fun c => absurd (by decide) c) (fun _ => ?_)
              refine aw_iload (pc' := 37) dX2_watchesMade_35 rfl rfl ?_
              refine aw_iconst (v := 3) (pc' := 38) dX2_watchesMade_37 rfl (by decide) ?_
              refine aw_iload_n (pc' := 39) dX2_watchesMade_38 rfl rfl ?_
              refine aw_imul (pc' := 40) dX2_watchesMade_39 rfl ?_
              refine aw_cge (tgt := 86) (pc' := 43) dX2_watchesMade_40 (by decide) rfl (fun c => absurd c8 c) (fun _ => ?_)
              refine aw_aload_n (pc' := 44) dX2_watchesMade_43 rfl rfl rfl ?_
              refine aw_get clsAll (pc' := 47) dX2_watchesMade_44 rfl fl_RX2_21 (gsn q7 (by decide) (gss e6 ((hx.2 6 (by decide) (by decide)).trans h0_6))) rfl ?_
              refine aw_iload (pc' := 49) dX2_watchesMade_47 rfl rfl ?_
              refine aw_iald (v := 0) (pc' := 50) dX2_watchesMade_49 rfl (gsn q7 (by decide) (gsn e6 (by decide) ((hx.2 10 (by decide) (by decide)).trans h0_10))) (vpc (by decide)) rfl ?_
              refine aw_iconst (v := 1) (pc' := 51) dX2_watchesMade_50 rfl (by decide) ?_
              refine aw_icmp_ne (tgt := 80) (pc' := 54) dX2_watchesMade_51 (by decide) rfl (fun _ => ?_) (fun c => absurd c (by decide))
              refine aw_iinc (lv' := [_, _, _, _, _, _]) (pc' := 83) dX2_watchesMade_80 rfl rfl (Nat.le_of_ble_eq_true rfl) rfl ?_
              refine aw_goto (tgt := 22) dX2_watchesMade_83 (by decide) ?_
              refine aw_iload (pc' := 24) dX2_watchesMade_22 rfl rfl ?_
              refine aw_bipush (v := 120) (pc' := 26) dX2_watchesMade_24 rfl (by decide) ?_
              refine aw_cge (tgt := 86) (pc' := 29) dX2_watchesMade_26 (by decide) rfl (fun c => absurd (by decide) c) (fun _ => ?_)
              refine aw_iload_n (pc' := 30) dX2_watchesMade_29 rfl rfl ?_
              refine aw_bipush (v := 9) (pc' := 32) dX2_watchesMade_30 rfl (by decide) ?_
              refine aw_cge (tgt := 86) (pc' := 35) dX2_watchesMade_32 (by decide) rfl (fun c => absurd (by decide) c) (fun _ => ?_)
              refine aw_iload (pc' := 37) dX2_watchesMade_35 rfl rfl ?_
              refine aw_iconst (v := 3) (pc' := 38) dX2_watchesMade_37 rfl (by decide) ?_
              refine aw_iload_n (pc' := 39) dX2_watchesMade_38 rfl rfl ?_
              refine aw_imul (pc' := 40) dX2_watchesMade_39 rfl ?_
              refine aw_cge (tgt := 86) (pc' := 43) dX2_watchesMade_40 (by decide) rfl (fun c => absurd c8 c) (fun _ => ?_)
              refine aw_aload_n (pc' := 44) dX2_watchesMade_43 rfl rfl rfl ?_
              refine aw_get clsAll (pc' := 47) dX2_watchesMade_44 rfl fl_RX2_21 (gsn q7 (by decide) (gss e6 ((hx.2 6 (by decide) (by decide)).trans h0_6))) rfl ?_
              refine aw_iload (pc' := 49) dX2_watchesMade_47 rfl rfl ?_
              refine aw_iald (v := 0) (pc' := 50) dX2_watchesMade_49 rfl (gsn q7 (by decide) (gsn e6 (by decide) ((hx.2 10 (by decide) (by decide)).trans h0_10))) (vpc (by decide)) rfl ?_
              refine aw_iconst (v := 1) (pc' := 51) dX2_watchesMade_50 rfl (by decide) ?_
              refine aw_icmp_ne (tgt := 80) (pc' := 54) dX2_watchesMade_51 (by decide) rfl (fun _ => ?_) (fun c => absurd c (by decide))
              refine aw_iinc (lv' := [_, _, _, _, _, _]) (pc' := 83) dX2_watchesMade_80 rfl rfl (Nat.le_of_ble_eq_true rfl) rfl ?_
              refine aw_goto (tgt := 22) dX2_watchesMade_83 (by decide) ?_
              refine aw_iload (pc' := 24) dX2_watchesMade_22 rfl rfl ?_
              refine aw_bipush (v := 120) (pc' := 26) dX2_watchesMade_24 rfl (by decide) ?_
              refine aw_cge (tgt := 86) (pc' := 29) dX2_watchesMade_26 (by decide) rfl (fun c => absurd (by decide) c) (fun _ => ?_)
              refine aw_iload_n (pc' := 30) dX2_watchesMade_29 rfl rfl ?_
              refine aw_bipush (v := 9) (pc' := 32) dX2_watchesMade_30 rfl (by decide) ?_
              refine aw_cge (tgt := 86) (pc' := 35) dX2_watchesMade_32 (by decide) rfl (fun c => absurd (by decide) c) (fun _ => ?_)
              refine aw_iload (pc' := 37) dX2_watchesMade_35 rfl rfl ?_
              refine aw_iconst (v := 3) (pc' := 38) dX2_watchesMade_37 rfl (by decide) ?_
              refine aw_iload_n (pc' := 39) dX2_watchesMade_38 rfl rfl ?_
              refine aw_imul (pc' := 40) dX2_watchesMade_39 rfl ?_
              refine aw_cge (tgt := 86) (pc' := 43) dX2_watchesMade_40 (by decide) rfl (fun c => absurd c8 c) (fun _ => ?_)
              refine aw_aload_n (pc' := 44) dX2_watchesMade_43 rfl rfl rfl ?_
              refine aw_get clsAll (pc' := 47) dX2_watchesMade_44 rfl fl_RX2_21 (gsn q7 (by decide) (gss e6 ((hx.2 6 (by decide) (by decide)).trans h0_6))) rfl ?_
              refine aw_iload (pc' := 49) dX2_watchesMade_47 rfl rfl ?_
              refine aw_iald (v := 0) (pc' := 50) dX2_watchesMade_49 rfl (gsn q7 (by decide) (gsn e6 (by decide) ((hx.2 10 (by decide) (by decide)).trans h0_10))) (vpc (by decide)) rfl ?_
              refine aw_iconst (v := 1) (pc' := 51) dX2_watchesMade_50 rfl (by decide) ?_
              refine aw_icmp_ne (tgt := 80) (pc' := 54) dX2_watchesMade_51 (by decide) rfl (fun _ => ?_) (fun c => absurd c (by decide))
              refine aw_iinc (lv' := [_, _, _, _, _, _]) (pc' := 83) dX2_watchesMade_80 rfl rfl (Nat.le_of_ble_eq_true rfl) rfl ?_
              refine aw_goto (tgt := 22) dX2_watchesMade_83 (by decide) ?_
              refine aw_iload (pc' := 24) dX2_watchesMade_22 rfl rfl ?_
              refine aw_bipush (v := 120) (pc' := 26) dX2_watchesMade_24 rfl (by decide) ?_
              refine aw_cge (tgt := 86) (pc' := 29) dX2_watchesMade_26 (by decide) rfl (fun c => absurd (by decide) c) (fun _ => ?_)
              refine aw_iload_n (pc' := 30) dX2_watchesMade_29 rfl rfl ?_
              refine aw_bipush (v := 9) (pc' := 32) dX2_watchesMade_30 rfl (by decide) ?_
              refine aw_cge (tgt := 86) (pc' := 35) dX2_watchesMade_32 (by decide) rfl (fun c => absurd (by decide) c) (fun _ => ?_)
              refine aw_iload (pc' := 37) dX2_watchesMade_35 rfl rfl ?_
              refine aw_iconst (v := 3) (pc' := 38) dX2_watchesMade_37 rfl (by decide) ?_
              refine aw_iload_n (pc' := 39) dX2_watchesMade_38 rfl rfl ?_
              refine aw_imul (pc' := 40) dX2_watchesMade_39 rfl ?_
              refine aw_cge (tgt := 86) (pc' := 43) dX2_watchesMade_40 (by decide) rfl (fun c => absurd c8 c) (fun _ => ?_)
              refine aw_aload_n (pc' := 44) dX2_watchesMade_43 rfl rfl rfl ?_
              refine aw_get clsAll (pc' := 47) dX2_watchesMade_44 rfl fl_RX2_21 (gsn q7 (by decide) (gss e6 ((hx.2 6 (by decide) (by decide)).trans h0_6))) rfl ?_
              refine aw_iload (pc' := 49) dX2_watchesMade_47 rfl rfl ?_
              refine aw_iald (v := 0) (pc' := 50) dX2_watchesMade_49 rfl (gsn q7 (by decide) (gsn e6 (by decide) ((hx.2 10 (by decide) (by decide)).trans h0_10))) (vpc (by decide)) rfl ?_
              refine aw_iconst (v := 1) (pc' := 51) dX2_watchesMade_50 rfl (by decide) ?_
              refine aw_icmp_ne (tgt := 80) (pc' := 54) dX2_watchesMade_51 (by decide) rfl (fun _ => ?_) (fun c => absurd c (by decide))
              refine aw_iinc (lv' := [_, _, _, _, _, _]) (pc' := 83) dX2_watchesMade_80 rfl rfl (Nat.le_of_ble_eq_true rfl) rfl ?_
              refine aw_goto (tgt := 22) dX2_watchesMade_83 (by decide) ?_
              refine aw_iload (pc' := 24) dX2_watchesMade_22 rfl rfl ?_
              refine aw_bipush (v := 120) (pc' := 26) dX2_watchesMade_24 rfl (by decide) ?_
              refine aw_cge (tgt := 86) (pc' := 29) dX2_watchesMade_26 (by decide) rfl (fun c => absurd (by decide) c) (fun _ => ?_)
              refine aw_iload_n (pc' := 30) dX2_watchesMade_29 rfl rfl ?_
              refine aw_bipush (v := 9) (pc' := 32) dX2_watchesMade_30 rfl (by decide) ?_
              refine aw_cge (tgt := 86) (pc' := 35) dX2_watchesMade_32 (by decide) rfl (fun c => absurd (by decide) c) (fun _ => ?_)
              refine aw_iload (pc' := 37) dX2_watchesMade_35 rfl rfl ?_
              refine aw_iconst (v := 3) (pc' := 38) dX2_watchesMade_37 rfl (by decide) ?_
              refine aw_iload_n (pc' := 39) dX2_watchesMade_38 rfl rfl ?_
              refine aw_imul (pc' := 40) dX2_watchesMade_39 rfl ?_
              refine aw_cge (tgt := 86) (pc' := 43) dX2_watchesMade_40 (by decide) rfl (fun c => absurd c8 c) (fun _ => ?_)
              refine aw_aload_n (pc' := 44) dX2_watchesMade_43 rfl rfl rfl ?_
              refine aw_get clsAll (pc' := 47) dX2_watchesMade_44 rfl fl_RX2_21 (gsn q7 (by decide) (gss e6 ((hx.2 6 (by decide) (by decide)).trans h0_6))) rfl ?_
              refine aw_iload (pc' := 49) dX2_watchesMade_47 rfl rfl ?_
              refine aw_iald (v := 0) (pc' := 50) dX2_watchesMade_49 rfl (gsn q7 (by decide) (gsn e6 (by decide) ((hx.2 10 (by decide) (by decide)).trans h0_10))) (vpc (by decide)) rfl ?_
              refine aw_iconst (v := 1) (pc' := 51) dX2_watchesMade_50 rfl (by decide) ?_
              refine aw_icmp_ne (tgt := 80) (pc' := 54) dX2_watchesMade_51 (by decide) rfl (fun _ => ?_) (fun c => absurd c (by decide))
              refine aw_iinc (lv' := [_, _, _, _, _, _]) (pc' := 83) dX2_watchesMade_80 rfl rfl (Nat.le_of_ble_eq_true rfl) rfl ?_
              refine aw_goto (tgt := 22) dX2_watchesMade_83 (by decide) ?_
              refine aw_iload (pc' := 24) dX2_watchesMade_22 rfl rfl ?_
              refine aw_bipush (v := 120) (pc' := 26) dX2_watchesMade_24 rfl (by decide) ?_
              refine aw_cge (tgt := 86) (pc' := 29) dX2_watchesMade_26 (by decide) rfl (fun c => absurd (by decide) c) (fun _ => ?_)
              refine aw_iload_n (pc' := 30) dX2_watchesMade_29 rfl rfl ?_
              refine aw_bipush (v := 9) (pc' := 32) dX2_watchesMade_30 rfl (by decide) ?_
              refine aw_cge (tgt := 86) (pc' := 35) dX2_watchesMade_32 (by decide) rfl (fun c => absurd (by decide) c) (fun _ => ?_)
              refine aw_iload (pc' := 37) dX2_watchesMade_35 rfl rfl ?_
              refine aw_iconst (v := 3) (pc' := 38) dX2_watchesMade_37 rfl (by decide) ?_
              refine aw_iload_n (pc' := 39) dX2_watchesMade_38 rfl rfl ?_
              refine aw_imul (pc' := 40) dX2_watchesMade_39 rfl ?_
              refine aw_cge (tgt := 86) (pc' := 43) dX2_watchesMade_40 (by decide) rfl (fun c => absurd c8 c) (fun _ => ?_)
              refine aw_aload_n (pc' := 44) dX2_watchesMade_43 rfl rfl rfl ?_
              refine aw_get clsAll (pc' := 47) dX2_watchesMade_44 rfl fl_RX2_21 (gsn q7 (by decide) (gss e6 ((hx.2 6 (by decide) (by decide)).trans h0_6))) rfl ?_
              refine aw_iload (pc' := 49) dX2_watchesMade_47 rfl rfl ?_
              refine aw_iald (v := 0) (pc' := 50) dX2_watchesMade_49 rfl (gsn q7 (by decide) (gsn e6 (by decide) ((hx.2 10 (by decide) (by decide)).trans h0_10))) (vpc (by decide)) rfl ?_
              refine aw_iconst (v := 1) (pc' := 51) dX2_watchesMade_50 rfl (by decide) ?_
              refine aw_icmp_ne (tgt := 80) (pc' := 54) dX2_watchesMade_51 (by decide) rfl (fun _ => ?_) (fun c => absurd c (by decide))
              refine aw_iinc (lv' := [_, _, _, _, _, _]) (pc' := 83) dX2_watchesMade_80 rfl rfl (Nat.le_of_ble_eq_true rfl) rfl ?_
              refine aw_goto (tgt := 22) dX2_watchesMade_83 (by decide) ?_
              refine aw_iload (pc' := 24) dX2_watchesMade_22 rfl rfl ?_
              refine aw_bipush (v := 120) (pc' := 26) dX2_watchesMade_24 rfl (by decide) ?_
              refine aw_cge (tgt := 86) (pc' := 29) dX2_watchesMade_26 (by decide) rfl (fun c => absurd (by decide) c) (fun _ => ?_)
              refine aw_iload_n (pc' := 30) dX2_watchesMade_29 rfl rfl ?_
              refine aw_bipush (v := 9) (pc' := 32) dX2_watchesMade_30 rfl (by decide) ?_
              refine aw_cge (tgt := 86) (pc' := 35) dX2_watchesMade_32 (by decide) rfl (fun c => absurd (by decide) c) (fun _ => ?_)
              refine aw_iload (pc' := 37) dX2_watchesMade_35 rfl rfl ?_
              refine aw_iconst (v := 3) (pc' := 38) dX2_watchesMade_37 rfl (by decide) ?_
              refine aw_iload_n (pc' := 39) dX2_watchesMade_38 rfl rfl ?_
              refine aw_imul (pc' := 40) dX2_watchesMade_39 rfl ?_
              refine aw_cge (tgt := 86) (pc' := 43) dX2_watchesMade_40 (by decide) rfl (fun c => absurd c8 c) (fun _ => ?_)
              refine aw_aload_n (pc' := 44) dX2_watchesMade_43 rfl rfl rfl ?_
              refine aw_get clsAll (pc' := 47) dX2_watchesMade_44 rfl fl_RX2_21 (gsn q7 (by decide) (gss e6 ((hx.2 6 (by decide) (by decide)).trans h0_6))) rfl ?_
              refine aw_iload (pc' := 49) dX2_watchesMade_47 rfl rfl ?_
              refine aw_iald (v := 0) (pc' := 50) dX2_watchesMade_49 rfl (gsn q7 (by decide) (gsn e6 (by decide) ((hx.2 10 (by decide) (by decide)).trans h0_10))) (vpc (by decide)) rfl ?_
              refine aw_iconst (v := 1) (pc' := 51) dX2_watchesMade_50 rfl (by decide) ?_
              refine aw_icmp_ne (tgt := 80) (pc' := 54) dX2_watchesMade_51 (by decide) rfl (fun _ => ?_) (fun c => absurd c (by decide))
              refine aw_iinc (lv' := [_, _, _, _, _, _]) (pc' := 83) dX2_watchesMade_80 rfl rfl (Nat.le_of_ble_eq_true rfl) rfl ?_
              refine aw_goto (tgt := 22) dX2_watchesMade_83 (by decide) ?_
              refine aw_iload (pc' := 24) dX2_watchesMade_22 rfl rfl ?_
              refine aw_bipush (v := 120) (pc' := 26) dX2_watchesMade_24 rfl (by decide) ?_
              refine aw_cge (tgt := 86) (pc' := 29) dX2_watchesMade_26 (by decide) rfl (fun c => absurd (by decide) c) (fun _ => ?_)
              refine aw_iload_n (pc' := 30) dX2_watchesMade_29 rfl rfl ?_
              refine aw_bipush (v := 9) (pc' := 32) dX2_watchesMade_30 rfl (by decide) ?_
              refine aw_cge (tgt := 86) (pc' := 35) dX2_watchesMade_32 (by decide) rfl (fun c => absurd (by decide) c) (fun _ => ?_)
              refine aw_iload (pc' := 37) dX2_watchesMade_35 rfl rfl ?_
              refine aw_iconst (v := 3) (pc' := 38) dX2_watchesMade_37 rfl (by decide) ?_
              refine aw_iload_n (pc' := 39) dX2_watchesMade_38 rfl rfl ?_
              refine aw_imul (pc' := 40) dX2_watchesMade_39 rfl ?_
              refine aw_cge (tgt := 86) (pc' := 43) dX2_watchesMade_40 (by decide) rfl (fun c => absurd c8 c) (fun _ => ?_)
              refine aw_aload_n (pc' := 44) dX2_watchesMade_43 rfl rfl rfl ?_
              refine aw_get clsAll (pc' := 47) dX2_watchesMade_44 rfl fl_RX2_21 (gsn q7 (by decide) (gss e6 ((hx.2 6 (by decide) (by decide)).trans h0_6))) rfl ?_
              refine aw_iload (pc' := 49) dX2_watchesMade_47 rfl rfl ?_
              refine aw_iald (v := 0) (pc' := 50) dX2_watchesMade_49 rfl (gsn q7 (by decide) (gsn e6 (by decide) ((hx.2 10 (by decide) (by decide)).trans h0_10))) (vpc (by decide)) rfl ?_
              refine aw_iconst (v := 1) (pc' := 51) dX2_watchesMade_50 rfl (by decide) ?_
              refine aw_icmp_ne (tgt := 80) (pc' := 54) dX2_watchesMade_51 (by decide) rfl (fun _ => ?_) (fun c => absurd c (by decide))
              refine aw_iinc (lv' := [_, _, _, _, _, _]) (pc' := 83) dX2_watchesMade_80 rfl rfl (Nat.le_of_ble_eq_true rfl) rfl ?_
              refine aw_goto (tgt := 22) dX2_watchesMade_83 (by decide) ?_
              refine aw_iload (pc' := 24) dX2_watchesMade_22 rfl rfl ?_
              refine aw_bipush (v := 120) (pc' := 26) dX2_watchesMade_24 rfl (by decide) ?_
              refine aw_cge (tgt := 86) (pc' := 29) dX2_watchesMade_26 (by decide) rfl (fun c => absurd (by decide) c) (fun _ => ?_)
              refine aw_iload_n (pc' := 30) dX2_watchesMade_29 rfl rfl ?_
              refine aw_bipush (v := 9) (pc' := 32) dX2_watchesMade_30 rfl (by decide) ?_
              refine aw_cge (tgt := 86) (pc' := 35) dX2_watchesMade_32 (by decide) rfl (fun c => absurd (by decide) c) (fun _ => ?_)
              refine aw_iload (pc' := 37) dX2_watchesMade_35 rfl rfl ?_
              refine aw_iconst (v := 3) (pc' := 38) dX2_watchesMade_37 rfl (by decide) ?_
              refine aw_iload_n (pc' := 39) dX2_watchesMade_38 rfl rfl ?_
              refine aw_imul (pc' := 40) dX2_watchesMade_39 rfl ?_
              refine aw_cge (tgt := 86) (pc' := 43) dX2_watchesMade_40 (by decide) rfl (fun c => absurd c8 c) (fun _ => ?_)
              refine aw_aload_n (pc' := 44) dX2_watchesMade_43 rfl rfl rfl ?_
              refine aw_get clsAll (pc' := 47) dX2_watchesMade_44 rfl fl_RX2_21 (gsn q7 (by decide) (gss e6 ((hx.2 6 (by decide) (by decide)).trans h0_6))) rfl ?_
              refine aw_iload (pc' := 49) dX2_watchesMade_47 rfl rfl ?_
              refine aw_iald (v := 0) (pc' := 50) dX2_watchesMade_49 rfl (gsn q7 (by decide) (gsn e6 (by decide) ((hx.2 10 (by decide) (by decide)).trans h0_10))) (vpc (by decide)) rfl ?_
              refine aw_iconst (v := 1) (pc' := 51) dX2_watchesMade_50 rfl (by decide) ?_
              refine aw_icmp_ne (tgt := 80) (pc' := 54) dX2_watchesMade_51 (by decide) rfl (fun _ => ?_) (fun c => absurd c (by decide))
              refine aw_iinc (lv' := [_, _, _, _, _, _]) (pc' := 83) dX2_watchesMade_80 rfl rfl (Nat.le_of_ble_eq_true rfl) rfl ?_
              refine aw_goto (tgt := 22) dX2_watchesMade_83 (by decide) ?_
              refine aw_iload (pc' := 24) dX2_watchesMade_22 rfl rfl ?_
              refine aw_bipush (v := 120) (pc' := 26) dX2_watchesMade_24 rfl (by decide) ?_
              refine aw_cge (tgt := 86) (pc' := 29) dX2_watchesMade_26 (by decide) rfl (fun c => absurd (by decide) c) (fun _ => ?_)
              refine aw_iload_n (pc' := 30) dX2_watchesMade_29 rfl rfl ?_
              refine aw_bipush (v := 9) (pc' := 32) dX2_watchesMade_30 rfl (by decide) ?_
              refine aw_cge (tgt := 86) (pc' := 35) dX2_watchesMade_32 (by decide) rfl (fun c => absurd (by decide) c) (fun _ => ?_)
              refine aw_iload (pc' := 37) dX2_watchesMade_35 rfl rfl ?_
              refine aw_iconst (v := 3) (pc' := 38) dX2_watchesMade_37 rfl (by decide) ?_
              refine aw_iload_n (pc' := 39) dX2_watchesMade_38 rfl rfl ?_
              refine aw_imul (pc' := 40) dX2_watchesMade_39 rfl ?_
              refine aw_cge (tgt := 86) (pc' := 43) dX2_watchesMade_40 (by decide) rfl (fun c => absurd c8 c) (fun _ => ?_)
              refine aw_aload_n (pc' := 44) dX2_watchesMade_43 rfl rfl rfl ?_
              refine aw_get clsAll (pc' := 47) dX2_watchesMade_44 rfl fl_RX2_21 (gsn q7 (by decide) (gss e6 ((hx.2 6 (by decide) (by decide)).trans h0_6))) rfl ?_
              refine aw_iload (pc' := 49) dX2_watchesMade_47 rfl rfl ?_
              refine aw_iald (v := 0) (pc' := 50) dX2_watchesMade_49 rfl (gsn q7 (by decide) (gsn e6 (by decide) ((hx.2 10 (by decide) (by decide)).trans h0_10))) (vpc (by decide)) rfl ?_
              refine aw_iconst (v := 1) (pc' := 51) dX2_watchesMade_50 rfl (by decide) ?_
              refine aw_icmp_ne (tgt := 80) (pc' := 54) dX2_watchesMade_51 (by decide) rfl (fun _ => ?_) (fun c => absurd c (by decide))
              refine aw_iinc (lv' := [_, _, _, _, _, _]) (pc' := 83) dX2_watchesMade_80 rfl rfl (Nat.le_of_ble_eq_true rfl) rfl ?_
              refine aw_goto (tgt := 22) dX2_watchesMade_83 (by decide) ?_
              refine aw_iload (pc' := 24) dX2_watchesMade_22 rfl rfl ?_
              refine aw_bipush (v := 120) (pc' := 26) dX2_watchesMade_24 rfl (by decide) ?_
              refine aw_cge (tgt := 86) (pc' := 29) dX2_watchesMade_26 (by decide) rfl (fun c => absurd (by decide) c) (fun _ => ?_)
              refine aw_iload_n (pc' := 30) dX2_watchesMade_29 rfl rfl ?_
              refine aw_bipush (v := 9) (pc' := 32) dX2_watchesMade_30 rfl (by decide) ?_
              refine aw_cge (tgt := 86) (pc' := 35) dX2_watchesMade_32 (by decide) rfl (fun c => absurd (by decide) c) (fun _ => ?_)
              refine aw_iload (pc' := 37) dX2_watchesMade_35 rfl rfl ?_
              refine aw_iconst (v := 3) (pc' := 38) dX2_watchesMade_37 rfl (by decide) ?_
              refine aw_iload_n (pc' := 39) dX2_watchesMade_38 rfl rfl ?_
              refine aw_imul (pc' := 40) dX2_watchesMade_39 rfl ?_
              refine aw_cge (tgt := 86) (pc' := 43) dX2_watchesMade_40 (by decide) rfl (fun c => absurd c8 c) (fun _ => ?_)
              refine aw_aload_n (pc' := 44) dX2_watchesMade_43 rfl rfl rfl ?_
              refine aw_get clsAll (pc' := 47) dX2_watchesMade_44 rfl fl_RX2_21 (gsn q7 (by decide) (gss e6 ((hx.2 6 (by decide) (by decide)).trans h0_6))) rfl ?_
              refine aw_iload (pc' := 49) dX2_watchesMade_47 rfl rfl ?_
              refine aw_iald (v := 0) (pc' := 50) dX2_watchesMade_49 rfl (gsn q7 (by decide) (gsn e6 (by decide) ((hx.2 10 (by decide) (by decide)).trans h0_10))) (vpc (by decide)) rfl ?_
              refine aw_iconst (v := 1) (pc' := 51) dX2_watchesMade_50 rfl (by decide) ?_
              refine aw_icmp_ne (tgt := 80) (pc' := 54) dX2_watchesMade_51 (by decide) rfl (fun _ => ?_) (fun c => absurd c (by decide))
              refine aw_iinc (lv' := [_, _, _, _, _, _]) (pc' := 83) dX2_watchesMade_80 rfl rfl (Nat.le_of_ble_eq_true rfl) rfl ?_
              refine aw_goto (tgt := 22) dX2_watchesMade_83 (by decide) ?_
              refine aw_iload (pc' := 24) dX2_watchesMade_22 rfl rfl ?_
              refine aw_bipush (v := 120) (pc' := 26) dX2_watchesMade_24 rfl (by decide) ?_
              refine aw_cge (tgt := 86) (pc' := 29) dX2_watchesMade_26 (by decide) rfl (fun c => absurd (by decide) c) (fun _ => ?_)
              refine aw_iload_n (pc' := 30) dX2_watchesMade_29 rfl rfl ?_
              refine aw_bipush (v := 9) (pc' := 32) dX2_watchesMade_30 rfl (by decide) ?_
              refine aw_cge (tgt := 86) (pc' := 35) dX2_watchesMade_32 (by decide) rfl (fun c => absurd (by decide) c) (fun _ => ?_)
              refine aw_iload (pc' := 37) dX2_watchesMade_35 rfl rfl ?_
              refine aw_iconst (v := 3) (pc' := 38) dX2_watchesMade_37 rfl (by decide) ?_
              refine aw_iload_n (pc' := 39) dX2_watchesMade_38 rfl rfl ?_
              refine aw_imul (pc' := 40) dX2_watchesMade_39 rfl ?_
              refine aw_cge (tgt := 86) (pc' := 43) dX2_watchesMade_40 (by decide) rfl (fun c => absurd c8 c) (fun _ => ?_)
              refine aw_aload_n (pc' := 44) dX2_watchesMade_43 rfl rfl rfl ?_
              refine aw_get clsAll (pc' := 47) dX2_watchesMade_44 rfl fl_RX2_21 (gsn q7 (by decide) (gss e6 ((hx.2 6 (by decide) (by decide)).trans h0_6))) rfl ?_
              refine aw_iload (pc' := 49) dX2_watchesMade_47 rfl rfl ?_
              refine aw_iald (v := 0) (pc' := 50) dX2_watchesMade_49 rfl (gsn q7 (by decide) (gsn e6 (by decide) ((hx.2 10 (by decide) (by decide)).trans h0_10))) (vpc (by decide)) rfl ?_
              refine aw_iconst (v := 1) (pc' := 51) dX2_watchesMade_50 rfl (by decide) ?_
              refine aw_icmp_ne (tgt := 80) (pc' := 54) dX2_watchesMade_51 (by decide) rfl (fun _ => ?_) (fun c => absurd c (by decide))
              refine aw_iinc (lv' := [_, _, _, _, _, _]) (pc' := 83) dX2_watchesMade_80 rfl rfl (Nat.le_of_ble_eq_true rfl) rfl ?_
              refine aw_goto (tgt := 22) dX2_watchesMade_83 (by decide) ?_
              refine aw_iload (pc' := 24) dX2_watchesMade_22 rfl rfl ?_
              refine aw_bipush (v := 120) (pc' := 26) dX2_watchesMade_24 rfl (by decide) ?_
              refine aw_cge (tgt := 86) (pc' := 29) dX2_watchesMade_26 (by decide) rfl (fun c => absurd (by decide) c) (fun _ => ?_)
              refine aw_iload_n (pc' := 30) dX2_watchesMade_29 rfl rfl ?_
              refine aw_bipush (v := 9) (pc' := 32) dX2_watchesMade_30 rfl (by decide) ?_
              refine aw_cge (tgt := 86) (pc' := 35) dX2_watchesMade_32 (by decide) rfl (fun c => absurd (by decide) c) (fun _ => ?_)
              refine aw_iload (pc' := 37) dX2_watchesMade_35 rfl rfl ?_
              refine aw_iconst (v := 3) (pc' := 38) dX2_watchesMade_37 rfl (by decide) ?_
              refine aw_iload_n (pc' := 39) dX2_watchesMade_38 rfl rfl ?_
              refine aw_imul (pc' := 40) dX2_watchesMade_39 rfl ?_
              refine aw_cge (tgt := 86) (pc' := 43) dX2_watchesMade_40 (by decide) rfl (fun c => absurd c8 c) (fun _ => ?_)
              refine aw_aload_n (pc' := 44) dX2_watchesMade_43 rfl rfl rfl ?_
              refine aw_get clsAll (pc' := 47) dX2_watchesMade_44 rfl fl_RX2_21 (gsn q7 (by decide) (gss e6 ((hx.2 6 (by decide) (by decide)).trans h0_6))) rfl ?_
              refine aw_iload (pc' := 49) dX2_watchesMade_47 rfl rfl ?_
              refine aw_iald (v := 0) (pc' := 50) dX2_watchesMade_49 rfl (gsn q7 (by decide) (gsn e6 (by decide) ((hx.2 10 (by decide) (by decide)).trans h0_10))) (vpc (by decide)) rfl ?_
              refine aw_iconst (v := 1) (pc' := 51) dX2_watchesMade_50 rfl (by decide) ?_
              refine aw_icmp_ne (tgt := 80) (pc' := 54) dX2_watchesMade_51 (by decide) rfl (fun _ => ?_) (fun c => absurd c (by decide))
              refine aw_iinc (lv' := [_, _, _, _, _, _]) (pc' := 83) dX2_watchesMade_80 rfl rfl (Nat.le_of_ble_eq_true rfl) rfl ?_
              refine aw_goto (tgt := 22) dX2_watchesMade_83 (by decide) ?_
              refine aw_iload (pc' := 24) dX2_watchesMade_22 rfl rfl ?_
              refine aw_bipush (v := 120) (pc' := 26) dX2_watchesMade_24 rfl (by decide) ?_
              refine aw_cge (tgt := 86) (pc' := 29) dX2_watchesMade_26 (by decide) rfl (fun c => absurd (by decide) c) (fun _ => ?_)
              refine aw_iload_n (pc' := 30) dX2_watchesMade_29 rfl rfl ?_
              refine aw_bipush (v := 9) (pc' := 32) dX2_watchesMade_30 rfl (by decide) ?_
              refine aw_cge (tgt := 86) (pc' := 35) dX2_watchesMade_32 (by decide) rfl (fun c => absurd (by decide) c) (fun _ => ?_)
              refine aw_iload (pc' := 37) dX2_watchesMade_35 rfl rfl ?_
              refine aw_iconst (v := 3) (pc' := 38) dX2_watchesMade_37 rfl (by decide) ?_
              refine aw_iload_n (pc' := 39) dX2_watchesMade_38 rfl rfl ?_
              refine aw_imul (pc' := 40) dX2_watchesMade_39 rfl ?_
              refine aw_cge (tgt := 86) (pc' := 43) dX2_watchesMade_40 (by decide) rfl (fun c => absurd c8 c) (fun _ => ?_)
              refine aw_aload_n (pc' := 44) dX2_watchesMade_43 rfl rfl rfl ?_
              refine aw_get clsAll (pc' := 47) dX2_watchesMade_44 rfl fl_RX2_21 (gsn q7 (by decide) (gss e6 ((hx.2 6 (by decide) (by decide)).trans h0_6))) rfl ?_
              refine aw_iload (pc' := 49) dX2_watchesMade_47 rfl rfl ?_
              refine aw_iald (v := 0) (pc' := 50) dX2_watchesMade_49 rfl (gsn q7 (by decide) (gsn e6 (by decide) ((hx.2 10 (by decide) (by decide)).trans h0_10))) (vpc (by decide)) rfl ?_
              refine aw_iconst (v := 1) (pc' := 51) dX2_watchesMade_50 rfl (by decide) ?_
              refine aw_icmp_ne (tgt := 80) (pc' := 54) dX2_watchesMade_51 (by decide) rfl (fun _ => ?_) (fun c => absurd c (by decide))
              refine aw_iinc (lv' := [_, _, _, _, _, _]) (pc' := 83) dX2_watchesMade_80 rfl rfl (Nat.le_of_ble_eq_true rfl) rfl ?_
              refine aw_goto (tgt := 22) dX2_watchesMade_83 (by decide) ?_
              refine aw_iload (pc' := 24) dX2_watchesMade_22 rfl rfl ?_
              refine aw_bipush (v := 120) (pc' := 26) dX2_watchesMade_24 rfl (by decide) ?_
              refine aw_cge (tgt := 86) (pc' := 29) dX2_watchesMade_26 (by decide) rfl (fun c => absurd (by decide) c) (fun _ => ?_)
              refine aw_iload_n (pc' := 30) dX2_watchesMade_29 rfl rfl ?_
              refine aw_bipush (v := 9) (pc' := 32) dX2_watchesMade_30 rfl (by decide) ?_
              refine aw_cge (tgt := 86) (pc' := 35) dX2_watchesMade_32 (by decide) rfl (fun c => absurd (by decide) c) (fun _ => ?_)
              refine aw_iload (pc' := 37) dX2_watchesMade_35 rfl rfl ?_
              refine aw_iconst (v := 3) (pc' := 38) dX2_watchesMade_37 rfl (by decide) ?_
              refine aw_iload_n (pc' := 39) dX2_watchesMade_38 rfl rfl ?_
              refine aw_imul (pc' := 40) dX2_watchesMade_39 rfl ?_
              refine aw_cge (tgt := 86) (pc' := 43) dX2_watchesMade_40 (by decide) rfl (fun c => absurd c8 c) (fun _ => ?_)
              refine aw_aload_n (pc' := 44) dX2_watchesMade_43 rfl rfl rfl ?_
              refine aw_get clsAll (pc' := 47) dX2_watchesMade_44 rfl fl_RX2_21 (gsn q7 (by decide) (gss e6 ((hx.2 6 (by decide) (by decide)).trans h0_6))) rfl ?_
              refine aw_iload (pc' := 49) dX2_watchesMade_47 rfl rfl ?_
              refine aw_iald (v := 0) (pc' := 50) dX2_watchesMade_49 rfl (gsn q7 (by decide) (gsn e6 (by decide) ((hx.2 10 (by decide) (by decide)).trans h0_10))) (vpc (by decide)) rfl ?_
              refine aw_iconst (v := 1) (pc' := 51) dX2_watchesMade_50 rfl (by decide) ?_
              refine aw_icmp_ne (tgt := 80) (pc' := 54) dX2_watchesMade_51 (by decide) rfl (fun _ => ?_) (fun c => absurd c (by decide))
              refine aw_iinc (lv' := [_, _, _, _, _, _]) (pc' := 83) dX2_watchesMade_80 rfl rfl (Nat.le_of_ble_eq_true rfl) rfl ?_
              refine aw_goto (tgt := 22) dX2_watchesMade_83 (by decide) ?_
              refine aw_iload (pc' := 24) dX2_watchesMade_22 rfl rfl ?_
              refine aw_bipush (v := 120) (pc' := 26) dX2_watchesMade_24 rfl (by decide) ?_
              refine aw_cge (tgt := 86) (pc' := 29) dX2_watchesMade_26 (by decide) rfl (fun c => absurd (by decide) c) (fun _ => ?_)
              refine aw_iload_n (pc' := 30) dX2_watchesMade_29 rfl rfl ?_
              refine aw_bipush (v := 9) (pc' := 32) dX2_watchesMade_30 rfl (by decide) ?_
              refine aw_cge (tgt := 86) (pc' := 35) dX2_watchesMade_32 (by decide) rfl (fun c => absurd (by decide) c) (fun _ => ?_)
              refine aw_iload (pc' := 37) dX2_watchesMade_35 rfl rfl ?_
              refine aw_iconst (v := 3) (pc' := 38) dX2_watchesMade_37 rfl (by decide) ?_
              refine aw_iload_n (pc' := 39) dX2_watchesMade_38 rfl rfl ?_
              refine aw_imul (pc' := 40) dX2_watchesMade_39 rfl ?_
              refine aw_cge (tgt := 86) (pc' := 43) dX2_watchesMade_40 (by decide) rfl (fun c => absurd c8 c) (fun _ => ?_)
              refine aw_aload_n (pc' := 44) dX2_watchesMade_43 rfl rfl rfl ?_
              refine aw_get clsAll (pc' := 47) dX2_watchesMade_44 rfl fl_RX2_21 (gsn q7 (by decide) (gss e6 ((hx.2 6 (by decide) (by decide)).trans h0_6))) rfl ?_
              refine aw_iload (pc' := 49) dX2_watchesMade_47 rfl rfl ?_
              refine aw_iald (v := 0) (pc' := 50) dX2_watchesMade_49 rfl (gsn q7 (by decide) (gsn e6 (by decide) ((hx.2 10 (by decide) (by decide)).trans h0_10))) (vpc (by decide)) rfl ?_
              refine aw_iconst (v := 1) (pc' := 51) dX2_watchesMade_50 rfl (by decide) ?_
              refine aw_icmp_ne (tgt := 80) (pc' := 54) dX2_watchesMade_51 (by decide) rfl (fun _ => ?_) (fun c => absurd c (by decide))
              refine aw_iinc (lv' := [_, _, _, _, _, _]) (pc' := 83) dX2_watchesMade_80 rfl rfl (Nat.le_of_ble_eq_true rfl) rfl ?_
              refine aw_goto (tgt := 22) dX2_watchesMade_83 (by decide) ?_
              refine aw_iload (pc' := 24) dX2_watchesMade_22 rfl rfl ?_
              refine aw_bipush (v := 120) (pc' := 26) dX2_watchesMade_24 rfl (by decide) ?_
              refine aw_cge (tgt := 86) (pc' := 29) dX2_watchesMade_26 (by decide) rfl (fun c => absurd (by decide) c) (fun _ => ?_)
              refine aw_iload_n (pc' := 30) dX2_watchesMade_29 rfl rfl ?_
              refine aw_bipush (v := 9) (pc' := 32) dX2_watchesMade_30 rfl (by decide) ?_
              refine aw_cge (tgt := 86) (pc' := 35) dX2_watchesMade_32 (by decide) rfl (fun c => absurd (by decide) c) (fun _ => ?_)
              refine aw_iload (pc' := 37) dX2_watchesMade_35 rfl rfl ?_
              refine aw_iconst (v := 3) (pc' := 38) dX2_watchesMade_37 rfl (by decide) ?_
              refine aw_iload_n (pc' := 39) dX2_watchesMade_38 rfl rfl ?_
              refine aw_imul (pc' := 40) dX2_watchesMade_39 rfl ?_
              refine aw_cge (tgt := 86) (pc' := 43) dX2_watchesMade_40 (by decide) rfl (fun c => absurd c8 c) (fun _ => ?_)
              refine aw_aload_n (pc' := 44) dX2_watchesMade_43 rfl rfl rfl ?_
              refine aw_get clsAll (pc' := 47) dX2_watchesMade_44 rfl fl_RX2_21 (gsn q7 (by decide) (gss e6 ((hx.2 6 (by decide) (by decide)).trans h0_6))) rfl ?_
              refine aw_iload (pc' := 49) dX2_watchesMade_47 rfl rfl ?_
              refine aw_iald (v := 0) (pc' := 50) dX2_watchesMade_49 rfl (gsn q7 (by decide) (gsn e6 (by decide) ((hx.2 10 (by decide) (by decide)).trans h0_10))) (vpc (by decide)) rfl ?_
              refine aw_iconst (v := 1) (pc' := 51) dX2_watchesMade_50 rfl (by decide) ?_
              refine aw_icmp_ne (tgt := 80) (pc' := 54) dX2_watchesMade_51 (by decide) rfl (fun _ => ?_) (fun c => absurd c (by decide))
              refine aw_iinc (lv' := [_, _, _, _, _, _]) (pc' := 83) dX2_watchesMade_80 rfl rfl (Nat.le_of_ble_eq_true rfl) rfl ?_
              refine aw_goto (tgt := 22) dX2_watchesMade_83 (by decide) ?_
              refine aw_iload (pc' := 24) dX2_watchesMade_22 rfl rfl ?_
              refine aw_bipush (v := 120) (pc' := 26) dX2_watchesMade_24 rfl (by decide) ?_
              refine aw_cge (tgt := 86) (pc' := 29) dX2_watchesMade_26 (by decide) rfl (fun c => absurd (by decide) c) (fun _ => ?_)
              refine aw_iload_n (pc' := 30) dX2_watchesMade_29 rfl rfl ?_
              refine aw_bipush (v := 9) (pc' := 32) dX2_watchesMade_30 rfl (by decide) ?_
              refine aw_cge (tgt := 86) (pc' := 35) dX2_watchesMade_32 (by decide) rfl (fun c => absurd (by decide) c) (fun _ => ?_)
              refine aw_iload (pc' := 37) dX2_watchesMade_35 rfl rfl ?_
              refine aw_iconst (v := 3) (pc' := 38) dX2_watchesMade_37 rfl (by decide) ?_
              refine aw_iload_n (pc' := 39) dX2_watchesMade_38 rfl rfl ?_
              refine aw_imul (pc' := 40) dX2_watchesMade_39 rfl ?_
              refine aw_cge (tgt := 86) (pc' := 43) dX2_watchesMade_40 (by decide) rfl (fun c => absurd c8 c) (fun _ => ?_)
              refine aw_aload_n (pc' := 44) dX2_watchesMade_43 rfl rfl rfl ?_
              refine aw_get clsAll (pc' := 47) dX2_watchesMade_44 rfl fl_RX2_21 (gsn q7 (by decide) (gss e6 ((hx.2 6 (by decide) (by decide)).trans h0_6))) rfl ?_
              refine aw_iload (pc' := 49) dX2_watchesMade_47 rfl rfl ?_
              refine aw_iald (v := 0) (pc' := 50) dX2_watchesMade_49 rfl (gsn q7 (by decide) (gsn e6 (by decide) ((hx.2 10 (by decide) (by decide)).trans h0_10))) (vpc (by decide)) rfl ?_
              refine aw_iconst (v := 1) (pc' := 51) dX2_watchesMade_50 rfl (by decide) ?_
              refine aw_icmp_ne (tgt := 80) (pc' := 54) dX2_watchesMade_51 (by decide) rfl (fun _ => ?_) (fun c => absurd c (by decide))
              refine aw_iinc (lv' := [_, _, _, _, _, _]) (pc' := 83) dX2_watchesMade_80 rfl rfl (Nat.le_of_ble_eq_true rfl) rfl ?_
              refine aw_goto (tgt := 22) dX2_watchesMade_83 (by decide) ?_
              refine aw_iload (pc' := 24) dX2_watchesMade_22 rfl rfl ?_
              refine aw_bipush (v := 120) (pc' := 26) dX2_watchesMade_24 rfl (by decide) ?_
              refine aw_cge (tgt := 86) (pc' := 29) dX2_watchesMade_26 (by decide) rfl (fun c => absurd (by decide) c) (fun _ => ?_)
              refine aw_iload_n (pc' := 30) dX2_watchesMade_29 rfl rfl ?_
              refine aw_bipush (v := 9) (pc' := 32) dX2_watchesMade_30 rfl (by decide) ?_
              refine aw_cge (tgt := 86) (pc' := 35) dX2_watchesMade_32 (by decide) rfl (fun c => absurd (by decide) c) (fun _ => ?_)
              refine aw_iload (pc' := 37) dX2_watchesMade_35 rfl rfl ?_
              refine aw_iconst (v := 3) (pc' := 38) dX2_watchesMade_37 rfl (by decide) ?_
              refine aw_iload_n (pc' := 39) dX2_watchesMade_38 rfl rfl ?_
              refine aw_imul (pc' := 40) dX2_watchesMade_39 rfl ?_
              refine aw_cge (tgt := 86) (pc' := 43) dX2_watchesMade_40 (by decide) rfl (fun c => absurd c8 c) (fun _ => ?_)
              refine aw_aload_n (pc' := 44) dX2_watchesMade_43 rfl rfl rfl ?_
              refine aw_get clsAll (pc' := 47) dX2_watchesMade_44 rfl fl_RX2_21 (gsn q7 (by decide) (gss e6 ((hx.2 6 (by decide) (by decide)).trans h0_6))) rfl ?_
              refine aw_iload (pc' := 49) dX2_watchesMade_47 rfl rfl ?_
              refine aw_iald (v := 0) (pc' := 50) dX2_watchesMade_49 rfl (gsn q7 (by decide) (gsn e6 (by decide) ((hx.2 10 (by decide) (by decide)).trans h0_10))) (vpc (by decide)) rfl ?_
              refine aw_iconst (v := 1) (pc' := 51) dX2_watchesMade_50 rfl (by decide) ?_
              refine aw_icmp_ne (tgt := 80) (pc' := 54) dX2_watchesMade_51 (by decide) rfl (fun _ => ?_) (fun c => absurd c (by decide))
              refine aw_iinc (lv' := [_, _, _, _, _, _]) (pc' := 83) dX2_watchesMade_80 rfl rfl (Nat.le_of_ble_eq_true rfl) rfl ?_
              refine aw_goto (tgt := 22) dX2_watchesMade_83 (by decide) ?_
              refine aw_iload (pc' := 24) dX2_watchesMade_22 rfl rfl ?_
              refine aw_bipush (v := 120) (pc' := 26) dX2_watchesMade_24 rfl (by decide) ?_
              refine aw_cge (tgt := 86) (pc' := 29) dX2_watchesMade_26 (by decide) rfl (fun c => absurd (by decide) c) (fun _ => ?_)
              refine aw_iload_n (pc' := 30) dX2_watchesMade_29 rfl rfl ?_
              refine aw_bipush (v := 9) (pc' := 32) dX2_watchesMade_30 rfl (by decide) ?_
              refine aw_cge (tgt := 86) (pc' := 35) dX2_watchesMade_32 (by decide) rfl (fun c => absurd (by decide) c) (fun _ => ?_)
              refine aw_iload (pc' := 37) dX2_watchesMade_35 rfl rfl ?_
              refine aw_iconst (v := 3) (pc' := 38) dX2_watchesMade_37 rfl (by decide) ?_
              refine aw_iload_n (pc' := 39) dX2_watchesMade_38 rfl rfl ?_
              refine aw_imul (pc' := 40) dX2_watchesMade_39 rfl ?_
              refine aw_cge (tgt := 86) (pc' := 43) dX2_watchesMade_40 (by decide) rfl (fun c => absurd c8 c) (fun _ => ?_)
              refine aw_aload_n (pc' := 44) dX2_watchesMade_43 rfl rfl rfl ?_
              refine aw_get clsAll (pc' := 47) dX2_watchesMade_44 rfl fl_RX2_21 (gsn q7 (by decide) (gss e6 ((hx.2 6 (by decide) (by decide)).trans h0_6))) rfl ?_
              refine aw_iload (pc' := 49) dX2_watchesMade_47 rfl rfl ?_
              refine aw_iald (v := 0) (pc' := 50) dX2_watchesMade_49 rfl (gsn q7 (by decide) (gsn e6 (by decide) ((hx.2 10 (by decide) (by decide)).trans h0_10))) (vpc (by decide)) rfl ?_
              refine aw_iconst (v := 1) (pc' := 51) dX2_watchesMade_50 rfl (by decide) ?_
              refine aw_icmp_ne (tgt := 80) (pc' := 54) dX2_watchesMade_51 (by decide) rfl (fun _ => ?_) (fun c => absurd c (by decide))
              refine aw_iinc (lv' := [_, _, _, _, _, _]) (pc' := 83) dX2_watchesMade_80 rfl rfl (Nat.le_of_ble_eq_true rfl) rfl ?_
              refine aw_goto (tgt := 22) dX2_watchesMade_83 (by decide) ?_
              refine aw_iload (pc' := 24) dX2_watchesMade_22 rfl rfl ?_
              refine aw_bipush (v := 120) (pc' := 26) dX2_watchesMade_24 rfl (by decide) ?_
              refine aw_cge (tgt := 86) (pc' := 29) dX2_watchesMade_26 (by decide) rfl (fun c => absurd (by decide) c) (fun _ => ?_)
              refine aw_iload_n (pc' := 30) dX2_watchesMade_29 rfl rfl ?_
              refine aw_bipush (v := 9) (pc' := 32) dX2_watchesMade_30 rfl (by decide) ?_
              refine aw_cge (tgt := 86) (pc' := 35) dX2_watchesMade_32 (by decide) rfl (fun c => absurd (by decide) c) (fun _ => ?_)
              refine aw_iload (pc' := 37) dX2_watchesMade_35 rfl rfl ?_
              refine aw_iconst (v := 3) (pc' := 38) dX2_watchesMade_37 rfl (by decide) ?_
              refine aw_iload_n (pc' := 39) dX2_watchesMade_38 rfl rfl ?_
              refine aw_imul (pc' := 40) dX2_watchesMade_39 rfl ?_
              refine aw_cge (tgt := 86) (pc' := 43) dX2_watchesMade_40 (by decide) rfl (fun c => absurd c8 c) (fun _ => ?_)
              refine aw_aload_n (pc' := 44) dX2_watchesMade_43 rfl rfl rfl ?_
              refine aw_get clsAll (pc' := 47) dX2_watchesMade_44 rfl fl_RX2_21 (gsn q7 (by decide) (gss e6 ((hx.2 6 (by decide) (by decide)).trans h0_6))) rfl ?_
              refine aw_iload (pc' := 49) dX2_watchesMade_47 rfl rfl ?_
              refine aw_iald (v := 0) (pc' := 50) dX2_watchesMade_49 rfl (gsn q7 (by decide) (gsn e6 (by decide) ((hx.2 10 (by decide) (by decide)).trans h0_10))) (vpc (by decide)) rfl ?_
              refine aw_iconst (v := 1) (pc' := 51) dX2_watchesMade_50 rfl (by decide) ?_
              refine aw_icmp_ne (tgt := 80) (pc' := 54) dX2_watchesMade_51 (by decide) rfl (fun _ => ?_) (fun c => absurd c (by decide))
              refine aw_iinc (lv' := [_, _, _, _, _, _]) (pc' := 83) dX2_watchesMade_80 rfl rfl (Nat.le_of_ble_eq_true rfl) rfl ?_
              refine aw_goto (tgt := 22) dX2_watchesMade_83 (by decide) ?_
              refine aw_iload (pc' := 24) dX2_watchesMade_22 rfl rfl ?_
              refine aw_bipush (v := 120) (pc' := 26) dX2_watchesMade_24 rfl (by decide) ?_
              refine aw_cge (tgt := 86) (pc' := 29) dX2_watchesMade_26 (by decide) rfl (fun c => absurd (by decide) c) (fun _ => ?_)
              refine aw_iload_n (pc' := 30) dX2_watchesMade_29 rfl rfl ?_
              refine aw_bipush (v := 9) (pc' := 32) dX2_watchesMade_30 rfl (by decide) ?_
              refine aw_cge (tgt := 86) (pc' := 35) dX2_watchesMade_32 (by decide) rfl (fun c => absurd (by decide) c) (fun _ => ?_)
              refine aw_iload (pc' := 37) dX2_watchesMade_35 rfl rfl ?_
              refine aw_iconst (v := 3) (pc' := 38) dX2_watchesMade_37 rfl (by decide) ?_
              refine aw_iload_n (pc' := 39) dX2_watchesMade_38 rfl rfl ?_
              refine aw_imul (pc' := 40) dX2_watchesMade_39 rfl ?_
              refine aw_cge (tgt := 86) (pc' := 43) dX2_watchesMade_40 (by decide) rfl (fun c => absurd c8 c) (fun _ => ?_)
              refine aw_aload_n (pc' := 44) dX2_watchesMade_43 rfl rfl rfl ?_
              refine aw_get clsAll (pc' := 47) dX2_watchesMade_44 rfl fl_RX2_21 (gsn q7 (by decide) (gss e6 ((hx.2 6 (by decide) (by decide)).trans h0_6))) rfl ?_
              refine aw_iload (pc' := 49) dX2_watchesMade_47 rfl rfl ?_
              refine aw_iald (v := 0) (pc' := 50) dX2_watchesMade_49 rfl (gsn q7 (by decide) (gsn e6 (by decide) ((hx.2 10 (by decide) (by decide)).trans h0_10))) (vpc (by decide)) rfl ?_
              refine aw_iconst (v := 1) (pc' := 51) dX2_watchesMade_50 rfl (by decide) ?_
              refine aw_icmp_ne (tgt := 80) (pc' := 54) dX2_watchesMade_51 (by decide) rfl (fun _ => ?_) (fun c => absurd c (by decide))
              refine aw_iinc (lv' := [_, _, _, _, _, _]) (pc' := 83) dX2_watchesMade_80 rfl rfl (Nat.le_of_ble_eq_true rfl) rfl ?_
              refine aw_goto (tgt := 22) dX2_watchesMade_83 (by decide) ?_
              refine aw_iload (pc' := 24) dX2_watchesMade_22 rfl rfl ?_
              refine aw_bipush (v := 120) (pc' := 26) dX2_watchesMade_24 rfl (by decide) ?_
              refine aw_cge (tgt := 86) (pc' := 29) dX2_watchesMade_26 (by decide) rfl (fun c => absurd (by decide) c) (fun _ => ?_)
              refine aw_iload_n (pc' := 30) dX2_watchesMade_29 rfl rfl ?_
              refine aw_bipush (v := 9) (pc' := 32) dX2_watchesMade_30 rfl (by decide) ?_
              refine aw_cge (tgt := 86) (pc' := 35) dX2_watchesMade_32 (by decide) rfl (fun c => absurd (by decide) c) (fun _ => ?_)
              refine aw_iload (pc' := 37) dX2_watchesMade_35 rfl rfl ?_
              refine aw_iconst (v := 3) (pc' := 38) dX2_watchesMade_37 rfl (by decide) ?_
              refine aw_iload_n (pc' := 39) dX2_watchesMade_38 rfl rfl ?_
              refine aw_imul (pc' := 40) dX2_watchesMade_39 rfl ?_
              refine aw_cge (tgt := 86) (pc' := 43) dX2_watchesMade_40 (by decide) rfl (fun c => absurd c8 c) (fun _ => ?_)
              refine aw_aload_n (pc' := 44) dX2_watchesMade_43 rfl rfl rfl ?_
              refine aw_get clsAll (pc' := 47) dX2_watchesMade_44 rfl fl_RX2_21 (gsn q7 (by decide) (gss e6 ((hx.2 6 (by decide) (by decide)).trans h0_6))) rfl ?_
              refine aw_iload (pc' := 49) dX2_watchesMade_47 rfl rfl ?_
              refine aw_iald (v := 0) (pc' := 50) dX2_watchesMade_49 rfl (gsn q7 (by decide) (gsn e6 (by decide) ((hx.2 10 (by decide) (by decide)).trans h0_10))) (vpc (by decide)) rfl ?_
              refine aw_iconst (v := 1) (pc' := 51) dX2_watchesMade_50 rfl (by decide) ?_
              refine aw_icmp_ne (tgt := 80) (pc' := 54) dX2_watchesMade_51 (by decide) rfl (fun _ => ?_) (fun c => absurd c (by decide))
              refine aw_iinc (lv' := [_, _, _, _, _, _]) (pc' := 83) dX2_watchesMade_80 rfl rfl (Nat.le_of_ble_eq_true rfl) rfl ?_
              refine aw_goto (tgt := 22) dX2_watchesMade_83 (by decide) ?_
              refine aw_iload (pc' := 24) dX2_watchesMade_22 rfl rfl ?_
              refine aw_bipush (v := 120) (pc' := 26) dX2_watchesMade_24 rfl (by decide) ?_
              refine aw_cge (tgt := 86) (pc' := 29) dX2_watchesMade_26 (by decide) rfl (fun c => absurd (by decide) c) (fun _ => ?_)
              refine aw_iload_n (pc' := 30) dX2_watchesMade_29 rfl rfl ?_
              refine aw_bipush (v := 9) (pc' := 32) dX2_watchesMade_30 rfl (by decide) ?_
              refine aw_cge (tgt := 86) (pc' := 35) dX2_watchesMade_32 (by decide) rfl (fun c => absurd (by decide) c) (fun _ => ?_)
              refine aw_iload (pc' := 37) dX2_watchesMade_35 rfl rfl ?_
              refine aw_iconst (v := 3) (pc' := 38) dX2_watchesMade_37 rfl (by decide) ?_
              refine aw_iload_n (pc' := 39) dX2_watchesMade_38 rfl rfl ?_
              refine aw_imul (pc' := 40) dX2_watchesMade_39 rfl ?_
              refine aw_cge (tgt := 86) (pc' := 43) dX2_watchesMade_40 (by decide) rfl (fun c => absurd c8 c) (fun _ => ?_)
              refine aw_aload_n (pc' := 44) dX2_watchesMade_43 rfl rfl rfl ?_
              refine aw_get clsAll (pc' := 47) dX2_watchesMade_44 rfl fl_RX2_21 (gsn q7 (by decide) (gss e6 ((hx.2 6 (by decide) (by decide)).trans h0_6))) rfl ?_
              refine aw_iload (pc' := 49) dX2_watchesMade_47 rfl rfl ?_
              refine aw_iald (v := 0) (pc' := 50) dX2_watchesMade_49 rfl (gsn q7 (by decide) (gsn e6 (by decide) ((hx.2 10 (by decide) (by decide)).trans h0_10))) (vpc (by decide)) rfl ?_
              refine aw_iconst (v := 1) (pc' := 51) dX2_watchesMade_50 rfl (by decide) ?_
              refine aw_icmp_ne (tgt := 80) (pc' := 54) dX2_watchesMade_51 (by decide) rfl (fun _ => ?_) (fun c => absurd c (by decide))
              refine aw_iinc (lv' := [_, _, _, _, _, _]) (pc' := 83) dX2_watchesMade_80 rfl rfl (Nat.le_of_ble_eq_true rfl) rfl ?_
              refine aw_goto (tgt := 22) dX2_watchesMade_83 (by decide) ?_
              refine aw_iload (pc' := 24) dX2_watchesMade_22 rfl rfl ?_
              refine aw_bipush (v := 120) (pc' := 26) dX2_watchesMade_24 rfl (by decide) ?_
              refine aw_cge (tgt := 86) (pc' := 29) dX2_watchesMade_26 (by decide) rfl (fun c => absurd (by decide) c) (fun _ => ?_)
              refine aw_iload_n (pc' := 30) dX2_watchesMade_29 rfl rfl ?_
              refine aw_bipush (v := 9) (pc' := 32) dX2_watchesMade_30 rfl (by decide) ?_
              refine aw_cge (tgt := 86) (pc' := 35) dX2_watchesMade_32 (by decide) rfl (fun c => absurd (by decide) c) (fun _ => ?_)
              refine aw_iload (pc' := 37) dX2_watchesMade_35 rfl rfl ?_
              refine aw_iconst (v := 3) (pc' := 38) dX2_watchesMade_37 rfl (by decide) ?_
              refine aw_iload_n (pc' := 39) dX2_watchesMade_38 rfl rfl ?_
              refine aw_imul (pc' := 40) dX2_watchesMade_39 rfl ?_
              refine aw_cge (tgt := 86) (pc' := 43) dX2_watchesMade_40 (by decide) rfl (fun c => absurd c8 c) (fun _ => ?_)
              refine aw_aload_n (pc' := 44) dX2_watchesMade_43 rfl rfl rfl ?_
              refine aw_get clsAll (pc' := 47) dX2_watchesMade_44 rfl fl_RX2_21 (gsn q7 (by decide) (gss e6 ((hx.2 6 (by decide) (by decide)).trans h0_6))) rfl ?_
              refine aw_iload (pc' := 49) dX2_watchesMade_47 rfl rfl ?_
              refine aw_iald (v := 0) (pc' := 50) dX2_watchesMade_49 rfl (gsn q7 (by decide) (gsn e6 (by decide) ((hx.2 10 (by decide) (by decide)).trans h0_10))) (vpc (by decide)) rfl ?_
              refine aw_iconst (v := 1) (pc' := 51) dX2_watchesMade_50 rfl (by decide) ?_
              refine aw_icmp_ne (tgt := 80) (pc' := 54) dX2_watchesMade_51 (by decide) rfl (fun _ => ?_) (fun c => absurd c (by decide))
              refine aw_iinc (lv' := [_, _, _, _, _, _]) (pc' := 83) dX2_watchesMade_80 rfl rfl (Nat.le_of_ble_eq_true rfl) rfl ?_
              refine aw_goto (tgt := 22) dX2_watchesMade_83 (by decide) ?_
              refine aw_iload (pc' := 24) dX2_watchesMade_22 rfl rfl ?_
              refine aw_bipush (v := 120) (pc' := 26) dX2_watchesMade_24 rfl (by decide) ?_
              refine aw_cge (tgt := 86) (pc' := 29) dX2_watchesMade_26 (by decide) rfl (fun c => absurd (by decide) c) (fun _ => ?_)
              refine aw_iload_n (pc' := 30) dX2_watchesMade_29 rfl rfl ?_
              refine aw_bipush (v := 9) (pc' := 32) dX2_watchesMade_30 rfl (by decide) ?_
              refine aw_cge (tgt := 86) (pc' := 35) dX2_watchesMade_32 (by decide) rfl (fun c => absurd (by decide) c) (fun _ => ?_)
              refine aw_iload (pc' := 37) dX2_watchesMade_35 rfl rfl ?_
              refine aw_iconst (v := 3) (pc' := 38) dX2_watchesMade_37 rfl (by decide) ?_
              refine aw_iload_n (pc' := 39) dX2_watchesMade_38 rfl rfl ?_
              refine aw_imul (pc' := 40) dX2_watchesMade_39 rfl ?_
              refine aw_cge (tgt := 86) (pc' := 43) dX2_watchesMade_40 (by decide) rfl (fun c => absurd c8 c) (fun _ => ?_)
              refine aw_aload_n (pc' := 44) dX2_watchesMade_43 rfl rfl rfl ?_
              refine aw_get clsAll (pc' := 47) dX2_watchesMade_44 rfl fl_RX2_21 (gsn q7 (by decide) (gss e6 ((hx.2 6 (by decide) (by decide)).trans h0_6))) rfl ?_
              refine aw_iload (pc' := 49) dX2_watchesMade_47 rfl rfl ?_
              refine aw_iald (v := 0) (pc' := 50) dX2_watchesMade_49 rfl (gsn q7 (by decide) (gsn e6 (by decide) ((hx.2 10 (by decide) (by decide)).trans h0_10))) (vpc (by decide)) rfl ?_
              refine aw_iconst (v := 1) (pc' := 51) dX2_watchesMade_50 rfl (by decide) ?_
              refine aw_icmp_ne (tgt := 80) (pc' := 54) dX2_watchesMade_51 (by decide) rfl (fun _ => ?_) (fun c => absurd c (by decide))
              refine aw_iinc (lv' := [_, _, _, _, _, _]) (pc' := 83) dX2_watchesMade_80 rfl rfl (Nat.le_of_ble_eq_true rfl) rfl ?_
              refine aw_goto (tgt := 22) dX2_watchesMade_83 (by decide) ?_
              refine aw_iload (pc' := 24) dX2_watchesMade_22 rfl rfl ?_
              refine aw_bipush (v := 120) (pc' := 26) dX2_watchesMade_24 rfl (by decide) ?_
              refine aw_cge (tgt := 86) (pc' := 29) dX2_watchesMade_26 (by decide) rfl (fun c => absurd (by decide) c) (fun _ => ?_)
              refine aw_iload_n (pc' := 30) dX2_watchesMade_29 rfl rfl ?_
              refine aw_bipush (v := 9) (pc' := 32) dX2_watchesMade_30 rfl (by decide) ?_
              refine aw_cge (tgt := 86) (pc' := 35) dX2_watchesMade_32 (by decide) rfl (fun c => absurd (by decide) c) (fun _ => ?_)
              refine aw_iload (pc' := 37) dX2_watchesMade_35 rfl rfl ?_
              refine aw_iconst (v := 3) (pc' := 38) dX2_watchesMade_37 rfl (by decide) ?_
              refine aw_iload_n (pc' := 39) dX2_watchesMade_38 rfl rfl ?_
              refine aw_imul (pc' := 40) dX2_watchesMade_39 rfl ?_
              refine aw_cge (tgt := 86) (pc' := 43) dX2_watchesMade_40 (by decide) rfl (fun c => absurd c8 c) (fun _ => ?_)
              refine aw_aload_n (pc' := 44) dX2_watchesMade_43 rfl rfl rfl ?_
              refine aw_get clsAll (pc' := 47) dX2_watchesMade_44 rfl fl_RX2_21 (gsn q7 (by decide) (gss e6 ((hx.2 6 (by decide) (by decide)).trans h0_6))) rfl ?_
              refine aw_iload (pc' := 49) dX2_watchesMade_47 rfl rfl ?_
              refine aw_iald (v := 0) (pc' := 50) dX2_watchesMade_49 rfl (gsn q7 (by decide) (gsn e6 (by decide) ((hx.2 10 (by decide) (by decide)).trans h0_10))) (vpc (by decide)) rfl ?_
              refine aw_iconst (v := 1) (pc' := 51) dX2_watchesMade_50 rfl (by decide) ?_
              refine aw_icmp_ne (tgt := 80) (pc' := 54) dX2_watchesMade_51 (by decide) rfl (fun _ => ?_) (fun c => absurd c (by decide))
              refine aw_iinc (lv' := [_, _, _, _, _, _]) (pc' := 83) dX2_watchesMade_80 rfl rfl (Nat.le_of_ble_eq_true rfl) rfl ?_
              refine aw_goto (tgt := 22) dX2_watchesMade_83 (by decide) ?_
              refine aw_iload (pc' := 24) dX2_watchesMade_22 rfl rfl ?_
              refine aw_bipush (v := 120) (pc' := 26) dX2_watchesMade_24 rfl (by decide) ?_
              refine aw_cge (tgt := 86) (pc' := 29) dX2_watchesMade_26 (by decide) rfl (fun c => absurd (by decide) c) (fun _ => ?_)
              refine aw_iload_n (pc' := 30) dX2_watchesMade_29 rfl rfl ?_
              refine aw_bipush (v := 9) (pc' := 32) dX2_watchesMade_30 rfl (by decide) ?_
              refine aw_cge (tgt := 86) (pc' := 35) dX2_watchesMade_32 (by decide) rfl (fun c => absurd (by decide) c) (fun _ => ?_)
              refine aw_iload (pc' := 37) dX2_watchesMade_35 rfl rfl ?_
              refine aw_iconst (v := 3) (pc' := 38) dX2_watchesMade_37 rfl (by decide) ?_
              refine aw_iload_n (pc' := 39) dX2_watchesMade_38 rfl rfl ?_
              refine aw_imul (pc' := 40) dX2_watchesMade_39 rfl ?_
              refine aw_cge (tgt := 86) (pc' := 43) dX2_watchesMade_40 (by decide) rfl (fun c => absurd c8 c) (fun _ => ?_)
              refine aw_aload_n (pc' := 44) dX2_watchesMade_43 rfl rfl rfl ?_
              refine aw_get clsAll (pc' := 47) dX2_watchesMade_44 rfl fl_RX2_21 (gsn q7 (by decide) (gss e6 ((hx.2 6 (by decide) (by decide)).trans h0_6))) rfl ?_
              refine aw_iload (pc' := 49) dX2_watchesMade_47 rfl rfl ?_
              refine aw_iald (v := 0) (pc' := 50) dX2_watchesMade_49 rfl (gsn q7 (by decide) (gsn e6 (by decide) ((hx.2 10 (by decide) (by decide)).trans h0_10))) (vpc (by decide)) rfl ?_
              refine aw_iconst (v := 1) (pc' := 51) dX2_watchesMade_50 rfl (by decide) ?_
              refine aw_icmp_ne (tgt := 80) (pc' := 54) dX2_watchesMade_51 (by decide) rfl (fun _ => ?_) (fun c => absurd c (by decide))
              refine aw_iinc (lv' := [_, _, _, _, _, _]) (pc' := 83) dX2_watchesMade_80 rfl rfl (Nat.le_of_ble_eq_true rfl) rfl ?_
              refine aw_goto (tgt := 22) dX2_watchesMade_83 (by decide) ?_
              refine aw_iload (pc' := 24) dX2_watchesMade_22 rfl rfl ?_
              refine aw_bipush (v := 120) (pc' := 26) dX2_watchesMade_24 rfl (by decide) ?_
              refine aw_cge (tgt := 86) (pc' := 29) dX2_watchesMade_26 (by decide) rfl (fun c => absurd (by decide) c) (fun _ => ?_)
              refine aw_iload_n (pc' := 30) dX2_watchesMade_29 rfl rfl ?_
              refine aw_bipush (v := 9) (pc' := 32) dX2_watchesMade_30 rfl (by decide) ?_
              refine aw_cge (tgt := 86) (pc' := 35) dX2_watchesMade_32 (by decide) rfl (fun c => absurd (by decide) c) (fun _ => ?_)
              refine aw_iload (pc' := 37) dX2_watchesMade_35 rfl rfl ?_
              refine aw_iconst (v := 3) (pc' := 38) dX2_watchesMade_37 rfl (by decide) ?_
              refine aw_iload_n (pc' := 39) dX2_watchesMade_38 rfl rfl ?_
              refine aw_imul (pc' := 40) dX2_watchesMade_39 rfl ?_
              refine aw_cge (tgt := 86) (pc' := 43) dX2_watchesMade_40 (by decide) rfl (fun c => absurd c8 c) (fun _ => ?_)
              refine aw_aload_n (pc' := 44) dX2_watchesMade_43 rfl rfl rfl ?_
              refine aw_get clsAll (pc' := 47) dX2_watchesMade_44 rfl fl_RX2_21 (gsn q7 (by decide) (gss e6 ((hx.2 6 (by decide) (by decide)).trans h0_6))) rfl ?_
              refine aw_iload (pc' := 49) dX2_watchesMade_47 rfl rfl ?_
              refine aw_iald (v := 0) (pc' := 50) dX2_watchesMade_49 rfl (gsn q7 (by decide) (gsn e6 (by decide) ((hx.2 10 (by decide) (by decide)).trans h0_10))) (vpc (by decide)) rfl ?_
              refine aw_iconst (v := 1) (pc' := 51) dX2_watchesMade_50 rfl (by decide) ?_
              refine aw_icmp_ne (tgt := 80) (pc' := 54) dX2_watchesMade_51 (by decide) rfl (fun _ => ?_) (fun c => absurd c (by decide))
              refine aw_iinc (lv' := [_, _, _, _, _, _]) (pc' := 83) dX2_watchesMade_80 rfl rfl (Nat.le_of_ble_eq_true rfl) rfl ?_
              refine aw_goto (tgt := 22) dX2_watchesMade_83 (by decide) ?_
              refine aw_iload (pc' := 24) dX2_watchesMade_22 rfl rfl ?_
              refine aw_bipush (v := 120) (pc' := 26) dX2_watchesMade_24 rfl (by decide) ?_
              refine aw_cge (tgt := 86) (pc' := 29) dX2_watchesMade_26 (by decide) rfl (fun c => absurd (by decide) c) (fun _ => ?_)
              refine aw_iload_n (pc' := 30) dX2_watchesMade_29 rfl rfl ?_
              refine aw_bipush (v := 9) (pc' := 32) dX2_watchesMade_30 rfl (by decide) ?_
              refine aw_cge (tgt := 86) (pc' := 35) dX2_watchesMade_32 (by decide) rfl (fun c => absurd (by decide) c) (fun _ => ?_)
              refine aw_iload (pc' := 37) dX2_watchesMade_35 rfl rfl ?_
              refine aw_iconst (v := 3) (pc' := 38) dX2_watchesMade_37 rfl (by decide) ?_
              refine aw_iload_n (pc' := 39) dX2_watchesMade_38 rfl rfl ?_
              refine aw_imul (pc' := 40) dX2_watchesMade_39 rfl ?_
              refine aw_cge (tgt := 86) (pc' := 43) dX2_watchesMade_40 (by decide) rfl (fun c => absurd c8 c) (fun _ => ?_)
              refine aw_aload_n (pc' := 44) dX2_watchesMade_43 rfl rfl rfl ?_
              refine aw_get clsAll (pc' := 47) dX2_watchesMade_44 rfl fl_RX2_21 (gsn q7 (by decide) (gss e6 ((hx.2 6 (by decide) (by decide)).trans h0_6))) rfl ?_
              refine aw_iload (pc' := 49) dX2_watchesMade_47 rfl rfl ?_
              refine aw_iald (v := 0) (pc' := 50) dX2_watchesMade_49 rfl (gsn q7 (by decide) (gsn e6 (by decide) ((hx.2 10 (by decide) (by decide)).trans h0_10))) (vpc (by decide)) rfl ?_
              refine aw_iconst (v := 1) (pc' := 51) dX2_watchesMade_50 rfl (by decide) ?_
              refine aw_icmp_ne (tgt := 80) (pc' := 54) dX2_watchesMade_51 (by decide) rfl (fun _ => ?_) (fun c => absurd c (by decide))
              refine aw_iinc (lv' := [_, _, _, _, _, _]) (pc' := 83) dX2_watchesMade_80 rfl rfl (Nat.le_of_ble_eq_true rfl) rfl ?_
              refine aw_goto (tgt := 22) dX2_watchesMade_83 (by decide) ?_
              refine aw_iload (pc' := 24) dX2_watchesMade_22 rfl rfl ?_
              refine aw_bipush (v := 120) (pc' := 26) dX2_watchesMade_24 rfl (by decide) ?_
              refine aw_cge (tgt := 86) (pc' := 29) dX2_watchesMade_26 (by decide) rfl (fun c => absurd (by decide) c) (fun _ => ?_)
              refine aw_iload_n (pc' := 30) dX2_watchesMade_29 rfl rfl ?_
              refine aw_bipush (v := 9) (pc' := 32) dX2_watchesMade_30 rfl (by decide) ?_
              refine aw_cge (tgt := 86) (pc' := 35) dX2_watchesMade_32 (by decide) rfl (fun c => absurd (by decide) c) (fun _ => ?_)
              refine aw_iload (pc' := 37) dX2_watchesMade_35 rfl rfl ?_
              refine aw_iconst (v := 3) (pc' := 38) dX2_watchesMade_37 rfl (by decide) ?_
              refine aw_iload_n (pc' := 39) dX2_watchesMade_38 rfl rfl ?_
              refine aw_imul (pc' := 40) dX2_watchesMade_39 rfl ?_
              refine aw_cge (tgt := 86) (pc' := 43) dX2_watchesMade_40 (by decide) rfl (fun c => absurd c8 c) (fun _ => ?_)
              refine aw_aload_n (pc' := 44) dX2_watchesMade_43 rfl rfl rfl ?_
              refine aw_get clsAll (pc' := 47) dX2_watchesMade_44 rfl fl_RX2_21 (gsn q7 (by decide) (gss e6 ((hx.2 6 (by decide) (by decide)).trans h0_6))) rfl ?_
              refine aw_iload (pc' := 49) dX2_watchesMade_47 rfl rfl ?_
              refine aw_iald (v := 0) (pc' := 50) dX2_watchesMade_49 rfl (gsn q7 (by decide) (gsn e6 (by decide) ((hx.2 10 (by decide) (by decide)).trans h0_10))) (vpc (by decide)) rfl ?_
              refine aw_iconst (v := 1) (pc' := 51) dX2_watchesMade_50 rfl (by decide) ?_
              refine aw_icmp_ne (tgt := 80) (pc' := 54) dX2_watchesMade_51 (by decide) rfl (fun _ => ?_) (fun c => absurd c (by decide))
              refine aw_iinc (lv' := [_, _, _, _, _, _]) (pc' := 83) dX2_watchesMade_80 rfl rfl (Nat.le_of_ble_eq_true rfl) rfl ?_
              refine aw_goto (tgt := 22) dX2_watchesMade_83 (by decide) ?_
              refine aw_iload (pc' := 24) dX2_watchesMade_22 rfl rfl ?_
              refine aw_bipush (v := 120) (pc' := 26) dX2_watchesMade_24 rfl (by decide) ?_
              refine aw_cge (tgt := 86) (pc' := 29) dX2_watchesMade_26 (by decide) rfl (fun c => absurd (by decide) c) (fun _ => ?_)
              refine aw_iload_n (pc' := 30) dX2_watchesMade_29 rfl rfl ?_
              refine aw_bipush (v := 9) (pc' := 32) dX2_watchesMade_30 rfl (by decide) ?_
              refine aw_cge (tgt := 86) (pc' := 35) dX2_watchesMade_32 (by decide) rfl (fun c => absurd (by decide) c) (fun _ => ?_)
              refine aw_iload (pc' := 37) dX2_watchesMade_35 rfl rfl ?_
              refine aw_iconst (v := 3) (pc' := 38) dX2_watchesMade_37 rfl (by decide) ?_
              refine aw_iload_n (pc' := 39) dX2_watchesMade_38 rfl rfl ?_
              refine aw_imul (pc' := 40) dX2_watchesMade_39 rfl ?_
              refine aw_cge (tgt := 86) (pc' := 43) dX2_watchesMade_40 (by decide) rfl (fun c => absurd c8 c) (fun _ => ?_)
              refine aw_aload_n (pc' := 44) dX2_watchesMade_43 rfl rfl rfl ?_
              refine aw_get clsAll (pc' := 47) dX2_watchesMade_44 rfl fl_RX2_21 (gsn q7 (by decide) (gss e6 ((hx.2 6 (by decide) (by decide)).trans h0_6))) rfl ?_
              refine aw_iload (pc' := 49) dX2_watchesMade_47 rfl rfl ?_
              refine aw_iald (v := 0) (pc' := 50) dX2_watchesMade_49 rfl (gsn q7 (by decide) (gsn e6 (by decide) ((hx.2 10 (by decide) (by decide)).trans h0_10))) (vpc (by decide)) rfl ?_
              refine aw_iconst (v := 1) (pc' := 51) dX2_watchesMade_50 rfl (by decide) ?_
              refine aw_icmp_ne (tgt := 80) (pc' := 54) dX2_watchesMade_51 (by decide) rfl (fun _ => ?_) (fun c => absurd c (by decide))
              refine aw_iinc (lv' := [_, _, _, _, _, _]) (pc' := 83) dX2_watchesMade_80 rfl rfl (Nat.le_of_ble_eq_true rfl) rfl ?_
              refine aw_goto (tgt := 22) dX2_watchesMade_83 (by decide) ?_
              refine aw_iload (pc' := 24) dX2_watchesMade_22 rfl rfl ?_
              refine aw_bipush (v := 120) (pc' := 26) dX2_watchesMade_24 rfl (by decide) ?_
              refine aw_cge (tgt := 86) (pc' := 29) dX2_watchesMade_26 (by decide) rfl (fun c => absurd (by decide) c) (fun _ => ?_)
              refine aw_iload_n (pc' := 30) dX2_watchesMade_29 rfl rfl ?_
              refine aw_bipush (v := 9) (pc' := 32) dX2_watchesMade_30 rfl (by decide) ?_
              refine aw_cge (tgt := 86) (pc' := 35) dX2_watchesMade_32 (by decide) rfl (fun c => absurd (by decide) c) (fun _ => ?_)
              refine aw_iload (pc' := 37) dX2_watchesMade_35 rfl rfl ?_
              refine aw_iconst (v := 3) (pc' := 38) dX2_watchesMade_37 rfl (by decide) ?_
              refine aw_iload_n (pc' := 39) dX2_watchesMade_38 rfl rfl ?_
              refine aw_imul (pc' := 40) dX2_watchesMade_39 rfl ?_
              refine aw_cge (tgt := 86) (pc' := 43) dX2_watchesMade_40 (by decide) rfl (fun c => absurd c8 c) (fun _ => ?_)
              refine aw_aload_n (pc' := 44) dX2_watchesMade_43 rfl rfl rfl ?_
              refine aw_get clsAll (pc' := 47) dX2_watchesMade_44 rfl fl_RX2_21 (gsn q7 (by decide) (gss e6 ((hx.2 6 (by decide) (by decide)).trans h0_6))) rfl ?_
              refine aw_iload (pc' := 49) dX2_watchesMade_47 rfl rfl ?_
              refine aw_iald (v := 0) (pc' := 50) dX2_watchesMade_49 rfl (gsn q7 (by decide) (gsn e6 (by decide) ((hx.2 10 (by decide) (by decide)).trans h0_10))) (vpc (by decide)) rfl ?_
              refine aw_iconst (v := 1) (pc' := 51) dX2_watchesMade_50 rfl (by decide) ?_
              refine aw_icmp_ne (tgt := 80) (pc' := 54) dX2_watchesMade_51 (by decide) rfl (fun _ => ?_) (fun c => absurd c (by decide))
              refine aw_iinc (lv' := [_, _, _, _, _, _]) (pc' := 83) dX2_watchesMade_80 rfl rfl (Nat.le_of_ble_eq_true rfl) rfl ?_
              refine aw_goto (tgt := 22) dX2_watchesMade_83 (by decide) ?_
              refine aw_iload (pc' := 24) dX2_watchesMade_22 rfl rfl ?_
              refine aw_bipush (v := 120) (pc' := 26) dX2_watchesMade_24 rfl (by decide) ?_
              refine aw_cge (tgt := 86) (pc' := 29) dX2_watchesMade_26 (by decide) rfl (fun c => absurd (by decide) c) (fun _ => ?_)
              refine aw_iload_n (pc' := 30) dX2_watchesMade_29 rfl rfl ?_
              refine aw_bipush (v := 9) (pc' := 32) dX2_watchesMade_30 rfl (by decide) ?_
              refine aw_cge (tgt := 86) (pc' := 35) dX2_watchesMade_32 (by decide) rfl (fun c => absurd (by decide) c) (fun _ => ?_)
              refine aw_iload (pc' := 37) dX2_watchesMade_35 rfl rfl ?_
              refine aw_iconst (v := 3) (pc' := 38) dX2_watchesMade_37 rfl (by decide) ?_
              refine aw_iload_n (pc' := 39) dX2_watchesMade_38 rfl rfl ?_
              refine aw_imul (pc' := 40) dX2_watchesMade_39 rfl ?_
              refine aw_cge (tgt := 86) (pc' := 43) dX2_watchesMade_40 (by decide) rfl (fun c => absurd c8 c) (fun _ => ?_)
              refine aw_aload_n (pc' := 44) dX2_watchesMade_43 rfl rfl rfl ?_
              refine aw_get clsAll (pc' := 47) dX2_watchesMade_44 rfl fl_RX2_21 (gsn q7 (by decide) (gss e6 ((hx.2 6 (by decide) (by decide)).trans h0_6))) rfl ?_
              refine aw_iload (pc' := 49) dX2_watchesMade_47 rfl rfl ?_
              refine aw_iald (v := 0) (pc' := 50) dX2_watchesMade_49 rfl (gsn q7 (by decide) (gsn e6 (by decide) ((hx.2 10 (by decide) (by decide)).trans h0_10))) (vpc (by decide)) rfl ?_
              refine aw_iconst (v := 1) (pc' := 51) dX2_watchesMade_50 rfl (by decide) ?_
              refine aw_icmp_ne (tgt := 80) (pc' := 54) dX2_watchesMade_51 (by decide) rfl (fun _ => ?_) (fun c => absurd c (by decide))
              refine aw_iinc (lv' := [_, _, _, _, _, _]) (pc' := 83) dX2_watchesMade_80 rfl rfl (Nat.le_of_ble_eq_true rfl) rfl ?_
              refine aw_goto (tgt := 22) dX2_watchesMade_83 (by decide) ?_
              refine aw_iload (pc' := 24) dX2_watchesMade_22 rfl rfl ?_
              refine aw_bipush (v := 120) (pc' := 26) dX2_watchesMade_24 rfl (by decide) ?_
              refine aw_cge (tgt := 86) (pc' := 29) dX2_watchesMade_26 (by decide) rfl (fun c => absurd (by decide) c) (fun _ => ?_)
              refine aw_iload_n (pc' := 30) dX2_watchesMade_29 rfl rfl ?_
              refine aw_bipush (v := 9) (pc' := 32) dX2_watchesMade_30 rfl (by decide) ?_
              refine aw_cge (tgt := 86) (pc' := 35) dX2_watchesMade_32 (by decide) rfl (fun c => absurd (by decide) c) (fun _ => ?_)
              refine aw_iload (pc' := 37) dX2_watchesMade_35 rfl rfl ?_
              refine aw_iconst (v := 3) (pc' := 38) dX2_watchesMade_37 rfl (by decide) ?_
              refine aw_iload_n (pc' := 39) dX2_watchesMade_38 rfl rfl ?_
              refine aw_imul (pc' := 40) dX2_watchesMade_39 rfl ?_
              refine aw_cge (tgt := 86) (pc' := 43) dX2_watchesMade_40 (by decide) rfl (fun c => absurd c8 c) (fun _ => ?_)
              refine aw_aload_n (pc' := 44) dX2_watchesMade_43 rfl rfl rfl ?_
              refine aw_get clsAll (pc' := 47) dX2_watchesMade_44 rfl fl_RX2_21 (gsn q7 (by decide) (gss e6 ((hx.2 6 (by decide) (by decide)).trans h0_6))) rfl ?_
              refine aw_iload (pc' := 49) dX2_watchesMade_47 rfl rfl ?_
              refine aw_iald (v := 0) (pc' := 50) dX2_watchesMade_49 rfl (gsn q7 (by decide) (gsn e6 (by decide) ((hx.2 10 (by decide) (by decide)).trans h0_10))) (vpc (by decide)) rfl ?_
              refine aw_iconst (v := 1) (pc' := 51) dX2_watchesMade_50 rfl (by decide) ?_
              refine aw_icmp_ne (tgt := 80) (pc' := 54) dX2_watchesMade_51 (by decide) rfl (fun _ => ?_) (fun c => absurd c (by decide))
              refine aw_iinc (lv' := [_, _, _, _, _, _]) (pc' := 83) dX2_watchesMade_80 rfl rfl (Nat.le_of_ble_eq_true rfl) rfl ?_
              refine aw_goto (tgt := 22) dX2_watchesMade_83 (by decide) ?_
              refine aw_iload (pc' := 24) dX2_watchesMade_22 rfl rfl ?_
              refine aw_bipush (v := 120) (pc' := 26) dX2_watchesMade_24 rfl (by decide) ?_
              refine aw_cge (tgt := 86) (pc' := 29) dX2_watchesMade_26 (by decide) rfl (fun c => absurd (by decide) c) (fun _ => ?_)
              refine aw_iload_n (pc' := 30) dX2_watchesMade_29 rfl rfl ?_
              refine aw_bipush (v := 9) (pc' := 32) dX2_watchesMade_30 rfl (by decide) ?_
              refine aw_cge (tgt := 86) (pc' := 35) dX2_watchesMade_32 (by decide) rfl (fun c => absurd (by decide) c) (fun _ => ?_)
              refine aw_iload (pc' := 37) dX2_watchesMade_35 rfl rfl ?_
              refine aw_iconst (v := 3) (pc' := 38) dX2_watchesMade_37 rfl (by decide) ?_
              refine aw_iload_n (pc' := 39) dX2_watchesMade_38 rfl rfl ?_
              refine aw_imul (pc' := 40) dX2_watchesMade_39 rfl ?_
              refine aw_cge (tgt := 86) (pc' := 43) dX2_watchesMade_40 (by decide) rfl (fun c => absurd c8 c) (fun _ => ?_)
              refine aw_aload_n (pc' := 44) dX2_watchesMade_43 rfl rfl rfl ?_
              refine aw_get clsAll (pc' := 47) dX2_watchesMade_44 rfl fl_RX2_21 (gsn q7 (by decide) (gss e6 ((hx.2 6 (by decide) (by decide)).trans h0_6))) rfl ?_
              refine aw_iload (pc' := 49) dX2_watchesMade_47 rfl rfl ?_
              refine aw_iald (v := 0) (pc' := 50) dX2_watchesMade_49 rfl (gsn q7 (by decide) (gsn e6 (by decide) ((hx.2 10 (by decide) (by decide)).trans h0_10))) (vpc (by decide)) rfl ?_
              refine aw_iconst (v := 1) (pc' := 51) dX2_watchesMade_50 rfl (by decide) ?_
              refine aw_icmp_ne (tgt := 80) (pc' := 54) dX2_watchesMade_51 (by decide) rfl (fun _ => ?_) (fun c => absurd c (by decide))
              refine aw_iinc (lv' := [_, _, _, _, _, _]) (pc' := 83) dX2_watchesMade_80 rfl rfl (Nat.le_of_ble_eq_true rfl) rfl ?_
              refine aw_goto (tgt := 22) dX2_watchesMade_83 (by decide) ?_
              refine aw_iload (pc' := 24) dX2_watchesMade_22 rfl rfl ?_
              refine aw_bipush (v := 120) (pc' := 26) dX2_watchesMade_24 rfl (by decide) ?_
              refine aw_cge (tgt := 86) (pc' := 29) dX2_watchesMade_26 (by decide) rfl (fun c => absurd (by decide) c) (fun _ => ?_)
              refine aw_iload_n (pc' := 30) dX2_watchesMade_29 rfl rfl ?_
              refine aw_bipush (v := 9) (pc' := 32) dX2_watchesMade_30 rfl (by decide) ?_
              refine aw_cge (tgt := 86) (pc' := 35) dX2_watchesMade_32 (by decide) rfl (fun c => absurd (by decide) c) (fun _ => ?_)
              refine aw_iload (pc' := 37) dX2_watchesMade_35 rfl rfl ?_
              refine aw_iconst (v := 3) (pc' := 38) dX2_watchesMade_37 rfl (by decide) ?_
              refine aw_iload_n (pc' := 39) dX2_watchesMade_38 rfl rfl ?_
              refine aw_imul (pc' := 40) dX2_watchesMade_39 rfl ?_
              refine aw_cge (tgt := 86) (pc' := 43) dX2_watchesMade_40 (by decide) rfl (fun c => absurd c8 c) (fun _ => ?_)
              refine aw_aload_n (pc' := 44) dX2_watchesMade_43 rfl rfl rfl ?_
              refine aw_get clsAll (pc' := 47) dX2_watchesMade_44 rfl fl_RX2_21 (gsn q7 (by decide) (gss e6 ((hx.2 6 (by decide) (by decide)).trans h0_6))) rfl ?_
              refine aw_iload (pc' := 49) dX2_watchesMade_47 rfl rfl ?_
              refine aw_iald (v := 0) (pc' := 50) dX2_watchesMade_49 rfl (gsn q7 (by decide) (gsn e6 (by decide) ((hx.2 10 (by decide) (by decide)).trans h0_10))) (vpc (by decide)) rfl ?_
              refine aw_iconst (v := 1) (pc' := 51) dX2_watchesMade_50 rfl (by decide) ?_
              refine aw_icmp_ne (tgt := 80) (pc' := 54) dX2_watchesMade_51 (by decide) rfl (fun _ => ?_) (fun c => absurd c (by decide))
              refine aw_iinc (lv' := [_, _, _, _, _, _]) (pc' := 83) dX2_watchesMade_80 rfl rfl (Nat.le_of_ble_eq_true rfl) rfl ?_
              refine aw_goto (tgt := 22) dX2_watchesMade_83 (by decide) ?_
              refine aw_iload (pc' := 24) dX2_watchesMade_22 rfl rfl ?_
              refine aw_bipush (v := 120) (pc' := 26) dX2_watchesMade_24 rfl (by decide) ?_
              refine aw_cge (tgt := 86) (pc' := 29) dX2_watchesMade_26 (by decide) rfl (fun c => absurd (by decide) c) (fun _ => ?_)
              refine aw_iload_n (pc' := 30) dX2_watchesMade_29 rfl rfl ?_
              refine aw_bipush (v := 9) (pc' := 32) dX2_watchesMade_30 rfl (by decide) ?_
              refine aw_cge (tgt := 86) (pc' := 35) dX2_watchesMade_32 (by decide) rfl (fun c => absurd (by decide) c) (fun _ => ?_)
              refine aw_iload (pc' := 37) dX2_watchesMade_35 rfl rfl ?_
              refine aw_iconst (v := 3) (pc' := 38) dX2_watchesMade_37 rfl (by decide) ?_
              refine aw_iload_n (pc' := 39) dX2_watchesMade_38 rfl rfl ?_
              refine aw_imul (pc' := 40) dX2_watchesMade_39 rfl ?_
              refine aw_cge (tgt := 86) (pc' := 43) dX2_watchesMade_40 (by decide) rfl (fun c => absurd c8 c) (fun _ => ?_)
              refine aw_aload_n (pc' := 44) dX2_watchesMade_43 rfl rfl rfl ?_
              refine aw_get clsAll (pc' := 47) dX2_watchesMade_44 rfl fl_RX2_21 (gsn q7 (by decide) (gss e6 ((hx.2 6 (by decide) (by decide)).trans h0_6))) rfl ?_
              refine aw_iload (pc' := 49) dX2_watchesMade_47 rfl rfl ?_
              refine aw_iald (v := 0) (pc' := 50) dX2_watchesMade_49 rfl (gsn q7 (by decide) (gsn e6 (by decide) ((hx.2 10 (by decide) (by decide)).trans h0_10))) (vpc (by decide)) rfl ?_
              refine aw_iconst (v := 1) (pc' := 51) dX2_watchesMade_50 rfl (by decide) ?_
              refine aw_icmp_ne (tgt := 80) (pc' := 54) dX2_watchesMade_51 (by decide) rfl (fun _ => ?_) (fun c => absurd c (by decide))
              refine aw_iinc (lv' := [_, _, _, _, _, _]) (pc' := 83) dX2_watchesMade_80 rfl rfl (Nat.le_of_ble_eq_true rfl) rfl ?_
              refine aw_goto (tgt := 22) dX2_watchesMade_83 (by decide) ?_
              refine aw_iload (pc' := 24) dX2_watchesMade_22 rfl rfl ?_
              refine aw_bipush (v := 120) (pc' := 26) dX2_watchesMade_24 rfl (by decide) ?_
              refine aw_cge (tgt := 86) (pc' := 29) dX2_watchesMade_26 (by decide) rfl (fun c => absurd (by decide) c) (fun _ => ?_)
              refine aw_iload_n (pc' := 30) dX2_watchesMade_29 rfl rfl ?_
              refine aw_bipush (v := 9) (pc' := 32) dX2_watchesMade_30 rfl (by decide) ?_
              refine aw_cge (tgt := 86) (pc' := 35) dX2_watchesMade_32 (by decide) rfl (fun c => absurd (by decide) c) (fun _ => ?_)
              refine aw_iload (pc' := 37) dX2_watchesMade_35 rfl rfl ?_
              refine aw_iconst (v := 3) (pc' := 38) dX2_watchesMade_37 rfl (by decide) ?_
              refine aw_iload_n (pc' := 39) dX2_watchesMade_38 rfl rfl ?_
              refine aw_imul (pc' := 40) dX2_watchesMade_39 rfl ?_
              refine aw_cge (tgt := 86) (pc' := 43) dX2_watchesMade_40 (by decide) rfl (fun c => absurd c8 c) (fun _ => ?_)
              refine aw_aload_n (pc' := 44) dX2_watchesMade_43 rfl rfl rfl ?_
              refine aw_get clsAll (pc' := 47) dX2_watchesMade_44 rfl fl_RX2_21 (gsn q7 (by decide) (gss e6 ((hx.2 6 (by decide) (by decide)).trans h0_6))) rfl ?_
              refine aw_iload (pc' := 49) dX2_watchesMade_47 rfl rfl ?_
              refine aw_iald (v := 0) (pc' := 50) dX2_watchesMade_49 rfl (gsn q7 (by decide) (gsn e6 (by decide) ((hx.2 10 (by decide) (by decide)).trans h0_10))) (vpc (by decide)) rfl ?_
              refine aw_iconst (v := 1) (pc' := 51) dX2_watchesMade_50 rfl (by decide) ?_
              refine aw_icmp_ne (tgt := 80) (pc' := 54) dX2_watchesMade_51 (by decide) rfl (fun _ => ?_) (fun c => absurd c (by decide))
              refine aw_iinc (lv' := [_, _, _, _, _, _]) (pc' := 83) dX2_watchesMade_80 rfl rfl (Nat.le_of_ble_eq_true rfl) rfl ?_
              refine aw_goto (tgt := 22) dX2_watchesMade_83 (by decide) ?_
              refine aw_iload (pc' := 24) dX2_watchesMade_22 rfl rfl ?_
              refine aw_bipush (v := 120) (pc' := 26) dX2_watchesMade_24 rfl (by decide) ?_
              refine aw_cge (tgt := 86) (pc' := 29) dX2_watchesMade_26 (by decide) rfl (fun c => absurd (by decide) c) (fun _ => ?_)
              refine aw_iload_n (pc' := 30) dX2_watchesMade_29 rfl rfl ?_
              refine aw_bipush (v := 9) (pc' := 32) dX2_watchesMade_30 rfl (by decide) ?_
              refine aw_cge (tgt := 86) (pc' := 35) dX2_watchesMade_32 (by decide) rfl (fun c => absurd (by decide) c) (fun _ => ?_)
              refine aw_iload (pc' := 37) dX2_watchesMade_35 rfl rfl ?_
              refine aw_iconst (v := 3) (pc' := 38) dX2_watchesMade_37 rfl (by decide) ?_
              refine aw_iload_n (pc' := 39) dX2_watchesMade_38 rfl rfl ?_
              refine aw_imul (pc' := 40) dX2_watchesMade_39 rfl ?_
              refine aw_cge (tgt := 86) (pc' := 43) dX2_watchesMade_40 (by decide) rfl (fun c => absurd c8 c) (fun _ => ?_)
              refine aw_aload_n (pc' := 44) dX2_watchesMade_43 rfl rfl rfl ?_
              refine aw_get clsAll (pc' := 47) dX2_watchesMade_44 rfl fl_RX2_21 (gsn q7 (by decide) (gss e6 ((hx.2 6 (by decide) (by decide)).trans h0_6))) rfl ?_
              refine aw_iload (pc' := 49) dX2_watchesMade_47 rfl rfl ?_
              refine aw_iald (v := 0) (pc' := 50) dX2_watchesMade_49 rfl (gsn q7 (by decide) (gsn e6 (by decide) ((hx.2 10 (by decide) (by decide)).trans h0_10))) (vpc (by decide)) rfl ?_
              refine aw_iconst (v := 1) (pc' := 51) dX2_watchesMade_50 rfl (by decide) ?_
              refine aw_icmp_ne (tgt := 80) (pc' := 54) dX2_watchesMade_51 (by decide) rfl (fun _ => ?_) (fun c => absurd c (by decide))
              refine aw_iinc (lv' := [_, _, _, _, _, _]) (pc' := 83) dX2_watchesMade_80 rfl rfl (Nat.le_of_ble_eq_true rfl) rfl ?_
              refine aw_goto (tgt := 22) dX2_watchesMade_83 (by decide) ?_
              refine aw_iload (pc' := 24) dX2_watchesMade_22 rfl rfl ?_
              refine aw_bipush (v := 120) (pc' := 26) dX2_watchesMade_24 rfl (by decide) ?_
              refine aw_cge (tgt := 86) (pc' := 29) dX2_watchesMade_26 (by decide) rfl (fun c => absurd (by decide) c) (fun _ => ?_)
              refine aw_iload_n (pc' := 30) dX2_watchesMade_29 rfl rfl ?_
              refine aw_bipush (v := 9) (pc' := 32) dX2_watchesMade_30 rfl (by decide) ?_
              refine aw_cge (tgt := 86) (pc' := 35) dX2_watchesMade_32 (by decide) rfl (fun c => absurd (by decide) c) (fun _ => ?_)
              refine aw_iload (pc' := 37) dX2_watchesMade_35 rfl rfl ?_
              refine aw_iconst (v := 3) (pc' := 38) dX2_watchesMade_37 rfl (by decide) ?_
              refine aw_iload_n (pc' := 39) dX2_watchesMade_38 rfl rfl ?_
              refine aw_imul (pc' := 40) dX2_watchesMade_39 rfl ?_
              refine aw_cge (tgt := 86) (pc' := 43) dX2_watchesMade_40 (by decide) rfl (fun c => absurd c8 c) (fun _ => ?_)
              refine aw_aload_n (pc' := 44) dX2_watchesMade_43 rfl rfl rfl ?_
              refine aw_get clsAll (pc' := 47) dX2_watchesMade_44 rfl fl_RX2_21 (gsn q7 (by decide) (gss e6 ((hx.2 6 (by decide) (by decide)).trans h0_6))) rfl ?_
              refine aw_iload (pc' := 49) dX2_watchesMade_47 rfl rfl ?_
              refine aw_iald (v := 0) (pc' := 50) dX2_watchesMade_49 rfl (gsn q7 (by decide) (gsn e6 (by decide) ((hx.2 10 (by decide) (by decide)).trans h0_10))) (vpc (by decide)) rfl ?_
              refine aw_iconst (v := 1) (pc' := 51) dX2_watchesMade_50 rfl (by decide) ?_
              refine aw_icmp_ne (tgt := 80) (pc' := 54) dX2_watchesMade_51 (by decide) rfl (fun _ => ?_) (fun c => absurd c (by decide))
              refine aw_iinc (lv' := [_, _, _, _, _, _]) (pc' := 83) dX2_watchesMade_80 rfl rfl (Nat.le_of_ble_eq_true rfl) rfl ?_
              refine aw_goto (tgt := 22) dX2_watchesMade_83 (by decide) ?_
              refine aw_iload (pc' := 24) dX2_watchesMade_22 rfl rfl ?_
              refine aw_bipush (v := 120) (pc' := 26) dX2_watchesMade_24 rfl (by decide) ?_
              refine aw_cge (tgt := 86) (pc' := 29) dX2_watchesMade_26 (by decide) rfl (fun c => absurd (by decide) c) (fun _ => ?_)
              refine aw_iload_n (pc' := 30) dX2_watchesMade_29 rfl rfl ?_
              refine aw_bipush (v := 9) (pc' := 32) dX2_watchesMade_30 rfl (by decide) ?_
              refine aw_cge (tgt := 86) (pc' := 35) dX2_watchesMade_32 (by decide) rfl (fun c => absurd (by decide) c) (fun _ => ?_)
              refine aw_iload (pc' := 37) dX2_watchesMade_35 rfl rfl ?_
              refine aw_iconst (v := 3) (pc' := 38) dX2_watchesMade_37 rfl (by decide) ?_
              refine aw_iload_n (pc' := 39) dX2_watchesMade_38 rfl rfl ?_
              refine aw_imul (pc' := 40) dX2_watchesMade_39 rfl ?_
              refine aw_cge (tgt := 86) (pc' := 43) dX2_watchesMade_40 (by decide) rfl (fun c => absurd c8 c) (fun _ => ?_)
              refine aw_aload_n (pc' := 44) dX2_watchesMade_43 rfl rfl rfl ?_
              refine aw_get clsAll (pc' := 47) dX2_watchesMade_44 rfl fl_RX2_21 (gsn q7 (by decide) (gss e6 ((hx.2 6 (by decide) (by decide)).trans h0_6))) rfl ?_
              refine aw_iload (pc' := 49) dX2_watchesMade_47 rfl rfl ?_
              refine aw_iald (v := 0) (pc' := 50) dX2_watchesMade_49 rfl (gsn q7 (by decide) (gsn e6 (by decide) ((hx.2 10 (by decide) (by decide)).trans h0_10))) (vpc (by decide)) rfl ?_
              refine aw_iconst (v := 1) (pc' := 51) dX2_watchesMade_50 rfl (by decide) ?_
              refine aw_icmp_ne (tgt := 80) (pc' := 54) dX2_watchesMade_51 (by decide) rfl (fun _ => ?_) (fun c => absurd c (by decide))
              refine aw_iinc (lv' := [_, _, _, _, _, _]) (pc' := 83) dX2_watchesMade_80 rfl rfl (Nat.le_of_ble_eq_true rfl) rfl ?_
              refine aw_goto (tgt := 22) dX2_watchesMade_83 (by decide) ?_
              refine aw_iload (pc' := 24) dX2_watchesMade_22 rfl rfl ?_
              refine aw_bipush (v := 120) (pc' := 26) dX2_watchesMade_24 rfl (by decide) ?_
              refine aw_cge (tgt := 86) (pc' := 29) dX2_watchesMade_26 (by decide) rfl (fun c => absurd (by decide) c) (fun _ => ?_)
              refine aw_iload_n (pc' := 30) dX2_watchesMade_29 rfl rfl ?_
              refine aw_bipush (v := 9) (pc' := 32) dX2_watchesMade_30 rfl (by decide) ?_
              refine aw_cge (tgt := 86) (pc' := 35) dX2_watchesMade_32 (by decide) rfl (fun c => absurd (by decide) c) (fun _ => ?_)
              refine aw_iload (pc' := 37) dX2_watchesMade_35 rfl rfl ?_
              refine aw_iconst (v := 3) (pc' := 38) dX2_watchesMade_37 rfl (by decide) ?_
              refine aw_iload_n (pc' := 39) dX2_watchesMade_38 rfl rfl ?_
              refine aw_imul (pc' := 40) dX2_watchesMade_39 rfl ?_
              refine aw_cge (tgt := 86) (pc' := 43) dX2_watchesMade_40 (by decide) rfl (fun c => absurd c8 c) (fun _ => ?_)
              refine aw_aload_n (pc' := 44) dX2_watchesMade_43 rfl rfl rfl ?_
              refine aw_get clsAll (pc' := 47) dX2_watchesMade_44 rfl fl_RX2_21 (gsn q7 (by decide) (gss e6 ((hx.2 6 (by decide) (by decide)).trans h0_6))) rfl ?_
              refine aw_iload (pc' := 49) dX2_watchesMade_47 rfl rfl ?_
              refine aw_iald (v := 0) (pc' := 50) dX2_watchesMade_49 rfl (gsn q7 (by decide) (gsn e6 (by decide) ((hx.2 10 (by decide) (by decide)).trans h0_10))) (vpc (by decide)) rfl ?_
              refine aw_iconst (v := 1) (pc' := 51) dX2_watchesMade_50 rfl (by decide) ?_
              refine aw_icmp_ne (tgt := 80) (pc' := 54) dX2_watchesMade_51 (by decide) rfl (fun _ => ?_) (fun c => absurd c (by decide))
              refine aw_iinc (lv' := [_, _, _, _, _, _]) (pc' := 83) dX2_watchesMade_80 rfl rfl (Nat.le_of_ble_eq_true rfl) rfl ?_
              refine aw_goto (tgt := 22) dX2_watchesMade_83 (by decide) ?_
              refine aw_iload (pc' := 24) dX2_watchesMade_22 rfl rfl ?_
              refine aw_bipush (v := 120) (pc' := 26) dX2_watchesMade_24 rfl (by decide) ?_
              refine aw_cge (tgt := 86) (pc' := 29) dX2_watchesMade_26 (by decide) rfl (fun c => absurd (by decide) c) (fun _ => ?_)
              refine aw_iload_n (pc' := 30) dX2_watchesMade_29 rfl rfl ?_
              refine aw_bipush (v := 9) (pc' := 32) dX2_watchesMade_30 rfl (by decide) ?_
              refine aw_cge (tgt := 86) (pc' := 35) dX2_watchesMade_32 (by decide) rfl (fun c => absurd (by decide) c) (fun _ => ?_)
              refine aw_iload (pc' := 37) dX2_watchesMade_35 rfl rfl ?_
              refine aw_iconst (v := 3) (pc' := 38) dX2_watchesMade_37 rfl (by decide) ?_
              refine aw_iload_n (pc' := 39) dX2_watchesMade_38 rfl rfl ?_
              refine aw_imul (pc' := 40) dX2_watchesMade_39 rfl ?_
              refine aw_cge (tgt := 86) (pc' := 43) dX2_watchesMade_40 (by decide) rfl (fun c => absurd c8 c) (fun _ => ?_)
              refine aw_aload_n (pc' := 44) dX2_watchesMade_43 rfl rfl rfl ?_
              refine aw_get clsAll (pc' := 47) dX2_watchesMade_44 rfl fl_RX2_21 (gsn q7 (by decide) (gss e6 ((hx.2 6 (by decide) (by decide)).trans h0_6))) rfl ?_
              refine aw_iload (pc' := 49) dX2_watchesMade_47 rfl rfl ?_
              refine aw_iald (v := 0) (pc' := 50) dX2_watchesMade_49 rfl (gsn q7 (by decide) (gsn e6 (by decide) ((hx.2 10 (by decide) (by decide)).trans h0_10))) (vpc (by decide)) rfl ?_
              refine aw_iconst (v := 1) (pc' := 51) dX2_watchesMade_50 rfl (by decide) ?_
              refine aw_icmp_ne (tgt := 80) (pc' := 54) dX2_watchesMade_51 (by decide) rfl (fun _ => ?_) (fun c => absurd c (by decide))
              refine aw_iinc (lv' := [_, _, _, _, _, _]) (pc' := 83) dX2_watchesMade_80 rfl rfl (Nat.le_of_ble_eq_true rfl) rfl ?_
              refine aw_goto (tgt := 22) dX2_watchesMade_83 (by decide) ?_
              refine aw_iload (pc' := 24) dX2_watchesMade_22 rfl rfl ?_
              refine aw_bipush (v := 120) (pc' := 26) dX2_watchesMade_24 rfl (by decide) ?_
              refine aw_cge (tgt := 86) (pc' := 29) dX2_watchesMade_26 (by decide) rfl (fun c => absurd (by decide) c) (fun _ => ?_)
              refine aw_iload_n (pc' := 30) dX2_watchesMade_29 rfl rfl ?_
              refine aw_bipush (v := 9) (pc' := 32) dX2_watchesMade_30 rfl (by decide) ?_
              refine aw_cge (tgt := 86) (pc' := 35) dX2_watchesMade_32 (by decide) rfl (fun c => absurd (by decide) c) (fun _ => ?_)
              refine aw_iload (pc' := 37) dX2_watchesMade_35 rfl rfl ?_
              refine aw_iconst (v := 3) (pc' := 38) dX2_watchesMade_37 rfl (by decide) ?_
              refine aw_iload_n (pc' := 39) dX2_watchesMade_38 rfl rfl ?_
              refine aw_imul (pc' := 40) dX2_watchesMade_39 rfl ?_
              refine aw_cge (tgt := 86) (pc' := 43) dX2_watchesMade_40 (by decide) rfl (fun c => absurd c8 c) (fun _ => ?_)
              refine aw_aload_n (pc' := 44) dX2_watchesMade_43 rfl rfl rfl ?_
              refine aw_get clsAll (pc' := 47) dX2_watchesMade_44 rfl fl_RX2_21 (gsn q7 (by decide) (gss e6 ((hx.2 6 (by decide) (by decide)).trans h0_6))) rfl ?_
              refine aw_iload (pc' := 49) dX2_watchesMade_47 rfl rfl ?_
              refine aw_iald (v := 0) (pc' := 50) dX2_watchesMade_49 rfl (gsn q7 (by decide) (gsn e6 (by decide) ((hx.2 10 (by decide) (by decide)).trans h0_10))) (vpc (by decide)) rfl ?_
              refine aw_iconst (v := 1) (pc' := 51) dX2_watchesMade_50 rfl (by decide) ?_
              refine aw_icmp_ne (tgt := 80) (pc' := 54) dX2_watchesMade_51 (by decide) rfl (fun _ => ?_) (fun c => absurd c (by decide))
              refine aw_iinc (lv' := [_, _, _, _, _, _]) (pc' := 83) dX2_watchesMade_80 rfl rfl (Nat.le_of_ble_eq_true rfl) rfl ?_
              refine aw_goto (tgt := 22) dX2_watchesMade_83 (by decide) ?_
              refine aw_iload (pc' := 24) dX2_watchesMade_22 rfl rfl ?_
              refine aw_bipush (v := 120) (pc' := 26) dX2_watchesMade_24 rfl (by decide) ?_
              refine aw_cge (tgt := 86) (pc' := 29) dX2_watchesMade_26 (by decide) rfl (fun c => absurd (by decide) c) (fun _ => ?_)
              refine aw_iload_n (pc' := 30) dX2_watchesMade_29 rfl rfl ?_
              refine aw_bipush (v := 9) (pc' := 32) dX2_watchesMade_30 rfl (by decide) ?_
              refine aw_cge (tgt := 86) (pc' := 35) dX2_watchesMade_32 (by decide) rfl (fun c => absurd (by decide) c) (fun _ => ?_)
              refine aw_iload (pc' := 37) dX2_watchesMade_35 rfl rfl ?_
              refine aw_iconst (v := 3) (pc' := 38) dX2_watchesMade_37 rfl (by decide) ?_
              refine aw_iload_n (pc' := 39) dX2_watchesMade_38 rfl rfl ?_
              refine aw_imul (pc' := 40) dX2_watchesMade_39 rfl ?_
              refine aw_cge (tgt := 86) (pc' := 43) dX2_watchesMade_40 (by decide) rfl (fun c => absurd c8 c) (fun _ => ?_)
              refine aw_aload_n (pc' := 44) dX2_watchesMade_43 rfl rfl rfl ?_
              refine aw_get clsAll (pc' := 47) dX2_watchesMade_44 rfl fl_RX2_21 (gsn q7 (by decide) (gss e6 ((hx.2 6 (by decide) (by decide)).trans h0_6))) rfl ?_
              refine aw_iload (pc' := 49) dX2_watchesMade_47 rfl rfl ?_
              refine aw_iald (v := 0) (pc' := 50) dX2_watchesMade_49 rfl (gsn q7 (by decide) (gsn e6 (by decide) ((hx.2 10 (by decide) (by decide)).trans h0_10))) (vpc (by decide)) rfl ?_
              refine aw_iconst (v := 1) (pc' := 51) dX2_watchesMade_50 rfl (by decide) ?_
              refine aw_icmp_ne (tgt := 80) (pc' := 54) dX2_watchesMade_51 (by decide) rfl (fun _ => ?_) (fun c => absurd c (by decide))
              refine aw_iinc (lv' := [_, _, _, _, _, _]) (pc' := 83) dX2_watchesMade_80 rfl rfl (Nat.le_of_ble_eq_true rfl) rfl ?_
              refine aw_goto (tgt := 22) dX2_watchesMade_83 (by decide) ?_
              refine aw_iload (pc' := 24) dX2_watchesMade_22 rfl rfl ?_
              refine aw_bipush (v := 120) (pc' := 26) dX2_watchesMade_24 rfl (by decide) ?_
              refine aw_cge (tgt := 86) (pc' := 29) dX2_watchesMade_26 (by decide) rfl (fun c => absurd (by decide) c) (fun _ => ?_)
              refine aw_iload_n (pc' := 30) dX2_watchesMade_29 rfl rfl ?_
              refine aw_bipush (v := 9) (pc' := 32) dX2_watchesMade_30 rfl (by decide) ?_
              refine aw_cge (tgt := 86) (pc' := 35) dX2_watchesMade_32 (by decide) rfl (fun c => absurd (by decide) c) (fun _ => ?_)
              refine aw_iload (pc' := 37) dX2_watchesMade_35 rfl rfl ?_
              refine aw_iconst (v := 3) (pc' := 38) dX2_watchesMade_37 rfl (by decide) ?_
              refine aw_iload_n (pc' := 39) dX2_watchesMade_38 rfl rfl ?_
              refine aw_imul (pc' := 40) dX2_watchesMade_39 rfl ?_
              refine aw_cge (tgt := 86) (pc' := 43) dX2_watchesMade_40 (by decide) rfl (fun c => absurd c8 c) (fun _ => ?_)
              refine aw_aload_n (pc' := 44) dX2_watchesMade_43 rfl rfl rfl ?_
              refine aw_get clsAll (pc' := 47) dX2_watchesMade_44 rfl fl_RX2_21 (gsn q7 (by decide) (gss e6 ((hx.2 6 (by decide) (by decide)).trans h0_6))) rfl ?_
              refine aw_iload (pc' := 49) dX2_watchesMade_47 rfl rfl ?_
              refine aw_iald (v := 0) (pc' := 50) dX2_watchesMade_49 rfl (gsn q7 (by decide) (gsn e6 (by decide) ((hx.2 10 (by decide) (by decide)).trans h0_10))) (vpc (by decide)) rfl ?_
              refine aw_iconst (v := 1) (pc' := 51) dX2_watchesMade_50 rfl (by decide) ?_
              refine aw_icmp_ne (tgt := 80) (pc' := 54) dX2_watchesMade_51 (by decide) rfl (fun _ => ?_) (fun c => absurd c (by decide))
              refine aw_iinc (lv' := [_, _, _, _, _, _]) (pc' := 83) dX2_watchesMade_80 rfl rfl (Nat.le_of_ble_eq_true rfl) rfl ?_
              refine aw_goto (tgt := 22) dX2_watchesMade_83 (by decide) ?_
              refine aw_iload (pc' := 24) dX2_watchesMade_22 rfl rfl ?_
              refine aw_bipush (v := 120) (pc' := 26) dX2_watchesMade_24 rfl (by decide) ?_
              refine aw_cge (tgt := 86) (pc' := 29) dX2_watchesMade_26 (by decide) rfl (fun c => absurd (by decide) c) (fun _ => ?_)
              refine aw_iload_n (pc' := 30) dX2_watchesMade_29 rfl rfl ?_
              refine aw_bipush (v := 9) (pc' := 32) dX2_watchesMade_30 rfl (by decide) ?_
              refine aw_cge (tgt := 86) (pc' := 35) dX2_watchesMade_32 (by decide) rfl (fun c => absurd (by decide) c) (fun _ => ?_)
              refine aw_iload (pc' := 37) dX2_watchesMade_35 rfl rfl ?_
              refine aw_iconst (v := 3) (pc' := 38) dX2_watchesMade_37 rfl (by decide) ?_
              refine aw_iload_n (pc' := 39) dX2_watchesMade_38 rfl rfl ?_
              refine aw_imul (pc' := 40) dX2_watchesMade_39 rfl ?_
              refine aw_cge (tgt := 86) (pc' := 43) dX2_watchesMade_40 (by decide) rfl (fun c => absurd c8 c) (fun _ => ?_)
              refine aw_aload_n (pc' := 44) dX2_watchesMade_43 rfl rfl rfl ?_
              refine aw_get clsAll (pc' := 47) dX2_watchesMade_44 rfl fl_RX2_21 (gsn q7 (by decide) (gss e6 ((hx.2 6 (by decide) (by decide)).trans h0_6))) rfl ?_
              refine aw_iload (pc' := 49) dX2_watchesMade_47 rfl rfl ?_
              refine aw_iald (v := 0) (pc' := 50) dX2_watchesMade_49 rfl (gsn q7 (by decide) (gsn e6 (by decide) ((hx.2 10 (by decide) (by decide)).trans h0_10))) (vpc (by decide)) rfl ?_
              refine aw_iconst (v := 1) (pc' := 51) dX2_watchesMade_50 rfl (by decide) ?_
              refine aw_icmp_ne (tgt := 80) (pc' := 54) dX2_watchesMade_51 (by decide) rfl (fun _ => ?_) (fun c => absurd c (by decide))
              refine aw_iinc (lv' := [_, _, _, _, _, _]) (pc' := 83) dX2_watchesMade_80 rfl rfl (Nat.le_of_ble_eq_true rfl) rfl ?_
              refine aw_goto (tgt := 22) dX2_watchesMade_83 (by decide) ?_
              refine aw_iload (pc' := 24) dX2_watchesMade_22 rfl rfl ?_
              refine aw_bipush (v := 120) (pc' := 26) dX2_watchesMade_24 rfl (by decide) ?_
              refine aw_cge (tgt := 86) (pc' := 29) dX2_watchesMade_26 (by decide) rfl (fun c => absurd (by decide) c) (fun _ => ?_)
              refine aw_iload_n (pc' := 30) dX2_watchesMade_29 rfl rfl ?_
              refine aw_bipush (v := 9) (pc' := 32) dX2_watchesMade_30 rfl (by decide) ?_
              refine aw_cge (tgt := 86) (pc' := 35) dX2_watchesMade_32 (by decide) rfl (fun c => absurd (by decide) c) (fun _ => ?_)
              refine aw_iload (pc' := 37) dX2_watchesMade_35 rfl rfl ?_
              refine aw_iconst (v := 3) (pc' := 38) dX2_watchesMade_37 rfl (by decide) ?_
              refine aw_iload_n (pc' := 39) dX2_watchesMade_38 rfl rfl ?_
              refine aw_imul (pc' := 40) dX2_watchesMade_39 rfl ?_
              refine aw_cge (tgt := 86) (pc' := 43) dX2_watchesMade_40 (by decide) rfl (fun c => absurd c8 c) (fun _ => ?_)
              refine aw_aload_n (pc' := 44) dX2_watchesMade_43 rfl rfl rfl ?_
              refine aw_get clsAll (pc' := 47) dX2_watchesMade_44 rfl fl_RX2_21 (gsn q7 (by decide) (gss e6 ((hx.2 6 (by decide) (by decide)).trans h0_6))) rfl ?_
              refine aw_iload (pc' := 49) dX2_watchesMade_47 rfl rfl ?_
              refine aw_iald (v := 0) (pc' := 50) dX2_watchesMade_49 rfl (gsn q7 (by decide) (gsn e6 (by decide) ((hx.2 10 (by decide) (by decide)).trans h0_10))) (vpc (by decide)) rfl ?_
              refine aw_iconst (v := 1) (pc' := 51) dX2_watchesMade_50 rfl (by decide) ?_
              refine aw_icmp_ne (tgt := 80) (pc' := 54) dX2_watchesMade_51 (by decide) rfl (fun _ => ?_) (fun c => absurd c (by decide))
              refine aw_iinc (lv' := [_, _, _, _, _, _]) (pc' := 83) dX2_watchesMade_80 rfl rfl (Nat.le_of_ble_eq_true rfl) rfl ?_
              refine aw_goto (tgt := 22) dX2_watchesMade_83 (by decide) ?_
              refine aw_iload (pc' := 24) dX2_watchesMade_22 rfl rfl ?_
              refine aw_bipush (v := 120) (pc' := 26) dX2_watchesMade_24 rfl (by decide) ?_
              refine aw_cge (tgt := 86) (pc' := 29) dX2_watchesMade_26 (by decide) rfl (fun c => absurd (by decide) c) (fun _ => ?_)
              refine aw_iload_n (pc' := 30) dX2_watchesMade_29 rfl rfl ?_
              refine aw_bipush (v := 9) (pc' := 32) dX2_watchesMade_30 rfl (by decide) ?_
              refine aw_cge (tgt := 86) (pc' := 35) dX2_watchesMade_32 (by decide) rfl (fun c => absurd (by decide) c) (fun _ => ?_)
              refine aw_iload (pc' := 37) dX2_watchesMade_35 rfl rfl ?_
              refine aw_iconst (v := 3) (pc' := 38) dX2_watchesMade_37 rfl (by decide) ?_
              refine aw_iload_n (pc' := 39) dX2_watchesMade_38 rfl rfl ?_
              refine aw_imul (pc' := 40) dX2_watchesMade_39 rfl ?_
              refine aw_cge (tgt := 86) (pc' := 43) dX2_watchesMade_40 (by decide) rfl (fun c => absurd c8 c) (fun _ => ?_)
              refine aw_aload_n (pc' := 44) dX2_watchesMade_43 rfl rfl rfl ?_
              refine aw_get clsAll (pc' := 47) dX2_watchesMade_44 rfl fl_RX2_21 (gsn q7 (by decide) (gss e6 ((hx.2 6 (by decide) (by decide)).trans h0_6))) rfl ?_
              refine aw_iload (pc' := 49) dX2_watchesMade_47 rfl rfl ?_
              refine aw_iald (v := 0) (pc' := 50) dX2_watchesMade_49 rfl (gsn q7 (by decide) (gsn e6 (by decide) ((hx.2 10 (by decide) (by decide)).trans h0_10))) (vpc (by decide)) rfl ?_
              refine aw_iconst (v := 1) (pc' := 51) dX2_watchesMade_50 rfl (by decide) ?_
              refine aw_icmp_ne (tgt := 80) (pc' := 54) dX2_watchesMade_51 (by decide) rfl (fun _ => ?_) (fun c => absurd c (by decide))
              refine aw_iinc (lv' := [_, _, _, _, _, _]) (pc' := 83) dX2_watchesMade_80 rfl rfl (Nat.le_of_ble_eq_true rfl) rfl ?_
              refine aw_goto (tgt := 22) dX2_watchesMade_83 (by decide) ?_
              refine aw_iload (pc' := 24) dX2_watchesMade_22 rfl rfl ?_
              refine aw_bipush (v := 120) (pc' := 26) dX2_watchesMade_24 rfl (by decide) ?_
              refine aw_cge (tgt := 86) (pc' := 29) dX2_watchesMade_26 (by decide) rfl (fun c => absurd (by decide) c) (fun _ => ?_)
              refine aw_iload_n (pc' := 30) dX2_watchesMade_29 rfl rfl ?_
              refine aw_bipush (v := 9) (pc' := 32) dX2_watchesMade_30 rfl (by decide) ?_
              refine aw_cge (tgt := 86) (pc' := 35) dX2_watchesMade_32 (by decide) rfl (fun c => absurd (by decide) c) (fun _ => ?_)
              refine aw_iload (pc' := 37) dX2_watchesMade_35 rfl rfl ?_
              refine aw_iconst (v := 3) (pc' := 38) dX2_watchesMade_37 rfl (by decide) ?_
              refine aw_iload_n (pc' := 39) dX2_watchesMade_38 rfl rfl ?_
              refine aw_imul (pc' := 40) dX2_watchesMade_39 rfl ?_
              refine aw_cge (tgt := 86) (pc' := 43) dX2_watchesMade_40 (by decide) rfl (fun c => absurd c8 c) (fun _ => ?_)
              refine aw_aload_n (pc' := 44) dX2_watchesMade_43 rfl rfl rfl ?_
              refine aw_get clsAll (pc' := 47) dX2_watchesMade_44 rfl fl_RX2_21 (gsn q7 (by decide) (gss e6 ((hx.2 6 (by decide) (by decide)).trans h0_6))) rfl ?_
              refine aw_iload (pc' := 49) dX2_watchesMade_47 rfl rfl ?_
              refine aw_iald (v := 0) (pc' := 50) dX2_watchesMade_49 rfl (gsn q7 (by decide) (gsn e6 (by decide) ((hx.2 10 (by decide) (by decide)).trans h0_10))) (vpc (by decide)) rfl ?_
              refine aw_iconst (v := 1) (pc' := 51) dX2_watchesMade_50 rfl (by decide) ?_
              refine aw_icmp_ne (tgt := 80) (pc' := 54) dX2_watchesMade_51 (by decide) rfl (fun _ => ?_) (fun c => absurd c (by decide))
              refine aw_iinc (lv' := [_, _, _, _, _, _]) (pc' := 83) dX2_watchesMade_80 rfl rfl (Nat.le_of_ble_eq_true rfl) rfl ?_
              refine aw_goto (tgt := 22) dX2_watchesMade_83 (by decide) ?_
              refine aw_iload (pc' := 24) dX2_watchesMade_22 rfl rfl ?_
              refine aw_bipush (v := 120) (pc' := 26) dX2_watchesMade_24 rfl (by decide) ?_
              refine aw_cge (tgt := 86) (pc' := 29) dX2_watchesMade_26 (by decide) rfl (fun c => absurd (by decide) c) (fun _ => ?_)
              refine aw_iload_n (pc' := 30) dX2_watchesMade_29 rfl rfl ?_
              refine aw_bipush (v := 9) (pc' := 32) dX2_watchesMade_30 rfl (by decide) ?_
              refine aw_cge (tgt := 86) (pc' := 35) dX2_watchesMade_32 (by decide) rfl (fun c => absurd (by decide) c) (fun _ => ?_)
              refine aw_iload (pc' := 37) dX2_watchesMade_35 rfl rfl ?_
              refine aw_iconst (v := 3) (pc' := 38) dX2_watchesMade_37 rfl (by decide) ?_
              refine aw_iload_n (pc' := 39) dX2_watchesMade_38 rfl rfl ?_
              refine aw_imul (pc' := 40) dX2_watchesMade_39 rfl ?_
              refine aw_cge (tgt := 86) (pc' := 43) dX2_watchesMade_40 (by decide) rfl (fun c => absurd c8 c) (fun _ => ?_)
              refine aw_aload_n (pc' := 44) dX2_watchesMade_43 rfl rfl rfl ?_
              refine aw_get clsAll (pc' := 47) dX2_watchesMade_44 rfl fl_RX2_21 (gsn q7 (by decide) (gss e6 ((hx.2 6 (by decide) (by decide)).trans h0_6))) rfl ?_
              refine aw_iload (pc' := 49) dX2_watchesMade_47 rfl rfl ?_
              refine aw_iald (v := 0) (pc' := 50) dX2_watchesMade_49 rfl (gsn q7 (by decide) (gsn e6 (by decide) ((hx.2 10 (by decide) (by decide)).trans h0_10))) (vpc (by decide)) rfl ?_
              refine aw_iconst (v := 1) (pc' := 51) dX2_watchesMade_50 rfl (by decide) ?_
              refine aw_icmp_ne (tgt := 80) (pc' := 54) dX2_watchesMade_51 (by decide) rfl (fun _ => ?_) (fun c => absurd c (by decide))
              refine aw_iinc (lv' := [_, _, _, _, _, _]) (pc' := 83) dX2_watchesMade_80 rfl rfl (Nat.le_of_ble_eq_true rfl) rfl ?_
              refine aw_goto (tgt := 22) dX2_watchesMade_83 (by decide) ?_
              refine aw_iload (pc' := 24) dX2_watchesMade_22 rfl rfl ?_
              refine aw_bipush (v := 120) (pc' := 26) dX2_watchesMade_24 rfl (by decide) ?_
              refine aw_cge (tgt := 86) (pc' := 29) dX2_watchesMade_26 (by decide) rfl (fun c => absurd (by decide) c) (fun _ => ?_)
              refine aw_iload_n (pc' := 30) dX2_watchesMade_29 rfl rfl ?_
              refine aw_bipush (v := 9) (pc' := 32) dX2_watchesMade_30 rfl (by decide) ?_
              refine aw_cge (tgt := 86) (pc' := 35) dX2_watchesMade_32 (by decide) rfl (fun c => absurd (by decide) c) (fun _ => ?_)
              refine aw_iload (pc' := 37) dX2_watchesMade_35 rfl rfl ?_
              refine aw_iconst (v := 3) (pc' := 38) dX2_watchesMade_37 rfl (by decide) ?_
              refine aw_iload_n (pc' := 39) dX2_watchesMade_38 rfl rfl ?_
              refine aw_imul (pc' := 40) dX2_watchesMade_39 rfl ?_
              refine aw_cge (tgt := 86) (pc' := 43) dX2_watchesMade_40 (by decide) rfl (fun c => absurd c8 c) (fun _ => ?_)
              refine aw_aload_n (pc' := 44) dX2_watchesMade_43 rfl rfl rfl ?_
              refine aw_get clsAll (pc' := 47) dX2_watchesMade_44 rfl fl_RX2_21 (gsn q7 (by decide) (gss e6 ((hx.2 6 (by decide) (by decide)).trans h0_6))) rfl ?_
              refine aw_iload (pc' := 49) dX2_watchesMade_47 rfl rfl ?_
              refine aw_iald (v := 0) (pc' := 50) dX2_watchesMade_49 rfl (gsn q7 (by decide) (gsn e6 (by decide) ((hx.2 10 (by decide) (by decide)).trans h0_10))) (vpc (by decide)) rfl ?_
              refine aw_iconst (v := 1) (pc' := 51) dX2_watchesMade_50 rfl (by decide) ?_
              refine aw_icmp_ne (tgt := 80) (pc' := 54) dX2_watchesMade_51 (by decide) rfl (fun _ => ?_) (fun c => absurd c (by decide))
              refine aw_iinc (lv' := [_, _, _, _, _, _]) (pc' := 83) dX2_watchesMade_80 rfl rfl (Nat.le_of_ble_eq_true rfl) rfl ?_
              refine aw_goto (tgt := 22) dX2_watchesMade_83 (by decide) ?_
              refine aw_iload (pc' := 24) dX2_watchesMade_22 rfl rfl ?_
              refine aw_bipush (v := 120) (pc' := 26) dX2_watchesMade_24 rfl (by decide) ?_
              refine aw_cge (tgt := 86) (pc' := 29) dX2_watchesMade_26 (by decide) rfl (fun c => absurd (by decide) c) (fun _ => ?_)
              refine aw_iload_n (pc' := 30) dX2_watchesMade_29 rfl rfl ?_
              refine aw_bipush (v := 9) (pc' := 32) dX2_watchesMade_30 rfl (by decide) ?_
              refine aw_cge (tgt := 86) (pc' := 35) dX2_watchesMade_32 (by decide) rfl (fun c => absurd (by decide) c) (fun _ => ?_)
              refine aw_iload (pc' := 37) dX2_watchesMade_35 rfl rfl ?_
              refine aw_iconst (v := 3) (pc' := 38) dX2_watchesMade_37 rfl (by decide) ?_
              refine aw_iload_n (pc' := 39) dX2_watchesMade_38 rfl rfl ?_
              refine aw_imul (pc' := 40) dX2_watchesMade_39 rfl ?_
              refine aw_cge (tgt := 86) (pc' := 43) dX2_watchesMade_40 (by decide) rfl (fun c => absurd c8 c) (fun _ => ?_)
              refine aw_aload_n (pc' := 44) dX2_watchesMade_43 rfl rfl rfl ?_
              refine aw_get clsAll (pc' := 47) dX2_watchesMade_44 rfl fl_RX2_21 (gsn q7 (by decide) (gss e6 ((hx.2 6 (by decide) (by decide)).trans h0_6))) rfl ?_
              refine aw_iload (pc' := 49) dX2_watchesMade_47 rfl rfl ?_
              refine aw_iald (v := 0) (pc' := 50) dX2_watchesMade_49 rfl (gsn q7 (by decide) (gsn e6 (by decide) ((hx.2 10 (by decide) (by decide)).trans h0_10))) (vpc (by decide)) rfl ?_
              refine aw_iconst (v := 1) (pc' := 51) dX2_watchesMade_50 rfl (by decide) ?_
              refine aw_icmp_ne (tgt := 80) (pc' := 54) dX2_watchesMade_51 (by decide) rfl (fun _ => ?_) (fun c => absurd c (by decide))
              refine aw_iinc (lv' := [_, _, _, _, _, _]) (pc' := 83) dX2_watchesMade_80 rfl rfl (Nat.le_of_ble_eq_true rfl) rfl ?_
              refine aw_goto (tgt := 22) dX2_watchesMade_83 (by decide) ?_
              refine aw_iload (pc' := 24) dX2_watchesMade_22 rfl rfl ?_
              refine aw_bipush (v := 120) (pc' := 26) dX2_watchesMade_24 rfl (by decide) ?_
              refine aw_cge (tgt := 86) (pc' := 29) dX2_watchesMade_26 (by decide) rfl (fun c => absurd (by decide) c) (fun _ => ?_)
              refine aw_iload_n (pc' := 30) dX2_watchesMade_29 rfl rfl ?_
              refine aw_bipush (v := 9) (pc' := 32) dX2_watchesMade_30 rfl (by decide) ?_
              refine aw_cge (tgt := 86) (pc' := 35) dX2_watchesMade_32 (by decide) rfl (fun c => absurd (by decide) c) (fun _ => ?_)
              refine aw_iload (pc' := 37) dX2_watchesMade_35 rfl rfl ?_
              refine aw_iconst (v := 3) (pc' := 38) dX2_watchesMade_37 rfl (by decide) ?_
              refine aw_iload_n (pc' := 39) dX2_watchesMade_38 rfl rfl ?_
              refine aw_imul (pc' := 40) dX2_watchesMade_39 rfl ?_
              refine aw_cge (tgt := 86) (pc' := 43) dX2_watchesMade_40 (by decide) rfl (fun c => absurd c8 c) (fun _ => ?_)
              refine aw_aload_n (pc' := 44) dX2_watchesMade_43 rfl rfl rfl ?_
              refine aw_get clsAll (pc' := 47) dX2_watchesMade_44 rfl fl_RX2_21 (gsn q7 (by decide) (gss e6 ((hx.2 6 (by decide) (by decide)).trans h0_6))) rfl ?_
              refine aw_iload (pc' := 49) dX2_watchesMade_47 rfl rfl ?_
              refine aw_iald (v := 0) (pc' := 50) dX2_watchesMade_49 rfl (gsn q7 (by decide) (gsn e6 (by decide) ((hx.2 10 (by decide) (by decide)).trans h0_10))) (vpc (by decide)) rfl ?_
              refine aw_iconst (v := 1) (pc' := 51) dX2_watchesMade_50 rfl (by decide) ?_
              refine aw_icmp_ne (tgt := 80) (pc' := 54) dX2_watchesMade_51 (by decide) rfl (fun _ => ?_) (fun c => absurd c (by decide))
              refine aw_iinc (lv' := [_, _, _, _, _, _]) (pc' := 83) dX2_watchesMade_80 rfl rfl (Nat.le_of_ble_eq_true rfl) rfl ?_
              refine aw_goto (tgt := 22) dX2_watchesMade_83 (by decide) ?_
              refine aw_iload (pc' := 24) dX2_watchesMade_22 rfl rfl ?_
              refine aw_bipush (v := 120) (pc' := 26) dX2_watchesMade_24 rfl (by decide) ?_
              refine aw_cge (tgt := 86) (pc' := 29) dX2_watchesMade_26 (by decide) rfl (fun c => absurd (by decide) c) (fun _ => ?_)
              refine aw_iload_n (pc' := 30) dX2_watchesMade_29 rfl rfl ?_
              refine aw_bipush (v := 9) (pc' := 32) dX2_watchesMade_30 rfl (by decide) ?_
              refine aw_cge (tgt := 86) (pc' := 35) dX2_watchesMade_32 (by decide) rfl (fun c => absurd (by decide) c) (fun _ => ?_)
              refine aw_iload (pc' := 37) dX2_watchesMade_35 rfl rfl ?_
              refine aw_iconst (v := 3) (pc' := 38) dX2_watchesMade_37 rfl (by decide) ?_
              refine aw_iload_n (pc' := 39) dX2_watchesMade_38 rfl rfl ?_
              refine aw_imul (pc' := 40) dX2_watchesMade_39 rfl ?_
              refine aw_cge (tgt := 86) (pc' := 43) dX2_watchesMade_40 (by decide) rfl (fun c => absurd c8 c) (fun _ => ?_)
              refine aw_aload_n (pc' := 44) dX2_watchesMade_43 rfl rfl rfl ?_
              refine aw_get clsAll (pc' := 47) dX2_watchesMade_44 rfl fl_RX2_21 (gsn q7 (by decide) (gss e6 ((hx.2 6 (by decide) (by decide)).trans h0_6))) rfl ?_
              refine aw_iload (pc' := 49) dX2_watchesMade_47 rfl rfl ?_
              refine aw_iald (v := 0) (pc' := 50) dX2_watchesMade_49 rfl (gsn q7 (by decide) (gsn e6 (by decide) ((hx.2 10 (by decide) (by decide)).trans h0_10))) (vpc (by decide)) rfl ?_
              refine aw_iconst (v := 1) (pc' := 51) dX2_watchesMade_50 rfl (by decide) ?_
              refine aw_icmp_ne (tgt := 80) (pc' := 54) dX2_watchesMade_51 (by decide) rfl (fun _ => ?_) (fun c => absurd c (by decide))
              refine aw_iinc (lv' := [_, _, _, _, _, _]) (pc' := 83) dX2_watchesMade_80 rfl rfl (Nat.le_of_ble_eq_true rfl) rfl ?_
              refine aw_goto (tgt := 22) dX2_watchesMade_83 (by decide) ?_
              refine aw_iload (pc' := 24) dX2_watchesMade_22 rfl rfl ?_
              refine aw_bipush (v := 120) (pc' := 26) dX2_watchesMade_24 rfl (by decide) ?_
              refine aw_cge (tgt := 86) (pc' := 29) dX2_watchesMade_26 (by decide) rfl (fun c => absurd (by decide) c) (fun _ => ?_)
              refine aw_iload_n (pc' := 30) dX2_watchesMade_29 rfl rfl ?_
              refine aw_bipush (v := 9) (pc' := 32) dX2_watchesMade_30 rfl (by decide) ?_
              refine aw_cge (tgt := 86) (pc' := 35) dX2_watchesMade_32 (by decide) rfl (fun c => absurd (by decide) c) (fun _ => ?_)
              refine aw_iload (pc' := 37) dX2_watchesMade_35 rfl rfl ?_
              refine aw_iconst (v := 3) (pc' := 38) dX2_watchesMade_37 rfl (by decide) ?_
              refine aw_iload_n (pc' := 39) dX2_watchesMade_38 rfl rfl ?_
              refine aw_imul (pc' := 40) dX2_watchesMade_39 rfl ?_
              refine aw_cge (tgt := 86) (pc' := 43) dX2_watchesMade_40 (by decide) rfl (fun c => absurd c8 c) (fun _ => ?_)
              refine aw_aload_n (pc' := 44) dX2_watchesMade_43 rfl rfl rfl ?_
              refine aw_get clsAll (pc' := 47) dX2_watchesMade_44 rfl fl_RX2_21 (gsn q7 (by decide) (gss e6 ((hx.2 6 (by decide) (by decide)).trans h0_6))) rfl ?_
              refine aw_iload (pc' := 49) dX2_watchesMade_47 rfl rfl ?_
              refine aw_iald (v := 0) (pc' := 50) dX2_watchesMade_49 rfl (gsn q7 (by decide) (gsn e6 (by decide) ((hx.2 10 (by decide) (by decide)).trans h0_10))) (vpc (by decide)) rfl ?_
              refine aw_iconst (v := 1) (pc' := 51) dX2_watchesMade_50 rfl (by decide) ?_
              refine aw_icmp_ne (tgt := 80) (pc' := 54) dX2_watchesMade_51 (by decide) rfl (fun _ => ?_) (fun c => absurd c (by decide))
              refine aw_iinc (lv' := [_, _, _, _, _, _]) (pc' := 83) dX2_watchesMade_80 rfl rfl (Nat.le_of_ble_eq_true rfl) rfl ?_
              refine aw_goto (tgt := 22) dX2_watchesMade_83 (by decide) ?_
              refine aw_iload (pc' := 24) dX2_watchesMade_22 rfl rfl ?_
              refine aw_bipush (v := 120) (pc' := 26) dX2_watchesMade_24 rfl (by decide) ?_
              refine aw_cge (tgt := 86) (pc' := 29) dX2_watchesMade_26 (by decide) rfl (fun c => absurd (by decide) c) (fun _ => ?_)
              refine aw_iload_n (pc' := 30) dX2_watchesMade_29 rfl rfl ?_
              refine aw_bipush (v := 9) (pc' := 32) dX2_watchesMade_30 rfl (by decide) ?_
              refine aw_cge (tgt := 86) (pc' := 35) dX2_watchesMade_32 (by decide) rfl (fun c => absurd (by decide) c) (fun _ => ?_)
              refine aw_iload (pc' := 37) dX2_watchesMade_35 rfl rfl ?_
              refine aw_iconst (v := 3) (pc' := 38) dX2_watchesMade_37 rfl (by decide) ?_
              refine aw_iload_n (pc' := 39) dX2_watchesMade_38 rfl rfl ?_
              refine aw_imul (pc' := 40) dX2_watchesMade_39 rfl ?_
              refine aw_cge (tgt := 86) (pc' := 43) dX2_watchesMade_40 (by decide) rfl (fun c => absurd c8 c) (fun _ => ?_)
              refine aw_aload_n (pc' := 44) dX2_watchesMade_43 rfl rfl rfl ?_
              refine aw_get clsAll (pc' := 47) dX2_watchesMade_44 rfl fl_RX2_21 (gsn q7 (by decide) (gss e6 ((hx.2 6 (by decide) (by decide)).trans h0_6))) rfl ?_
              refine aw_iload (pc' := 49) dX2_watchesMade_47 rfl rfl ?_
              refine aw_iald (v := 0) (pc' := 50) dX2_watchesMade_49 rfl (gsn q7 (by decide) (gsn e6 (by decide) ((hx.2 10 (by decide) (by decide)).trans h0_10))) (vpc (by decide)) rfl ?_
              refine aw_iconst (v := 1) (pc' := 51) dX2_watchesMade_50 rfl (by decide) ?_
              refine aw_icmp_ne (tgt := 80) (pc' := 54) dX2_watchesMade_51 (by decide) rfl (fun _ => ?_) (fun c => absurd c (by decide))
              refine aw_iinc (lv' := [_, _, _, _, _, _]) (pc' := 83) dX2_watchesMade_80 rfl rfl (Nat.le_of_ble_eq_true rfl) rfl ?_
              refine aw_goto (tgt := 22) dX2_watchesMade_83 (by decide) ?_
              refine aw_iload (pc' := 24) dX2_watchesMade_22 rfl rfl ?_
              refine aw_bipush (v := 120) (pc' := 26) dX2_watchesMade_24 rfl (by decide) ?_
              refine aw_cge (tgt := 86) (pc' := 29) dX2_watchesMade_26 (by decide) rfl (fun c => absurd (by decide) c) (fun _ => ?_)
              refine aw_iload_n (pc' := 30) dX2_watchesMade_29 rfl rfl ?_
              refine aw_bipush (v := 9) (pc' := 32) dX2_watchesMade_30 rfl (by decide) ?_
              refine aw_cge (tgt := 86) (pc' := 35) dX2_watchesMade_32 (by decide) rfl (fun c => absurd (by decide) c) (fun _ => ?_)
              refine aw_iload (pc' := 37) dX2_watchesMade_35 rfl rfl ?_
              refine aw_iconst (v := 3) (pc' := 38) dX2_watchesMade_37 rfl (by decide) ?_
              refine aw_iload_n (pc' := 39) dX2_watchesMade_38 rfl rfl ?_
              refine aw_imul (pc' := 40) dX2_watchesMade_39 rfl ?_
              refine aw_cge (tgt := 86) (pc' := 43) dX2_watchesMade_40 (by decide) rfl (fun c => absurd c8 c) (fun _ => ?_)
              refine aw_aload_n (pc' := 44) dX2_watchesMade_43 rfl rfl rfl ?_
              refine aw_get clsAll (pc' := 47) dX2_watchesMade_44 rfl fl_RX2_21 (gsn q7 (by decide) (gss e6 ((hx.2 6 (by decide) (by decide)).trans h0_6))) rfl ?_
              refine aw_iload (pc' := 49) dX2_watchesMade_47 rfl rfl ?_
              refine aw_iald (v := 0) (pc' := 50) dX2_watchesMade_49 rfl (gsn q7 (by decide) (gsn e6 (by decide) ((hx.2 10 (by decide) (by decide)).trans h0_10))) (vpc (by decide)) rfl ?_
              refine aw_iconst (v := 1) (pc' := 51) dX2_watchesMade_50 rfl (by decide) ?_
              refine aw_icmp_ne (tgt := 80) (pc' := 54) dX2_watchesMade_51 (by decide) rfl (fun _ => ?_) (fun c => absurd c (by decide))
              refine aw_iinc (lv' := [_, _, _, _, _, _]) (pc' := 83) dX2_watchesMade_80 rfl rfl (Nat.le_of_ble_eq_true rfl) rfl ?_
              refine aw_goto (tgt := 22) dX2_watchesMade_83 (by decide) ?_
              refine aw_iload (pc' := 24) dX2_watchesMade_22 rfl rfl ?_
              refine aw_bipush (v := 120) (pc' := 26) dX2_watchesMade_24 rfl (by decide) ?_
              refine aw_cge (tgt := 86) (pc' := 29) dX2_watchesMade_26 (by decide) rfl (fun c => absurd (by decide) c) (fun _ => ?_)
              refine aw_iload_n (pc' := 30) dX2_watchesMade_29 rfl rfl ?_
              refine aw_bipush (v := 9) (pc' := 32) dX2_watchesMade_30 rfl (by decide) ?_
              refine aw_cge (tgt := 86) (pc' := 35) dX2_watchesMade_32 (by decide) rfl (fun c => absurd (by decide) c) (fun _ => ?_)
              refine aw_iload (pc' := 37) dX2_watchesMade_35 rfl rfl ?_
              refine aw_iconst (v := 3) (pc' := 38) dX2_watchesMade_37 rfl (by decide) ?_
              refine aw_iload_n (pc' := 39) dX2_watchesMade_38 rfl rfl ?_
              refine aw_imul (pc' := 40) dX2_watchesMade_39 rfl ?_
              refine aw_cge (tgt := 86) (pc' := 43) dX2_watchesMade_40 (by decide) rfl (fun c => absurd c8 c) (fun _ => ?_)
              refine aw_aload_n (pc' := 44) dX2_watchesMade_43 rfl rfl rfl ?_
              refine aw_get clsAll (pc' := 47) dX2_watchesMade_44 rfl fl_RX2_21 (gsn q7 (by decide) (gss e6 ((hx.2 6 (by decide) (by decide)).trans h0_6))) rfl ?_
              refine aw_iload (pc' := 49) dX2_watchesMade_47 rfl rfl ?_
              refine aw_iald (v := 0) (pc' := 50) dX2_watchesMade_49 rfl (gsn q7 (by decide) (gsn e6 (by decide) ((hx.2 10 (by decide) (by decide)).trans h0_10))) (vpc (by decide)) rfl ?_
              refine aw_iconst (v := 1) (pc' := 51) dX2_watchesMade_50 rfl (by decide) ?_
              refine aw_icmp_ne (tgt := 80) (pc' := 54) dX2_watchesMade_51 (by decide) rfl (fun _ => ?_) (fun c => absurd c (by decide))
              refine aw_iinc (lv' := [_, _, _, _, _, _]) (pc' := 83) dX2_watchesMade_80 rfl rfl (Nat.le_of_ble_eq_true rfl) rfl ?_
              refine aw_goto (tgt := 22) dX2_watchesMade_83 (by decide) ?_
              refine aw_iload (pc' := 24) dX2_watchesMade_22 rfl rfl ?_
              refine aw_bipush (v := 120) (pc' := 26) dX2_watchesMade_24 rfl (by decide) ?_
              refine aw_cge (tgt := 86) (pc' := 29) dX2_watchesMade_26 (by decide) rfl (fun c => absurd (by decide) c) (fun _ => ?_)
              refine aw_iload_n (pc' := 30) dX2_watchesMade_29 rfl rfl ?_
              refine aw_bipush (v := 9) (pc' := 32) dX2_watchesMade_30 rfl (by decide) ?_
              refine aw_cge (tgt := 86) (pc' := 35) dX2_watchesMade_32 (by decide) rfl (fun c => absurd (by decide) c) (fun _ => ?_)
              refine aw_iload (pc' := 37) dX2_watchesMade_35 rfl rfl ?_
              refine aw_iconst (v := 3) (pc' := 38) dX2_watchesMade_37 rfl (by decide) ?_
              refine aw_iload_n (pc' := 39) dX2_watchesMade_38 rfl rfl ?_
              refine aw_imul (pc' := 40) dX2_watchesMade_39 rfl ?_
              refine aw_cge (tgt := 86) (pc' := 43) dX2_watchesMade_40 (by decide) rfl (fun c => absurd c8 c) (fun _ => ?_)
              refine aw_aload_n (pc' := 44) dX2_watchesMade_43 rfl rfl rfl ?_
              refine aw_get clsAll (pc' := 47) dX2_watchesMade_44 rfl fl_RX2_21 (gsn q7 (by decide) (gss e6 ((hx.2 6 (by decide) (by decide)).trans h0_6))) rfl ?_
              refine aw_iload (pc' := 49) dX2_watchesMade_47 rfl rfl ?_
              refine aw_iald (v := 0) (pc' := 50) dX2_watchesMade_49 rfl (gsn q7 (by decide) (gsn e6 (by decide) ((hx.2 10 (by decide) (by decide)).trans h0_10))) (vpc (by decide)) rfl ?_
              refine aw_iconst (v := 1) (pc' := 51) dX2_watchesMade_50 rfl (by decide) ?_
              refine aw_icmp_ne (tgt := 80) (pc' := 54) dX2_watchesMade_51 (by decide) rfl (fun _ => ?_) (fun c => absurd c (by decide))
              refine aw_iinc (lv' := [_, _, _, _, _, _]) (pc' := 83) dX2_watchesMade_80 rfl rfl (Nat.le_of_ble_eq_true rfl) rfl ?_
              refine aw_goto (tgt := 22) dX2_watchesMade_83 (by decide) ?_
              refine aw_iload (pc' := 24) dX2_watchesMade_22 rfl rfl ?_
              refine aw_bipush (v := 120) (pc' := 26) dX2_watchesMade_24 rfl (by decide) ?_
              refine aw_cge (tgt := 86) (pc' := 29) dX2_watchesMade_26 (by decide) rfl (fun _ => ?_) (fun c => absurd c (by decide))
              refine aw_iload (pc' := 88) dX2_watchesMade_86 rfl rfl ?_
              exact aw_ri dX2_watchesMade_88 rfl rfl (Nat.le_of_ble_eq_true rfl) (Nat.le_of_ble_eq_true rfl) (Or.inr ⟨c8, rfl, h6, e6, h7, q7, rfl⟩)
          refine aw_callVi (M' := mX2_watchesMade) (nc' := 0) (ns' := 0) (pc' := 31) dX11_watch_28 rfl ml_RX11_338 kX2_watchesMade cc5 ((hx.2 6 (by decide) (by decide)).trans h0_6) rfl rfl rfl (Nat.le_of_ble_eq_true rfl) (rok rfl) rfl rfl (fun r15 h15 q15 => ?_)
          rcases q15 with ⟨c9, rfl, h10, e10, h11, e11, rfl⟩ | ⟨c12, rfl, h13, e13, h14, e14, rfl⟩
          · exact aw_ri dX11_watch_31 rfl rfl (Nat.le_of_ble_eq_true rfl) (Nat.le_of_ble_eq_true rfl) ⟨(by first | (simp [sp_watch, cnd, okC, okS, okW, okN, inR, n2_, n3_, n5_, n31_, c1, c2, c3, c4, c9]; done) | (simp_all [sp_watch, cnd, okC, okS, okW, okN, inR, n2_, n3_, n5_, n31_]; done) | skip), (sm_set e11 (by decide) (sm_set e10 (by decide) sm_rf))⟩
          · exact aw_ri dX11_watch_31 rfl rfl (Nat.le_of_ble_eq_true rfl) (Nat.le_of_ble_eq_true rfl) ⟨(by first | (simp [sp_watch, cnd, okC, okS, okW, okN, inR, n2_, n3_, n5_, n31_, c1, c2, c3, c4, c12]; done) | (simp_all [sp_watch, cnd, okC, okS, okW, okN, inR, n2_, n3_, n5_, n31_]; done) | skip), (sm_set e14 (by decide) (sm_set e13 (by decide) sm_rf))⟩
        · refine aw_iconst (v := (-1)) (pc' := 21) dX11_watch_20 rfl (by decide) ?_
          exact aw_ri dX11_watch_21 rfl rfl (Nat.le_of_ble_eq_true rfl) (Nat.le_of_ble_eq_true rfl) ⟨(by first | (simp [sp_watch, cnd, okC, okS, okW, okN, inR, n2_, n3_, n5_, n31_, c1, c2, c3, c4]; done) | (simp_all [sp_watch, cnd, okC, okS, okW, okN, inR, n2_, n3_, n5_, n31_]; done) | skip), sm_rf⟩
