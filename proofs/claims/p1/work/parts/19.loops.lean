theorem fx_setv {hr v : Int32} {h h1 : List aE} (e : h.set 0 (oX v) = h1) (hx : Fx hr h) : Fx v h1 := ⟨gss e hx.1, fun k h2 h3 => by rw [← e, List.getElem?_set_ne (by omega)]; exact hx.2 k h2 h3⟩
theorem fm_setv {hr v : Int32} {h h1 : List aE} (e : h.set 59 (oM v) = h1) (hx : Fm hr h) : Fm v h1 := ⟨gss e hx.1, fun k h2 h3 => by rw [← e, List.getElem?_set_ne (by omega)]; exact hx.2 k h2 h3⟩
theorem set_same {h h1 : List aE} {q : Nat} {c : aE} (e : h.set q c = h1) (hq : h[q]? = some c) : h1 = h := by
  rw [← e]
  apply List.ext_getElem?
  intro i
  by_cases hi : q = i
  · subst hi; rw [List.getElem?_set_self (List.getElem?_eq_some_iff.mp hq).1, hq]
  · rw [List.getElem?_set_ne hi]
theorem fx_same {hr : Int32} {h h1 : List aE} {q : Nat} {c : aE} (e : h.set q c = h1) (hq : h[q]? = some c) (hx : Fx hr h) : Fx hr h1 := by rw [set_same e hq]; exact hx
theorem fm_same {hr : Int32} {h h1 : List aE} {q : Nat} {c : aE} (e : h.set q c = h1) (hq : h[q]? = some c) (hx : Fm hr h) : Fm hr h1 := by rw [set_same e hq]; exact hx
theorem n48_ {n : Int32} (h0 : ¬ n < 1) (h1 : ¬ 48 < n) : ∃ N : Nat, 1 ≤ N ∧ N ≤ 48 ∧ n = nI N := by
  have h0' : ¬ n < 0 := bg2 h0 (by decide)
  obtain ⟨j, hj, rfl⟩ := nI_of2 (M := 48) (n := 48) rfl h0' (Int32.not_lt.mp h1)
  refine ⟨j, ?_, hj, rfl⟩
  rcases Nat.eq_zero_or_pos j with rfl | h
  · exact absurd (by decide) h0
  · exact h
theorem sp_hours_ok {N : Nat} (h1 : 1 ≤ N) (h2 : N ≤ 48) : sp_hours (nI N) = nI N := by
  have a : ¬ nI N < 1 := by
    rw [show (1 : Int32) = nI 1 from rfl, nI_ltI (by omega) (by omega)]; omega
  have b : ¬ 48 < nI N := by
    rw [show (48 : Int32) = nI 48 from rfl, nI_ltI (by omega) (by omega)]; omega
  simp [sp_hours, cnd, inR, a, b]
set_option maxRecDepth 4000 in
theorem xh_loop (N : Nat) (hN1 : 1 ≤ N) (hN : N ≤ 48) (h00 : List aE) : ∀ (k i : Nat), i ≤ N → N - i < k → ∀ (h : List aE), Fx (nI i) h → Sm h00 h → h.length = 126 → AW mX11_hours (rmD 3 0 0) (fin (PI fun r h' => r = sp_hours (nI N) ∧ Sm h00 h') 0 0) 27 [some (.ref 8), some (.int (nI N)), some (.int (nI i))] [] h 0 0 := by
  intro k
  induction k with
  | zero => intro i h1 h2; omega
  | succ k ih =>
    intro i hi hk h hx hs hlen
    refine aw_iload_n (pc' := 28) dX11_hours_27 rfl rfl ?_
    refine aw_iload_n (pc' := 29) dX11_hours_28 rfl rfl ?_
    refine aw_cge (tgt := 42) (pc' := 32) dX11_hours_29 (by decide) rfl (fun c1 => ?_) (fun c1 => ?_)
    · refine aw_aload_n (pc' := 43) dX11_hours_42 rfl rfl rfl ?_
      refine aw_get clsAll (pc' := 46) dX11_hours_43 rfl fl_RX11_168 hx.1 rfl ?_
      exact aw_ri dX11_hours_46 rfl rfl (Nat.le_of_ble_eq_true rfl) (Nat.le_of_ble_eq_true rfl) ⟨(by rw [sp_hours_ok hN1 hN]; rcases Nat.lt_or_ge i N with z | z; exact absurd ((nI_ltI (by omega) (by omega)).mpr z) c1; rw [show i = N by omega]), hs⟩
    · refine aw_aload_n (pc' := 33) dX11_hours_32 rfl rfl rfl ?_
      have cc2 : AM mX11_hourGoesBy 2 [.ref 8] h 0 0 (PV fun h' => (((nI i) + 1) < 1700 ∧ ¬ ((((nI i) + 1) % 24) = 0) ∧ ∃ h57 : List aE, h.set 0 (.inr (11, [.ref 9, .ref 23, .ref 14, .ref 27, .ref 31, .int 0, .ref 32, .ref 35, .int 0, .ref 36, .ref 37, .ref 38, .ref 42, .ref 54, .int ((nI i) + 1), .int 2, .int 0, .int 0, .int 1700])) = h57 ∧ ∃ h58 : List aE, h57.set 30 (.inr (9, [.int 0, .int 0, .ref 39, .ref 40, .ref 41, .int 0])) = h58 ∧ h58 = h') ∨ (((nI i) + 1) < 1700 ∧ (((nI i) + 1) % 24) = 0 ∧ ∃ h61 : List aE, h.set 0 (.inr (11, [.ref 9, .ref 23, .ref 14, .ref 27, .ref 31, .int 0, .ref 32, .ref 35, .int 0, .ref 36, .ref 37, .ref 38, .ref 42, .ref 54, .int ((nI i) + 1), .int 2, .int 0, .int 0, .int 1700])) = h61 ∧ ∃ h62 : List aE, h61.set 30 (.inr (9, [.int 0, .int 0, .ref 39, .ref 40, .ref 41, .int 0])) = h62 ∧ h62 = h') ∨ (¬ (((nI i) + 1) < 1700) ∧ ¬ ((((nI i) + 1) % 24) = 0) ∧ ∃ h65 : List aE, h.set 0 (.inr (11, [.ref 9, .ref 23, .ref 14, .ref 27, .ref 31, .int 0, .ref 32, .ref 35, .int 0, .ref 36, .ref 37, .ref 38, .ref 42, .ref 54, .int ((nI i) + 1), .int 2, .int 0, .int 0, .int 1700])) = h65 ∧ ∃ h66 : List aE, h65.set 30 (.inr (9, [.int 0, .int 0, .ref 39, .ref 40, .ref 41, .int 0])) = h66 ∧ h66 = h') ∨ (¬ (((nI i) + 1) < 1700) ∧ (((nI i) + 1) % 24) = 0 ∧ ∃ h69 : List aE, h.set 0 (.inr (11, [.ref 9, .ref 23, .ref 14, .ref 27, .ref 31, .int 0, .ref 32, .ref 35, .int 0, .ref 36, .ref 37, .ref 38, .ref 42, .ref 54, .int ((nI i) + 1), .int 2, .int 0, .int 0, .int 1700])) = h69 ∧ ∃ h70 : List aE, h69.set 30 (.inr (9, [.int 0, .int 0, .ref 39, .ref 40, .ref 41, .int 0])) = h70 ∧ h70 = h')) := by
        refine am_of (lv := [some (.ref 8)]) rfl (Nat.le_of_ble_eq_true rfl) rfl ?_
        refine aw_aload_n (pc' := 1) dX11_hourGoesBy_0 rfl rfl rfl ?_
        refine aw_dup (pc' := 2) dX11_hourGoesBy_1 rfl rfl ?_
        refine aw_get clsAll (pc' := 5) dX11_hourGoesBy_2 rfl fl_RX11_168 hx.1 rfl ?_
        refine aw_iconst (v := 1) (pc' := 6) dX11_hourGoesBy_5 rfl (by decide) ?_
        refine aw_iadd (pc' := 7) dX11_hourGoesBy_6 rfl ?_
        refine aw_putG clsAll (pc' := 10) dX11_hourGoesBy_7 rfl fl_RX11_168 hx.1 (Nat.le_of_ble_eq_true rfl) rfl (fun h3 e3 => ?_)
        refine aw_aload_n (pc' := 11) dX11_hourGoesBy_10 rfl rfl rfl ?_
        refine aw_aload_n (pc' := 12) dX11_hourGoesBy_11 rfl rfl rfl ?_
        refine aw_iconst (v := 0) (pc' := 13) dX11_hourGoesBy_12 rfl (by decide) ?_
        refine aw_iconst (v := 2) (pc' := 14) dX11_hourGoesBy_13 rfl (by decide) ?_
        refine aw_aload_n (pc' := 15) dX11_hourGoesBy_14 rfl rfl rfl ?_
        refine aw_get clsAll (pc' := 18) dX11_hourGoesBy_15 rfl fl_RX11_168 (gss e3 hx.1) rfl ?_
        refine aw_aload_n (pc' := 19) dX11_hourGoesBy_18 rfl rfl rfl ?_
        refine aw_get clsAll (pc' := 22) dX11_hourGoesBy_19 rfl fl_RX11_168 (gss e3 hx.1) rfl ?_
        have cc4 : AM mX11_latestText 0 [.ref 8, .int 0, .int 2, .int ((nI i) + 1), .int ((nI i) + 1)] h3 0 0 (PI fun r h' => (((nI i) + 1) < 1700 ∧ (-2) = r ∧ h3 = h') ∨ (¬ (((nI i) + 1) < 1700) ∧ (-2) = r ∧ h3 = h')) := by
          refine am_of (lv := [some (.ref 8), some (.int 0), some (.int 2), some (.int ((nI i) + 1)), some (.int ((nI i) + 1)), none, none, none]) rfl (Nat.le_of_ble_eq_true rfl) rfl ?_
          refine aw_aload_n (pc' := 1) dX11_latestText_0 rfl rfl rfl ?_
          refine aw_get clsAll (pc' := 4) dX11_latestText_1 rfl fl_RX11_98 (gss e3 hx.1) rfl ?_
          refine aw_iload (pc' := 6) dX11_latestText_4 rfl rfl ?_
          refine aw_cgt (tgt := 13) (pc' := 9) dX11_latestText_6 (by decide) rfl (fun c5 => ?_) (fun c5 => ?_)
          · refine aw_iconst (v := 0) (pc' := 14) dX11_latestText_13 rfl (by decide) ?_
            refine aw_istore (lv' := [_, _, _, _, _, _, _, _]) (pc' := 16) dX11_latestText_14 rfl (Nat.le_of_ble_eq_true rfl) rfl ?_
            refine aw_aload_n (pc' := 17) dX11_latestText_16 rfl rfl rfl ?_
            refine aw_get clsAll (pc' := 20) dX11_latestText_17 rfl fl_RX11_267 (gss e3 hx.1) rfl ?_
            refine aw_iconst (v := 1) (pc' := 21) dX11_latestText_20 rfl (by decide) ?_
            refine aw_isub (pc' := 22) dX11_latestText_21 rfl ?_
            refine aw_topi (v := (-1)) (by decide) ?_
            refine aw_istore (lv' := [_, _, _, _, _, _, _, _]) (pc' := 24) dX11_latestText_22 rfl (Nat.le_of_ble_eq_true rfl) rfl ?_
            refine aw_iload (pc' := 26) dX11_latestText_24 rfl rfl ?_
            refine aw_zlt (tgt := 97) (pc' := 29) dX11_latestText_26 (by decide) rfl (fun _ => ?_) (fun c => absurd (by decide) c)
            refine aw_bipush (v := (-2)) (pc' := 99) dX11_latestText_97 rfl (by decide) ?_
            exact aw_ri dX11_latestText_99 rfl rfl (Nat.le_of_ble_eq_true rfl) (Nat.le_of_ble_eq_true rfl) (Or.inl ⟨c5, rfl, rfl⟩)
          · refine aw_iconst (v := 1) (pc' := 10) dX11_latestText_9 rfl (by decide) ?_
            refine aw_goto (tgt := 14) dX11_latestText_10 (by decide) ?_
            refine aw_istore (lv' := [_, _, _, _, _, _, _, _]) (pc' := 16) dX11_latestText_14 rfl (Nat.le_of_ble_eq_true rfl) rfl ?_
            refine aw_aload_n (pc' := 17) dX11_latestText_16 rfl rfl rfl ?_
            refine aw_get clsAll (pc' := 20) dX11_latestText_17 rfl fl_RX11_267 (gss e3 hx.1) rfl ?_
            refine aw_iconst (v := 1) (pc' := 21) dX11_latestText_20 rfl (by decide) ?_
            refine aw_isub (pc' := 22) dX11_latestText_21 rfl ?_
            refine aw_topi (v := (-1)) (by decide) ?_
            refine aw_istore (lv' := [_, _, _, _, _, _, _, _]) (pc' := 24) dX11_latestText_22 rfl (Nat.le_of_ble_eq_true rfl) rfl ?_
            refine aw_iload (pc' := 26) dX11_latestText_24 rfl rfl ?_
            refine aw_zlt (tgt := 97) (pc' := 29) dX11_latestText_26 (by decide) rfl (fun _ => ?_) (fun c => absurd (by decide) c)
            refine aw_bipush (v := (-2)) (pc' := 99) dX11_latestText_97 rfl (by decide) ?_
            exact aw_ri dX11_latestText_99 rfl rfl (Nat.le_of_ble_eq_true rfl) (Nat.le_of_ble_eq_true rfl) (Or.inr ⟨c5, rfl, rfl⟩)
        refine aw_callVi (M' := mX11_latestText) (nc' := 0) (ns' := 0) (pc' := 25) dX11_hourGoesBy_22 rfl ml_RX11_285 kX11_latestText cc4 (gss e3 hx.1) rfl rfl rfl (Nat.le_of_ble_eq_true rfl) (rok rfl) rfl rfl (fun r8 h8 q8 => ?_)
        rcases q8 with ⟨c6, rfl, rfl⟩ | ⟨c7, rfl, rfl⟩
        · refine aw_iconst (v := 2) (pc' := 26) dX11_hourGoesBy_25 rfl (by decide) ?_
          refine aw_iconst (v := (-1)) (pc' := 27) dX11_hourGoesBy_26 rfl (by decide) ?_
          have cc9 : AM mX11_given 0 [.ref 8, .int (-2), .int 2, .int (-1)] h3 0 0 (PI fun r h' => (0 = r ∧ h3 = h')) := by
            refine am_of (lv := [some (.ref 8), some (.int (-2)), some (.int 2), some (.int (-1)), none, none]) rfl (Nat.le_of_ble_eq_true rfl) rfl ?_
            refine aw_iload_n (pc' := 1) dX11_given_0 rfl rfl ?_
            refine aw_zlt (tgt := 12) (pc' := 4) dX11_given_1 (by decide) rfl (fun _ => ?_) (fun c => absurd (by decide) c)
            refine aw_null (pc' := 13) dX11_given_12 rfl ?_
            refine aw_goto (tgt := 22) dX11_given_13 (by decide) ?_
            refine aw_astore (lv' := [_, _, _, _, _, _]) (pc' := 24) dX11_given_22 rfl (Nat.le_of_ble_eq_true rfl) rfl rfl ?_
            refine aw_aload (pc' := 26) dX11_given_24 rfl rfl rfl ?_
            refine aw_ifnonnull_n (pc' := 29) dX11_given_26 rfl ?_
            refine aw_iload_n (pc' := 30) dX11_given_29 rfl rfl ?_
            refine aw_if_ne (tgt := 37) (pc' := 33) dX11_given_30 (by decide) rfl (fun _ => ?_) (fun c => absurd c (by decide))
            refine aw_iconst (v := 0) (pc' := 38) dX11_given_37 rfl (by decide) ?_
            exact aw_ri dX11_given_38 rfl rfl (Nat.le_of_ble_eq_true rfl) (Nat.le_of_ble_eq_true rfl) ⟨rfl, rfl⟩
          refine aw_callVi (M' := mX11_given) (nc' := 0) (ns' := 0) (pc' := 30) dX11_hourGoesBy_27 rfl ml_RX11_289 kX11_given cc9 (gss e3 hx.1) rfl rfl rfl (Nat.le_of_ble_eq_true rfl) (rok rfl) rfl rfl (fun r10 h10 q10 => ?_)
          obtain ⟨rfl, rfl⟩ := q10
          refine aw_if_ne (tgt := 37) (pc' := 33) dX11_hourGoesBy_30 (by decide) rfl (fun c => absurd (by decide) c) (fun _ => ?_)
          refine aw_aload_n (pc' := 34) dX11_hourGoesBy_33 rfl rfl rfl ?_
          have cc11 : AM mX11_machinesWork 1 [.ref 8] h3 0 0 (PV fun h' => (h3 = h')) := by
            refine am_of (lv := [some (.ref 8), none, none]) rfl (Nat.le_of_ble_eq_true rfl) rfl ?_
            refine aw_iconst (v := 0) (pc' := 1) dX11_machinesWork_0 rfl (by decide) ?_
            refine aw_istore_n (lv' := [_, _, _]) (pc' := 2) dX11_machinesWork_1 rfl (Nat.le_of_ble_eq_true rfl) rfl ?_
            refine aw_iload_n (pc' := 3) dX11_machinesWork_2 rfl rfl ?_
            refine aw_iconst (v := 3) (pc' := 4) dX11_machinesWork_3 rfl (by decide) ?_
            refine aw_cge (tgt := 75) (pc' := 7) dX11_machinesWork_4 (by decide) rfl (fun c => absurd (by decide) c) (fun _ => ?_)
            refine aw_aload_n (pc' := 8) dX11_machinesWork_7 rfl rfl rfl ?_
            refine aw_get clsAll (pc' := 11) dX11_machinesWork_8 rfl fl_RX11_28 (gss e3 hx.1) rfl ?_
            refine aw_aload_n (pc' := 12) dX11_machinesWork_11 rfl rfl rfl ?_
            refine aw_get clsAll (pc' := 15) dX11_machinesWork_12 rfl fl_RX11_34 (gss e3 hx.1) rfl ?_
            refine aw_iload_n (pc' := 16) dX11_machinesWork_15 rfl rfl ?_
            refine aw_aald (v := .ref 28) (pc' := 17) dX11_machinesWork_16 rfl (gsn e3 (by decide) ((hx.2 19 (by decide) (by decide)).trans h0_19)) (by decide) rfl (vpc (by decide)) rfl ?_
            refine aw_get clsAll (pc' := 20) dX11_machinesWork_17 rfl fl_RX11_165 (gsn e3 (by decide) ((hx.2 20 (by decide) (by decide)).trans h0_20)) rfl ?_
            have cc12 : AM mX0_holeOf 0 [.ref 23, .int (-1)] h3 0 0 (PA fun r h' => (Value.null = r ∧ h3 = h')) := by
              refine am_of (lv := [some (.ref 23), some (.int (-1))]) rfl (Nat.le_of_ble_eq_true rfl) rfl ?_
              refine aw_iload_n (pc' := 1) dX0_holeOf_0 rfl rfl ?_
              refine aw_zlt (tgt := 12) (pc' := 4) dX0_holeOf_1 (by decide) rfl (fun _ => ?_) (fun c => absurd (by decide) c)
              refine aw_null (pc' := 13) dX0_holeOf_12 rfl ?_
              refine aw_goto (tgt := 22) dX0_holeOf_13 (by decide) ?_
              exact aw_ra dX0_holeOf_22 rfl (Or.inl ⟨_, rfl⟩) rfl (Nat.le_of_ble_eq_true rfl) (Nat.le_of_ble_eq_true rfl) ⟨rfl, rfl⟩
            refine aw_callVa (M' := mX0_holeOf) (nc' := 0) (ns' := 0) (pc' := 23) dX11_machinesWork_20 rfl ml_RX11_139 kX0_holeOf cc12 (gsn e3 (by decide) ((hx.2 15 (by decide) (by decide)).trans h0_15)) rfl rfl rfl (Nat.le_of_ble_eq_true rfl) (rok rfl) rfl rfl (fun r13 h13 q13 => ?_)
            obtain ⟨rfl, rfl⟩ := q13
            refine aw_astore_n (lv' := [_, _, _]) (pc' := 24) dX11_machinesWork_23 rfl (Nat.le_of_ble_eq_true rfl) rfl rfl ?_
            refine aw_aload_n (pc' := 25) dX11_machinesWork_24 rfl rfl rfl ?_
            refine aw_ifnull_n (tgt := 69) dX11_machinesWork_25 (by decide) ?_
            refine aw_iinc (lv' := [_, _, _]) (pc' := 72) dX11_machinesWork_69 rfl rfl (Nat.le_of_ble_eq_true rfl) rfl ?_
            refine aw_goto (tgt := 2) dX11_machinesWork_72 (by decide) ?_
            refine aw_iload_n (pc' := 3) dX11_machinesWork_2 rfl rfl ?_
            refine aw_iconst (v := 3) (pc' := 4) dX11_machinesWork_3 rfl (by decide) ?_
            refine aw_cge (tgt := 75) (pc' := 7) dX11_machinesWork_4 (by decide) rfl (fun c => absurd (by decide) c) (fun _ => ?_)
            refine aw_aload_n (pc' := 8) dX11_machinesWork_7 rfl rfl rfl ?_
            refine aw_get clsAll (pc' := 11) dX11_machinesWork_8 rfl fl_RX11_28 (gss e3 hx.1) rfl ?_
            refine aw_aload_n (pc' := 12) dX11_machinesWork_11 rfl rfl rfl ?_
            refine aw_get clsAll (pc' := 15) dX11_machinesWork_12 rfl fl_RX11_34 (gss e3 hx.1) rfl ?_
            refine aw_iload_n (pc' := 16) dX11_machinesWork_15 rfl rfl ?_
            refine aw_aald (v := .ref 29) (pc' := 17) dX11_machinesWork_16 rfl (gsn e3 (by decide) ((hx.2 19 (by decide) (by decide)).trans h0_19)) (by decide) rfl (vpc (by decide)) rfl ?_
            refine aw_get clsAll (pc' := 20) dX11_machinesWork_17 rfl fl_RX11_165 (gsn e3 (by decide) ((hx.2 21 (by decide) (by decide)).trans h0_21)) rfl ?_
            have cc14 : AM mX0_holeOf 0 [.ref 23, .int (-1)] h3 0 0 (PA fun r h' => (Value.null = r ∧ h3 = h')) := by
              refine am_of (lv := [some (.ref 23), some (.int (-1))]) rfl (Nat.le_of_ble_eq_true rfl) rfl ?_
              refine aw_iload_n (pc' := 1) dX0_holeOf_0 rfl rfl ?_
              refine aw_zlt (tgt := 12) (pc' := 4) dX0_holeOf_1 (by decide) rfl (fun _ => ?_) (fun c => absurd (by decide) c)
              refine aw_null (pc' := 13) dX0_holeOf_12 rfl ?_
              refine aw_goto (tgt := 22) dX0_holeOf_13 (by decide) ?_
              exact aw_ra dX0_holeOf_22 rfl (Or.inl ⟨_, rfl⟩) rfl (Nat.le_of_ble_eq_true rfl) (Nat.le_of_ble_eq_true rfl) ⟨rfl, rfl⟩
            refine aw_callVa (M' := mX0_holeOf) (nc' := 0) (ns' := 0) (pc' := 23) dX11_machinesWork_20 rfl ml_RX11_139 kX0_holeOf cc14 (gsn e3 (by decide) ((hx.2 15 (by decide) (by decide)).trans h0_15)) rfl rfl rfl (Nat.le_of_ble_eq_true rfl) (rok rfl) rfl rfl (fun r15 h15 q15 => ?_)
            obtain ⟨rfl, rfl⟩ := q15
            refine aw_astore_n (lv' := [_, _, _]) (pc' := 24) dX11_machinesWork_23 rfl (Nat.le_of_ble_eq_true rfl) rfl rfl ?_
            refine aw_aload_n (pc' := 25) dX11_machinesWork_24 rfl rfl rfl ?_
            refine aw_ifnull_n (tgt := 69) dX11_machinesWork_25 (by decide) ?_
            refine aw_iinc (lv' := [_, _, _]) (pc' := 72) dX11_machinesWork_69 rfl rfl (Nat.le_of_ble_eq_true rfl) rfl ?_
            refine aw_goto (tgt := 2) dX11_machinesWork_72 (by decide) ?_
            refine aw_iload_n (pc' := 3) dX11_machinesWork_2 rfl rfl ?_
            refine aw_iconst (v := 3) (pc' := 4) dX11_machinesWork_3 rfl (by decide) ?_
            refine aw_cge (tgt := 75) (pc' := 7) dX11_machinesWork_4 (by decide) rfl (fun c => absurd (by decide) c) (fun _ => ?_)
            refine aw_aload_n (pc' := 8) dX11_machinesWork_7 rfl rfl rfl ?_
            refine aw_get clsAll (pc' := 11) dX11_machinesWork_8 rfl fl_RX11_28 (gss e3 hx.1) rfl ?_
            refine aw_aload_n (pc' := 12) dX11_machinesWork_11 rfl rfl rfl ?_
            refine aw_get clsAll (pc' := 15) dX11_machinesWork_12 rfl fl_RX11_34 (gss e3 hx.1) rfl ?_
            refine aw_iload_n (pc' := 16) dX11_machinesWork_15 rfl rfl ?_
            refine aw_aald (v := .ref 30) (pc' := 17) dX11_machinesWork_16 rfl (gsn e3 (by decide) ((hx.2 19 (by decide) (by decide)).trans h0_19)) (by decide) rfl (vpc (by decide)) rfl ?_
            refine aw_get clsAll (pc' := 20) dX11_machinesWork_17 rfl fl_RX11_165 (gsn e3 (by decide) ((hx.2 22 (by decide) (by decide)).trans h0_22)) rfl ?_
            have cc16 : AM mX0_holeOf 0 [.ref 23, .int (-1)] h3 0 0 (PA fun r h' => (Value.null = r ∧ h3 = h')) := by
              refine am_of (lv := [some (.ref 23), some (.int (-1))]) rfl (Nat.le_of_ble_eq_true rfl) rfl ?_
              refine aw_iload_n (pc' := 1) dX0_holeOf_0 rfl rfl ?_
              refine aw_zlt (tgt := 12) (pc' := 4) dX0_holeOf_1 (by decide) rfl (fun _ => ?_) (fun c => absurd (by decide) c)
              refine aw_null (pc' := 13) dX0_holeOf_12 rfl ?_
              refine aw_goto (tgt := 22) dX0_holeOf_13 (by decide) ?_
              exact aw_ra dX0_holeOf_22 rfl (Or.inl ⟨_, rfl⟩) rfl (Nat.le_of_ble_eq_true rfl) (Nat.le_of_ble_eq_true rfl) ⟨rfl, rfl⟩
            refine aw_callVa (M' := mX0_holeOf) (nc' := 0) (ns' := 0) (pc' := 23) dX11_machinesWork_20 rfl ml_RX11_139 kX0_holeOf cc16 (gsn e3 (by decide) ((hx.2 15 (by decide) (by decide)).trans h0_15)) rfl rfl rfl (Nat.le_of_ble_eq_true rfl) (rok rfl) rfl rfl (fun r17 h17 q17 => ?_)
            obtain ⟨rfl, rfl⟩ := q17
            refine aw_astore_n (lv' := [_, _, _]) (pc' := 24) dX11_machinesWork_23 rfl (Nat.le_of_ble_eq_true rfl) rfl rfl ?_
            refine aw_aload_n (pc' := 25) dX11_machinesWork_24 rfl rfl rfl ?_
            refine aw_ifnull_n (tgt := 69) dX11_machinesWork_25 (by decide) ?_
            refine aw_iinc (lv' := [_, _, _]) (pc' := 72) dX11_machinesWork_69 rfl rfl (Nat.le_of_ble_eq_true rfl) rfl ?_
            refine aw_goto (tgt := 2) dX11_machinesWork_72 (by decide) ?_
            refine aw_iload_n (pc' := 3) dX11_machinesWork_2 rfl rfl ?_
            refine aw_iconst (v := 3) (pc' := 4) dX11_machinesWork_3 rfl (by decide) ?_
            refine aw_cge (tgt := 75) (pc' := 7) dX11_machinesWork_4 (by decide) rfl (fun _ => ?_) (fun c => absurd c (by decide))
            exact aw_rv dX11_machinesWork_75 rfl (Nat.le_of_ble_eq_true rfl) (Nat.le_of_ble_eq_true rfl) rfl
          refine aw_callVv (M' := mX11_machinesWork) (nc' := 0) (ns' := 0) (pc' := 37) dX11_hourGoesBy_34 rfl ml_RX11_499 kX11_machinesWork cc11 (gss e3 hx.1) rfl rfl rfl (Nat.le_of_ble_eq_true rfl) (rok rfl) rfl rfl (fun h18 q18 => ?_)
          obtain rfl := q18
          refine aw_aload_n (pc' := 38) dX11_hourGoesBy_37 rfl rfl rfl ?_
          refine aw_get clsAll (pc' := 41) dX11_hourGoesBy_38 rfl fl_RX11_76 (gss e3 hx.1) rfl ?_
          refine aw_aload_n (pc' := 42) dX11_hourGoesBy_41 rfl rfl rfl ?_
          refine aw_get clsAll (pc' := 45) dX11_hourGoesBy_42 rfl fl_RX11_168 (gss e3 hx.1) rfl ?_
          have cc19 : AM mX9_arrivals 0 [.ref 38, .int ((nI i) + 1)] h3 0 0 (PV fun h' => (∃ h21 : List aE, h3.set 30 (.inr (9, [.int 0, .int 0, .ref 39, .ref 40, .ref 41, .int 0])) = h21 ∧ h21 = h')) := by
            refine am_of (lv := [some (.ref 38), some (.int ((nI i) + 1)), none, none]) rfl (Nat.le_of_ble_eq_true rfl) rfl ?_
            refine aw_iconst (v := 0) (pc' := 1) dX9_arrivals_0 rfl (by decide) ?_
            refine aw_istore_n (lv' := [_, _, _, _]) (pc' := 2) dX9_arrivals_1 rfl (Nat.le_of_ble_eq_true rfl) rfl ?_
            refine aw_iconst (v := 0) (pc' := 3) dX9_arrivals_2 rfl (by decide) ?_
            refine aw_istore_n (lv' := [_, _, _, _]) (pc' := 4) dX9_arrivals_3 rfl (Nat.le_of_ble_eq_true rfl) rfl ?_
            refine aw_iload_n (pc' := 5) dX9_arrivals_4 rfl rfl ?_
            refine aw_aload_n (pc' := 6) dX9_arrivals_5 rfl rfl rfl ?_
            refine aw_get clsAll (pc' := 9) dX9_arrivals_6 rfl fl_RX9_19 (gsn e3 (by decide) ((hx.2 30 (by decide) (by decide)).trans h0_30)) rfl ?_
            refine aw_cge (tgt := 68) (pc' := 12) dX9_arrivals_9 (by decide) rfl (fun _ => ?_) (fun c => absurd c (by decide))
            refine aw_aload_n (pc' := 69) dX9_arrivals_68 rfl rfl rfl ?_
            refine aw_iload_n (pc' := 70) dX9_arrivals_69 rfl rfl ?_
            refine aw_putG clsAll (pc' := 73) dX9_arrivals_70 rfl fl_RX9_19 (gsn e3 (by decide) ((hx.2 30 (by decide) (by decide)).trans h0_30)) (Nat.le_of_ble_eq_true rfl) rfl (fun h20 e20 => ?_)
            exact aw_rv dX9_arrivals_73 rfl (Nat.le_of_ble_eq_true rfl) (Nat.le_of_ble_eq_true rfl) ⟨h20, e20, rfl⟩
          refine aw_callVv (M' := mX9_arrivals) (nc' := 0) (ns' := 0) (pc' := 48) dX11_hourGoesBy_45 rfl ml_RX11_502 kX9_arrivals cc19 (gsn e3 (by decide) ((hx.2 30 (by decide) (by decide)).trans h0_30)) rfl rfl rfl (Nat.le_of_ble_eq_true rfl) (rok rfl) rfl rfl (fun h22 q22 => ?_)
          obtain ⟨h21, e21, rfl⟩ := q22
          refine aw_aload_n (pc' := 49) dX11_hourGoesBy_48 rfl rfl rfl ?_
          refine aw_get clsAll (pc' := 52) dX11_hourGoesBy_49 rfl fl_RX11_168 (gsn e21 (by decide) (gss e3 hx.1)) rfl ?_
          refine aw_bipush (v := 24) (pc' := 54) dX11_hourGoesBy_52 rfl (by decide) ?_
          refine aw_irem (pc' := 55) dX11_hourGoesBy_54 rfl (by decide) ?_
          refine aw_if_ne (tgt := 62) (pc' := 58) dX11_hourGoesBy_55 (by decide) rfl (fun c23 => ?_) (fun c23 => ?_)
          · refine aw_aload_n (pc' := 63) dX11_hourGoesBy_62 rfl rfl rfl ?_
            have cc24 : AM mX11_rockMoves 0 [.ref 8] h21 0 0 (PV fun h' => (h21 = h')) := by
              refine am_of (lv := [some (.ref 8), none, none, none]) rfl (Nat.le_of_ble_eq_true rfl) rfl ?_
              refine aw_iconst (v := 0) (pc' := 1) dX11_rockMoves_0 rfl (by decide) ?_
              refine aw_istore_n (lv' := [_, _, _, _]) (pc' := 2) dX11_rockMoves_1 rfl (Nat.le_of_ble_eq_true rfl) rfl ?_
              refine aw_iload_n (pc' := 3) dX11_rockMoves_2 rfl rfl ?_
              refine aw_aload_n (pc' := 4) dX11_rockMoves_3 rfl rfl rfl ?_
              refine aw_get clsAll (pc' := 7) dX11_rockMoves_4 rfl fl_RX11_10 (gsn e21 (by decide) (gss e3 hx.1)) rfl ?_
              refine aw_get clsAll (pc' := 10) dX11_rockMoves_7 rfl fl_RX11_528 (gsn e21 (by decide) (gsn e3 (by decide) ((hx.2 1 (by decide) (by decide)).trans h0_1))) rfl ?_
              refine aw_cge (tgt := 101) (pc' := 13) dX11_rockMoves_10 (by decide) rfl (fun _ => ?_) (fun c => absurd c (by decide))
              exact aw_rv dX11_rockMoves_101 rfl (Nat.le_of_ble_eq_true rfl) (Nat.le_of_ble_eq_true rfl) rfl
            refine aw_callVv (M' := mX11_rockMoves) (nc' := 0) (ns' := 0) (pc' := 66) dX11_hourGoesBy_63 rfl ml_RX11_509 kX11_rockMoves cc24 (gsn e21 (by decide) (gss e3 hx.1)) rfl rfl rfl (Nat.le_of_ble_eq_true rfl) (rok rfl) rfl rfl (fun h25 q25 => ?_)
            obtain rfl := q25
            exact aw_rv dX11_hourGoesBy_66 rfl (Nat.le_of_ble_eq_true rfl) (Nat.le_of_ble_eq_true rfl) (Or.inl ⟨c6, c23, h3, e3, h21, e21, rfl⟩)
          · refine aw_aload_n (pc' := 59) dX11_hourGoesBy_58 rfl rfl rfl ?_
            have cc26 : AM mX11_menEat 1 [.ref 8] h21 0 0 (PV fun h' => (h21 = h')) := by
              refine am_of (lv := [some (.ref 8), none, none, none]) rfl (Nat.le_of_ble_eq_true rfl) rfl ?_
              refine aw_aload_n (pc' := 1) dX11_menEat_0 rfl rfl rfl ?_
              refine aw_iconst (v := 1) (pc' := 2) dX11_menEat_1 rfl (by decide) ?_
              refine aw_iconst (v := 0) (pc' := 3) dX11_menEat_2 rfl (by decide) ?_
              refine aw_aload_n (pc' := 4) dX11_menEat_3 rfl rfl rfl ?_
              refine aw_get clsAll (pc' := 7) dX11_menEat_4 rfl fl_RX11_168 (gsn e21 (by decide) (gss e3 hx.1)) rfl ?_
              refine aw_aload_n (pc' := 8) dX11_menEat_7 rfl rfl rfl ?_
              refine aw_get clsAll (pc' := 11) dX11_menEat_8 rfl fl_RX11_168 (gsn e21 (by decide) (gss e3 hx.1)) rfl ?_
              have cc27 : AM mX11_latestText 0 [.ref 8, .int 1, .int 0, .int ((nI i) + 1), .int ((nI i) + 1)] h21 0 0 (PI fun r h' => ((-2) = r ∧ h21 = h')) := by
                refine am_of (lv := [some (.ref 8), some (.int 1), some (.int 0), some (.int ((nI i) + 1)), some (.int ((nI i) + 1)), none, none, none]) rfl (Nat.le_of_ble_eq_true rfl) rfl ?_
                refine aw_aload_n (pc' := 1) dX11_latestText_0 rfl rfl rfl ?_
                refine aw_get clsAll (pc' := 4) dX11_latestText_1 rfl fl_RX11_98 (gsn e21 (by decide) (gss e3 hx.1)) rfl ?_
                refine aw_iload (pc' := 6) dX11_latestText_4 rfl rfl ?_
                refine aw_cgt (tgt := 13) (pc' := 9) dX11_latestText_6 (by decide) rfl (fun _ => ?_) (fun c => absurd c6 c)
                refine aw_iconst (v := 0) (pc' := 14) dX11_latestText_13 rfl (by decide) ?_
                refine aw_istore (lv' := [_, _, _, _, _, _, _, _]) (pc' := 16) dX11_latestText_14 rfl (Nat.le_of_ble_eq_true rfl) rfl ?_
                refine aw_aload_n (pc' := 17) dX11_latestText_16 rfl rfl rfl ?_
                refine aw_get clsAll (pc' := 20) dX11_latestText_17 rfl fl_RX11_267 (gsn e21 (by decide) (gss e3 hx.1)) rfl ?_
                refine aw_iconst (v := 1) (pc' := 21) dX11_latestText_20 rfl (by decide) ?_
                refine aw_isub (pc' := 22) dX11_latestText_21 rfl ?_
                refine aw_topi (v := (-1)) (by decide) ?_
                refine aw_istore (lv' := [_, _, _, _, _, _, _, _]) (pc' := 24) dX11_latestText_22 rfl (Nat.le_of_ble_eq_true rfl) rfl ?_
                refine aw_iload (pc' := 26) dX11_latestText_24 rfl rfl ?_
                refine aw_zlt (tgt := 97) (pc' := 29) dX11_latestText_26 (by decide) rfl (fun _ => ?_) (fun c => absurd (by decide) c)
                refine aw_bipush (v := (-2)) (pc' := 99) dX11_latestText_97 rfl (by decide) ?_
                exact aw_ri dX11_latestText_99 rfl rfl (Nat.le_of_ble_eq_true rfl) (Nat.le_of_ble_eq_true rfl) ⟨rfl, rfl⟩
              refine aw_callVi (M' := mX11_latestText) (nc' := 0) (ns' := 0) (pc' := 14) dX11_menEat_11 rfl ml_RX11_285 kX11_latestText cc27 (gsn e21 (by decide) (gss e3 hx.1)) rfl rfl rfl (Nat.le_of_ble_eq_true rfl) (rok rfl) rfl rfl (fun r28 h28 q28 => ?_)
              obtain ⟨rfl, rfl⟩ := q28
              refine aw_istore_n (lv' := [_, _, _, _]) (pc' := 15) dX11_menEat_14 rfl (Nat.le_of_ble_eq_true rfl) rfl ?_
              refine aw_iconst (v := 0) (pc' := 16) dX11_menEat_15 rfl (by decide) ?_
              refine aw_istore_n (lv' := [_, _, _, _]) (pc' := 17) dX11_menEat_16 rfl (Nat.le_of_ble_eq_true rfl) rfl ?_
              refine aw_iload_n (pc' := 18) dX11_menEat_17 rfl rfl ?_
              refine aw_aload_n (pc' := 19) dX11_menEat_18 rfl rfl rfl ?_
              refine aw_get clsAll (pc' := 22) dX11_menEat_19 rfl fl_RX11_28 (gsn e21 (by decide) (gss e3 hx.1)) rfl ?_
              refine aw_get clsAll (pc' := 25) dX11_menEat_22 rfl fl_RX11_381 (gsn e21 (by decide) (gsn e3 (by decide) ((hx.2 15 (by decide) (by decide)).trans h0_15))) rfl ?_
              refine aw_cge (tgt := 90) (pc' := 28) dX11_menEat_25 (by decide) rfl (fun _ => ?_) (fun c => absurd c (by decide))
              exact aw_rv dX11_menEat_90 rfl (Nat.le_of_ble_eq_true rfl) (Nat.le_of_ble_eq_true rfl) rfl
            refine aw_callVv (M' := mX11_menEat) (nc' := 0) (ns' := 0) (pc' := 62) dX11_hourGoesBy_59 rfl ml_RX11_506 kX11_menEat cc26 (gsn e21 (by decide) (gss e3 hx.1)) rfl rfl rfl (Nat.le_of_ble_eq_true rfl) (rok rfl) rfl rfl (fun h29 q29 => ?_)
            obtain rfl := q29
            refine aw_aload_n (pc' := 63) dX11_hourGoesBy_62 rfl rfl rfl ?_
            have cc30 : AM mX11_rockMoves 0 [.ref 8] h21 0 0 (PV fun h' => (h21 = h')) := by
              refine am_of (lv := [some (.ref 8), none, none, none]) rfl (Nat.le_of_ble_eq_true rfl) rfl ?_
              refine aw_iconst (v := 0) (pc' := 1) dX11_rockMoves_0 rfl (by decide) ?_
              refine aw_istore_n (lv' := [_, _, _, _]) (pc' := 2) dX11_rockMoves_1 rfl (Nat.le_of_ble_eq_true rfl) rfl ?_
              refine aw_iload_n (pc' := 3) dX11_rockMoves_2 rfl rfl ?_
              refine aw_aload_n (pc' := 4) dX11_rockMoves_3 rfl rfl rfl ?_
              refine aw_get clsAll (pc' := 7) dX11_rockMoves_4 rfl fl_RX11_10 (gsn e21 (by decide) (gss e3 hx.1)) rfl ?_
              refine aw_get clsAll (pc' := 10) dX11_rockMoves_7 rfl fl_RX11_528 (gsn e21 (by decide) (gsn e3 (by decide) ((hx.2 1 (by decide) (by decide)).trans h0_1))) rfl ?_
              refine aw_cge (tgt := 101) (pc' := 13) dX11_rockMoves_10 (by decide) rfl (fun _ => ?_) (fun c => absurd c (by decide))
              exact aw_rv dX11_rockMoves_101 rfl (Nat.le_of_ble_eq_true rfl) (Nat.le_of_ble_eq_true rfl) rfl
            refine aw_callVv (M' := mX11_rockMoves) (nc' := 0) (ns' := 0) (pc' := 66) dX11_hourGoesBy_63 rfl ml_RX11_509 kX11_rockMoves cc30 (gsn e21 (by decide) (gss e3 hx.1)) rfl rfl rfl (Nat.le_of_ble_eq_true rfl) (rok rfl) rfl rfl (fun h31 q31 => ?_)
            obtain rfl := q31
            exact aw_rv dX11_hourGoesBy_66 rfl (Nat.le_of_ble_eq_true rfl) (Nat.le_of_ble_eq_true rfl) (Or.inr (Or.inl ⟨c6, c23, h3, e3, h21, e21, rfl⟩))
        · refine aw_iconst (v := 2) (pc' := 26) dX11_hourGoesBy_25 rfl (by decide) ?_
          refine aw_iconst (v := (-1)) (pc' := 27) dX11_hourGoesBy_26 rfl (by decide) ?_
          have cc32 : AM mX11_given 0 [.ref 8, .int (-2), .int 2, .int (-1)] h3 0 0 (PI fun r h' => (0 = r ∧ h3 = h')) := by
            refine am_of (lv := [some (.ref 8), some (.int (-2)), some (.int 2), some (.int (-1)), none, none]) rfl (Nat.le_of_ble_eq_true rfl) rfl ?_
            refine aw_iload_n (pc' := 1) dX11_given_0 rfl rfl ?_
            refine aw_zlt (tgt := 12) (pc' := 4) dX11_given_1 (by decide) rfl (fun _ => ?_) (fun c => absurd (by decide) c)
            refine aw_null (pc' := 13) dX11_given_12 rfl ?_
            refine aw_goto (tgt := 22) dX11_given_13 (by decide) ?_
            refine aw_astore (lv' := [_, _, _, _, _, _]) (pc' := 24) dX11_given_22 rfl (Nat.le_of_ble_eq_true rfl) rfl rfl ?_
            refine aw_aload (pc' := 26) dX11_given_24 rfl rfl rfl ?_
            refine aw_ifnonnull_n (pc' := 29) dX11_given_26 rfl ?_
            refine aw_iload_n (pc' := 30) dX11_given_29 rfl rfl ?_
            refine aw_if_ne (tgt := 37) (pc' := 33) dX11_given_30 (by decide) rfl (fun _ => ?_) (fun c => absurd c (by decide))
            refine aw_iconst (v := 0) (pc' := 38) dX11_given_37 rfl (by decide) ?_
            exact aw_ri dX11_given_38 rfl rfl (Nat.le_of_ble_eq_true rfl) (Nat.le_of_ble_eq_true rfl) ⟨rfl, rfl⟩
          refine aw_callVi (M' := mX11_given) (nc' := 0) (ns' := 0) (pc' := 30) dX11_hourGoesBy_27 rfl ml_RX11_289 kX11_given cc32 (gss e3 hx.1) rfl rfl rfl (Nat.le_of_ble_eq_true rfl) (rok rfl) rfl rfl (fun r33 h33 q33 => ?_)
          obtain ⟨rfl, rfl⟩ := q33
          refine aw_if_ne (tgt := 37) (pc' := 33) dX11_hourGoesBy_30 (by decide) rfl (fun c => absurd (by decide) c) (fun _ => ?_)
          refine aw_aload_n (pc' := 34) dX11_hourGoesBy_33 rfl rfl rfl ?_
          have cc34 : AM mX11_machinesWork 1 [.ref 8] h3 0 0 (PV fun h' => (h3 = h')) := by
            refine am_of (lv := [some (.ref 8), none, none]) rfl (Nat.le_of_ble_eq_true rfl) rfl ?_
            refine aw_iconst (v := 0) (pc' := 1) dX11_machinesWork_0 rfl (by decide) ?_
            refine aw_istore_n (lv' := [_, _, _]) (pc' := 2) dX11_machinesWork_1 rfl (Nat.le_of_ble_eq_true rfl) rfl ?_
            refine aw_iload_n (pc' := 3) dX11_machinesWork_2 rfl rfl ?_
            refine aw_iconst (v := 3) (pc' := 4) dX11_machinesWork_3 rfl (by decide) ?_
            refine aw_cge (tgt := 75) (pc' := 7) dX11_machinesWork_4 (by decide) rfl (fun c => absurd (by decide) c) (fun _ => ?_)
            refine aw_aload_n (pc' := 8) dX11_machinesWork_7 rfl rfl rfl ?_
            refine aw_get clsAll (pc' := 11) dX11_machinesWork_8 rfl fl_RX11_28 (gss e3 hx.1) rfl ?_
            refine aw_aload_n (pc' := 12) dX11_machinesWork_11 rfl rfl rfl ?_
            refine aw_get clsAll (pc' := 15) dX11_machinesWork_12 rfl fl_RX11_34 (gss e3 hx.1) rfl ?_
            refine aw_iload_n (pc' := 16) dX11_machinesWork_15 rfl rfl ?_
            refine aw_aald (v := .ref 28) (pc' := 17) dX11_machinesWork_16 rfl (gsn e3 (by decide) ((hx.2 19 (by decide) (by decide)).trans h0_19)) (by decide) rfl (vpc (by decide)) rfl ?_
            refine aw_get clsAll (pc' := 20) dX11_machinesWork_17 rfl fl_RX11_165 (gsn e3 (by decide) ((hx.2 20 (by decide) (by decide)).trans h0_20)) rfl ?_
            have cc35 : AM mX0_holeOf 0 [.ref 23, .int (-1)] h3 0 0 (PA fun r h' => (Value.null = r ∧ h3 = h')) := by
              refine am_of (lv := [some (.ref 23), some (.int (-1))]) rfl (Nat.le_of_ble_eq_true rfl) rfl ?_
              refine aw_iload_n (pc' := 1) dX0_holeOf_0 rfl rfl ?_
              refine aw_zlt (tgt := 12) (pc' := 4) dX0_holeOf_1 (by decide) rfl (fun _ => ?_) (fun c => absurd (by decide) c)
              refine aw_null (pc' := 13) dX0_holeOf_12 rfl ?_
              refine aw_goto (tgt := 22) dX0_holeOf_13 (by decide) ?_
              exact aw_ra dX0_holeOf_22 rfl (Or.inl ⟨_, rfl⟩) rfl (Nat.le_of_ble_eq_true rfl) (Nat.le_of_ble_eq_true rfl) ⟨rfl, rfl⟩
            refine aw_callVa (M' := mX0_holeOf) (nc' := 0) (ns' := 0) (pc' := 23) dX11_machinesWork_20 rfl ml_RX11_139 kX0_holeOf cc35 (gsn e3 (by decide) ((hx.2 15 (by decide) (by decide)).trans h0_15)) rfl rfl rfl (Nat.le_of_ble_eq_true rfl) (rok rfl) rfl rfl (fun r36 h36 q36 => ?_)
            obtain ⟨rfl, rfl⟩ := q36
            refine aw_astore_n (lv' := [_, _, _]) (pc' := 24) dX11_machinesWork_23 rfl (Nat.le_of_ble_eq_true rfl) rfl rfl ?_
            refine aw_aload_n (pc' := 25) dX11_machinesWork_24 rfl rfl rfl ?_
            refine aw_ifnull_n (tgt := 69) dX11_machinesWork_25 (by decide) ?_
            refine aw_iinc (lv' := [_, _, _]) (pc' := 72) dX11_machinesWork_69 rfl rfl (Nat.le_of_ble_eq_true rfl) rfl ?_
            refine aw_goto (tgt := 2) dX11_machinesWork_72 (by decide) ?_
            refine aw_iload_n (pc' := 3) dX11_machinesWork_2 rfl rfl ?_
            refine aw_iconst (v := 3) (pc' := 4) dX11_machinesWork_3 rfl (by decide) ?_
            refine aw_cge (tgt := 75) (pc' := 7) dX11_machinesWork_4 (by decide) rfl (fun c => absurd (by decide) c) (fun _ => ?_)
            refine aw_aload_n (pc' := 8) dX11_machinesWork_7 rfl rfl rfl ?_
            refine aw_get clsAll (pc' := 11) dX11_machinesWork_8 rfl fl_RX11_28 (gss e3 hx.1) rfl ?_
            refine aw_aload_n (pc' := 12) dX11_machinesWork_11 rfl rfl rfl ?_
            refine aw_get clsAll (pc' := 15) dX11_machinesWork_12 rfl fl_RX11_34 (gss e3 hx.1) rfl ?_
            refine aw_iload_n (pc' := 16) dX11_machinesWork_15 rfl rfl ?_
            refine aw_aald (v := .ref 29) (pc' := 17) dX11_machinesWork_16 rfl (gsn e3 (by decide) ((hx.2 19 (by decide) (by decide)).trans h0_19)) (by decide) rfl (vpc (by decide)) rfl ?_
            refine aw_get clsAll (pc' := 20) dX11_machinesWork_17 rfl fl_RX11_165 (gsn e3 (by decide) ((hx.2 21 (by decide) (by decide)).trans h0_21)) rfl ?_
            have cc37 : AM mX0_holeOf 0 [.ref 23, .int (-1)] h3 0 0 (PA fun r h' => (Value.null = r ∧ h3 = h')) := by
              refine am_of (lv := [some (.ref 23), some (.int (-1))]) rfl (Nat.le_of_ble_eq_true rfl) rfl ?_
              refine aw_iload_n (pc' := 1) dX0_holeOf_0 rfl rfl ?_
              refine aw_zlt (tgt := 12) (pc' := 4) dX0_holeOf_1 (by decide) rfl (fun _ => ?_) (fun c => absurd (by decide) c)
              refine aw_null (pc' := 13) dX0_holeOf_12 rfl ?_
              refine aw_goto (tgt := 22) dX0_holeOf_13 (by decide) ?_
              exact aw_ra dX0_holeOf_22 rfl (Or.inl ⟨_, rfl⟩) rfl (Nat.le_of_ble_eq_true rfl) (Nat.le_of_ble_eq_true rfl) ⟨rfl, rfl⟩
            refine aw_callVa (M' := mX0_holeOf) (nc' := 0) (ns' := 0) (pc' := 23) dX11_machinesWork_20 rfl ml_RX11_139 kX0_holeOf cc37 (gsn e3 (by decide) ((hx.2 15 (by decide) (by decide)).trans h0_15)) rfl rfl rfl (Nat.le_of_ble_eq_true rfl) (rok rfl) rfl rfl (fun r38 h38 q38 => ?_)
            obtain ⟨rfl, rfl⟩ := q38
            refine aw_astore_n (lv' := [_, _, _]) (pc' := 24) dX11_machinesWork_23 rfl (Nat.le_of_ble_eq_true rfl) rfl rfl ?_
            refine aw_aload_n (pc' := 25) dX11_machinesWork_24 rfl rfl rfl ?_
            refine aw_ifnull_n (tgt := 69) dX11_machinesWork_25 (by decide) ?_
            refine aw_iinc (lv' := [_, _, _]) (pc' := 72) dX11_machinesWork_69 rfl rfl (Nat.le_of_ble_eq_true rfl) rfl ?_
            refine aw_goto (tgt := 2) dX11_machinesWork_72 (by decide) ?_
            refine aw_iload_n (pc' := 3) dX11_machinesWork_2 rfl rfl ?_
            refine aw_iconst (v := 3) (pc' := 4) dX11_machinesWork_3 rfl (by decide) ?_
            refine aw_cge (tgt := 75) (pc' := 7) dX11_machinesWork_4 (by decide) rfl (fun c => absurd (by decide) c) (fun _ => ?_)
            refine aw_aload_n (pc' := 8) dX11_machinesWork_7 rfl rfl rfl ?_
            refine aw_get clsAll (pc' := 11) dX11_machinesWork_8 rfl fl_RX11_28 (gss e3 hx.1) rfl ?_
            refine aw_aload_n (pc' := 12) dX11_machinesWork_11 rfl rfl rfl ?_
            refine aw_get clsAll (pc' := 15) dX11_machinesWork_12 rfl fl_RX11_34 (gss e3 hx.1) rfl ?_
            refine aw_iload_n (pc' := 16) dX11_machinesWork_15 rfl rfl ?_
            refine aw_aald (v := .ref 30) (pc' := 17) dX11_machinesWork_16 rfl (gsn e3 (by decide) ((hx.2 19 (by decide) (by decide)).trans h0_19)) (by decide) rfl (vpc (by decide)) rfl ?_
            refine aw_get clsAll (pc' := 20) dX11_machinesWork_17 rfl fl_RX11_165 (gsn e3 (by decide) ((hx.2 22 (by decide) (by decide)).trans h0_22)) rfl ?_
            have cc39 : AM mX0_holeOf 0 [.ref 23, .int (-1)] h3 0 0 (PA fun r h' => (Value.null = r ∧ h3 = h')) := by
              refine am_of (lv := [some (.ref 23), some (.int (-1))]) rfl (Nat.le_of_ble_eq_true rfl) rfl ?_
              refine aw_iload_n (pc' := 1) dX0_holeOf_0 rfl rfl ?_
              refine aw_zlt (tgt := 12) (pc' := 4) dX0_holeOf_1 (by decide) rfl (fun _ => ?_) (fun c => absurd (by decide) c)
              refine aw_null (pc' := 13) dX0_holeOf_12 rfl ?_
              refine aw_goto (tgt := 22) dX0_holeOf_13 (by decide) ?_
              exact aw_ra dX0_holeOf_22 rfl (Or.inl ⟨_, rfl⟩) rfl (Nat.le_of_ble_eq_true rfl) (Nat.le_of_ble_eq_true rfl) ⟨rfl, rfl⟩
            refine aw_callVa (M' := mX0_holeOf) (nc' := 0) (ns' := 0) (pc' := 23) dX11_machinesWork_20 rfl ml_RX11_139 kX0_holeOf cc39 (gsn e3 (by decide) ((hx.2 15 (by decide) (by decide)).trans h0_15)) rfl rfl rfl (Nat.le_of_ble_eq_true rfl) (rok rfl) rfl rfl (fun r40 h40 q40 => ?_)
            obtain ⟨rfl, rfl⟩ := q40
            refine aw_astore_n (lv' := [_, _, _]) (pc' := 24) dX11_machinesWork_23 rfl (Nat.le_of_ble_eq_true rfl) rfl rfl ?_
            refine aw_aload_n (pc' := 25) dX11_machinesWork_24 rfl rfl rfl ?_
            refine aw_ifnull_n (tgt := 69) dX11_machinesWork_25 (by decide) ?_
            refine aw_iinc (lv' := [_, _, _]) (pc' := 72) dX11_machinesWork_69 rfl rfl (Nat.le_of_ble_eq_true rfl) rfl ?_
            refine aw_goto (tgt := 2) dX11_machinesWork_72 (by decide) ?_
            refine aw_iload_n (pc' := 3) dX11_machinesWork_2 rfl rfl ?_
            refine aw_iconst (v := 3) (pc' := 4) dX11_machinesWork_3 rfl (by decide) ?_
            refine aw_cge (tgt := 75) (pc' := 7) dX11_machinesWork_4 (by decide) rfl (fun _ => ?_) (fun c => absurd c (by decide))
            exact aw_rv dX11_machinesWork_75 rfl (Nat.le_of_ble_eq_true rfl) (Nat.le_of_ble_eq_true rfl) rfl
          refine aw_callVv (M' := mX11_machinesWork) (nc' := 0) (ns' := 0) (pc' := 37) dX11_hourGoesBy_34 rfl ml_RX11_499 kX11_machinesWork cc34 (gss e3 hx.1) rfl rfl rfl (Nat.le_of_ble_eq_true rfl) (rok rfl) rfl rfl (fun h41 q41 => ?_)
          obtain rfl := q41
          refine aw_aload_n (pc' := 38) dX11_hourGoesBy_37 rfl rfl rfl ?_
          refine aw_get clsAll (pc' := 41) dX11_hourGoesBy_38 rfl fl_RX11_76 (gss e3 hx.1) rfl ?_
          refine aw_aload_n (pc' := 42) dX11_hourGoesBy_41 rfl rfl rfl ?_
          refine aw_get clsAll (pc' := 45) dX11_hourGoesBy_42 rfl fl_RX11_168 (gss e3 hx.1) rfl ?_
          have cc42 : AM mX9_arrivals 0 [.ref 38, .int ((nI i) + 1)] h3 0 0 (PV fun h' => (∃ h44 : List aE, h3.set 30 (.inr (9, [.int 0, .int 0, .ref 39, .ref 40, .ref 41, .int 0])) = h44 ∧ h44 = h')) := by
            refine am_of (lv := [some (.ref 38), some (.int ((nI i) + 1)), none, none]) rfl (Nat.le_of_ble_eq_true rfl) rfl ?_
            refine aw_iconst (v := 0) (pc' := 1) dX9_arrivals_0 rfl (by decide) ?_
            refine aw_istore_n (lv' := [_, _, _, _]) (pc' := 2) dX9_arrivals_1 rfl (Nat.le_of_ble_eq_true rfl) rfl ?_
            refine aw_iconst (v := 0) (pc' := 3) dX9_arrivals_2 rfl (by decide) ?_
            refine aw_istore_n (lv' := [_, _, _, _]) (pc' := 4) dX9_arrivals_3 rfl (Nat.le_of_ble_eq_true rfl) rfl ?_
            refine aw_iload_n (pc' := 5) dX9_arrivals_4 rfl rfl ?_
            refine aw_aload_n (pc' := 6) dX9_arrivals_5 rfl rfl rfl ?_
            refine aw_get clsAll (pc' := 9) dX9_arrivals_6 rfl fl_RX9_19 (gsn e3 (by decide) ((hx.2 30 (by decide) (by decide)).trans h0_30)) rfl ?_
            refine aw_cge (tgt := 68) (pc' := 12) dX9_arrivals_9 (by decide) rfl (fun _ => ?_) (fun c => absurd c (by decide))
            refine aw_aload_n (pc' := 69) dX9_arrivals_68 rfl rfl rfl ?_
            refine aw_iload_n (pc' := 70) dX9_arrivals_69 rfl rfl ?_
            refine aw_putG clsAll (pc' := 73) dX9_arrivals_70 rfl fl_RX9_19 (gsn e3 (by decide) ((hx.2 30 (by decide) (by decide)).trans h0_30)) (Nat.le_of_ble_eq_true rfl) rfl (fun h43 e43 => ?_)
            exact aw_rv dX9_arrivals_73 rfl (Nat.le_of_ble_eq_true rfl) (Nat.le_of_ble_eq_true rfl) ⟨h43, e43, rfl⟩
          refine aw_callVv (M' := mX9_arrivals) (nc' := 0) (ns' := 0) (pc' := 48) dX11_hourGoesBy_45 rfl ml_RX11_502 kX9_arrivals cc42 (gsn e3 (by decide) ((hx.2 30 (by decide) (by decide)).trans h0_30)) rfl rfl rfl (Nat.le_of_ble_eq_true rfl) (rok rfl) rfl rfl (fun h45 q45 => ?_)
          obtain ⟨h44, e44, rfl⟩ := q45
          refine aw_aload_n (pc' := 49) dX11_hourGoesBy_48 rfl rfl rfl ?_
          refine aw_get clsAll (pc' := 52) dX11_hourGoesBy_49 rfl fl_RX11_168 (gsn e44 (by decide) (gss e3 hx.1)) rfl ?_
          refine aw_bipush (v := 24) (pc' := 54) dX11_hourGoesBy_52 rfl (by decide) ?_
          refine aw_irem (pc' := 55) dX11_hourGoesBy_54 rfl (by decide) ?_
          refine aw_if_ne (tgt := 62) (pc' := 58) dX11_hourGoesBy_55 (by decide) rfl (fun c46 => ?_) (fun c46 => ?_)
          · refine aw_aload_n (pc' := 63) dX11_hourGoesBy_62 rfl rfl rfl ?_
            have cc47 : AM mX11_rockMoves 0 [.ref 8] h44 0 0 (PV fun h' => (h44 = h')) := by
              refine am_of (lv := [some (.ref 8), none, none, none]) rfl (Nat.le_of_ble_eq_true rfl) rfl ?_
              refine aw_iconst (v := 0) (pc' := 1) dX11_rockMoves_0 rfl (by decide) ?_
              refine aw_istore_n (lv' := [_, _, _, _]) (pc' := 2) dX11_rockMoves_1 rfl (Nat.le_of_ble_eq_true rfl) rfl ?_
              refine aw_iload_n (pc' := 3) dX11_rockMoves_2 rfl rfl ?_
              refine aw_aload_n (pc' := 4) dX11_rockMoves_3 rfl rfl rfl ?_
              refine aw_get clsAll (pc' := 7) dX11_rockMoves_4 rfl fl_RX11_10 (gsn e44 (by decide) (gss e3 hx.1)) rfl ?_
              refine aw_get clsAll (pc' := 10) dX11_rockMoves_7 rfl fl_RX11_528 (gsn e44 (by decide) (gsn e3 (by decide) ((hx.2 1 (by decide) (by decide)).trans h0_1))) rfl ?_
              refine aw_cge (tgt := 101) (pc' := 13) dX11_rockMoves_10 (by decide) rfl (fun _ => ?_) (fun c => absurd c (by decide))
              exact aw_rv dX11_rockMoves_101 rfl (Nat.le_of_ble_eq_true rfl) (Nat.le_of_ble_eq_true rfl) rfl
            refine aw_callVv (M' := mX11_rockMoves) (nc' := 0) (ns' := 0) (pc' := 66) dX11_hourGoesBy_63 rfl ml_RX11_509 kX11_rockMoves cc47 (gsn e44 (by decide) (gss e3 hx.1)) rfl rfl rfl (Nat.le_of_ble_eq_true rfl) (rok rfl) rfl rfl (fun h48 q48 => ?_)
            obtain rfl := q48
            exact aw_rv dX11_hourGoesBy_66 rfl (Nat.le_of_ble_eq_true rfl) (Nat.le_of_ble_eq_true rfl) (Or.inr (Or.inr (Or.inl ⟨c7, c46, h3, e3, h44, e44, rfl⟩)))
          · refine aw_aload_n (pc' := 59) dX11_hourGoesBy_58 rfl rfl rfl ?_
            have cc49 : AM mX11_menEat 1 [.ref 8] h44 0 0 (PV fun h' => (h44 = h')) := by
              refine am_of (lv := [some (.ref 8), none, none, none]) rfl (Nat.le_of_ble_eq_true rfl) rfl ?_
              refine aw_aload_n (pc' := 1) dX11_menEat_0 rfl rfl rfl ?_
              refine aw_iconst (v := 1) (pc' := 2) dX11_menEat_1 rfl (by decide) ?_
              refine aw_iconst (v := 0) (pc' := 3) dX11_menEat_2 rfl (by decide) ?_
              refine aw_aload_n (pc' := 4) dX11_menEat_3 rfl rfl rfl ?_
              refine aw_get clsAll (pc' := 7) dX11_menEat_4 rfl fl_RX11_168 (gsn e44 (by decide) (gss e3 hx.1)) rfl ?_
              refine aw_aload_n (pc' := 8) dX11_menEat_7 rfl rfl rfl ?_
              refine aw_get clsAll (pc' := 11) dX11_menEat_8 rfl fl_RX11_168 (gsn e44 (by decide) (gss e3 hx.1)) rfl ?_
              have cc50 : AM mX11_latestText 0 [.ref 8, .int 1, .int 0, .int ((nI i) + 1), .int ((nI i) + 1)] h44 0 0 (PI fun r h' => ((-2) = r ∧ h44 = h')) := by
                refine am_of (lv := [some (.ref 8), some (.int 1), some (.int 0), some (.int ((nI i) + 1)), some (.int ((nI i) + 1)), none, none, none]) rfl (Nat.le_of_ble_eq_true rfl) rfl ?_
                refine aw_aload_n (pc' := 1) dX11_latestText_0 rfl rfl rfl ?_
                refine aw_get clsAll (pc' := 4) dX11_latestText_1 rfl fl_RX11_98 (gsn e44 (by decide) (gss e3 hx.1)) rfl ?_
                refine aw_iload (pc' := 6) dX11_latestText_4 rfl rfl ?_
                refine aw_cgt (tgt := 13) (pc' := 9) dX11_latestText_6 (by decide) rfl (fun c => absurd c c7) (fun _ => ?_)
                refine aw_iconst (v := 1) (pc' := 10) dX11_latestText_9 rfl (by decide) ?_
                refine aw_goto (tgt := 14) dX11_latestText_10 (by decide) ?_
                refine aw_istore (lv' := [_, _, _, _, _, _, _, _]) (pc' := 16) dX11_latestText_14 rfl (Nat.le_of_ble_eq_true rfl) rfl ?_
                refine aw_aload_n (pc' := 17) dX11_latestText_16 rfl rfl rfl ?_
                refine aw_get clsAll (pc' := 20) dX11_latestText_17 rfl fl_RX11_267 (gsn e44 (by decide) (gss e3 hx.1)) rfl ?_
                refine aw_iconst (v := 1) (pc' := 21) dX11_latestText_20 rfl (by decide) ?_
                refine aw_isub (pc' := 22) dX11_latestText_21 rfl ?_
                refine aw_topi (v := (-1)) (by decide) ?_
                refine aw_istore (lv' := [_, _, _, _, _, _, _, _]) (pc' := 24) dX11_latestText_22 rfl (Nat.le_of_ble_eq_true rfl) rfl ?_
                refine aw_iload (pc' := 26) dX11_latestText_24 rfl rfl ?_
                refine aw_zlt (tgt := 97) (pc' := 29) dX11_latestText_26 (by decide) rfl (fun _ => ?_) (fun c => absurd (by decide) c)
                refine aw_bipush (v := (-2)) (pc' := 99) dX11_latestText_97 rfl (by decide) ?_
                exact aw_ri dX11_latestText_99 rfl rfl (Nat.le_of_ble_eq_true rfl) (Nat.le_of_ble_eq_true rfl) ⟨rfl, rfl⟩
              refine aw_callVi (M' := mX11_latestText) (nc' := 0) (ns' := 0) (pc' := 14) dX11_menEat_11 rfl ml_RX11_285 kX11_latestText cc50 (gsn e44 (by decide) (gss e3 hx.1)) rfl rfl rfl (Nat.le_of_ble_eq_true rfl) (rok rfl) rfl rfl (fun r51 h51 q51 => ?_)
              obtain ⟨rfl, rfl⟩ := q51
              refine aw_istore_n (lv' := [_, _, _, _]) (pc' := 15) dX11_menEat_14 rfl (Nat.le_of_ble_eq_true rfl) rfl ?_
              refine aw_iconst (v := 0) (pc' := 16) dX11_menEat_15 rfl (by decide) ?_
              refine aw_istore_n (lv' := [_, _, _, _]) (pc' := 17) dX11_menEat_16 rfl (Nat.le_of_ble_eq_true rfl) rfl ?_
              refine aw_iload_n (pc' := 18) dX11_menEat_17 rfl rfl ?_
              refine aw_aload_n (pc' := 19) dX11_menEat_18 rfl rfl rfl ?_
              refine aw_get clsAll (pc' := 22) dX11_menEat_19 rfl fl_RX11_28 (gsn e44 (by decide) (gss e3 hx.1)) rfl ?_
              refine aw_get clsAll (pc' := 25) dX11_menEat_22 rfl fl_RX11_381 (gsn e44 (by decide) (gsn e3 (by decide) ((hx.2 15 (by decide) (by decide)).trans h0_15))) rfl ?_
              refine aw_cge (tgt := 90) (pc' := 28) dX11_menEat_25 (by decide) rfl (fun _ => ?_) (fun c => absurd c (by decide))
              exact aw_rv dX11_menEat_90 rfl (Nat.le_of_ble_eq_true rfl) (Nat.le_of_ble_eq_true rfl) rfl
            refine aw_callVv (M' := mX11_menEat) (nc' := 0) (ns' := 0) (pc' := 62) dX11_hourGoesBy_59 rfl ml_RX11_506 kX11_menEat cc49 (gsn e44 (by decide) (gss e3 hx.1)) rfl rfl rfl (Nat.le_of_ble_eq_true rfl) (rok rfl) rfl rfl (fun h52 q52 => ?_)
            obtain rfl := q52
            refine aw_aload_n (pc' := 63) dX11_hourGoesBy_62 rfl rfl rfl ?_
            have cc53 : AM mX11_rockMoves 0 [.ref 8] h44 0 0 (PV fun h' => (h44 = h')) := by
              refine am_of (lv := [some (.ref 8), none, none, none]) rfl (Nat.le_of_ble_eq_true rfl) rfl ?_
              refine aw_iconst (v := 0) (pc' := 1) dX11_rockMoves_0 rfl (by decide) ?_
              refine aw_istore_n (lv' := [_, _, _, _]) (pc' := 2) dX11_rockMoves_1 rfl (Nat.le_of_ble_eq_true rfl) rfl ?_
              refine aw_iload_n (pc' := 3) dX11_rockMoves_2 rfl rfl ?_
              refine aw_aload_n (pc' := 4) dX11_rockMoves_3 rfl rfl rfl ?_
              refine aw_get clsAll (pc' := 7) dX11_rockMoves_4 rfl fl_RX11_10 (gsn e44 (by decide) (gss e3 hx.1)) rfl ?_
              refine aw_get clsAll (pc' := 10) dX11_rockMoves_7 rfl fl_RX11_528 (gsn e44 (by decide) (gsn e3 (by decide) ((hx.2 1 (by decide) (by decide)).trans h0_1))) rfl ?_
              refine aw_cge (tgt := 101) (pc' := 13) dX11_rockMoves_10 (by decide) rfl (fun _ => ?_) (fun c => absurd c (by decide))
              exact aw_rv dX11_rockMoves_101 rfl (Nat.le_of_ble_eq_true rfl) (Nat.le_of_ble_eq_true rfl) rfl
            refine aw_callVv (M' := mX11_rockMoves) (nc' := 0) (ns' := 0) (pc' := 66) dX11_hourGoesBy_63 rfl ml_RX11_509 kX11_rockMoves cc53 (gsn e44 (by decide) (gss e3 hx.1)) rfl rfl rfl (Nat.le_of_ble_eq_true rfl) (rok rfl) rfl rfl (fun h54 q54 => ?_)
            obtain rfl := q54
            exact aw_rv dX11_hourGoesBy_66 rfl (Nat.le_of_ble_eq_true rfl) (Nat.le_of_ble_eq_true rfl) (Or.inr (Or.inr (Or.inr ⟨c7, c46, h3, e3, h44, e44, rfl⟩)))
      refine aw_callVv (M' := mX11_hourGoesBy) (nc' := 0) (ns' := 0) (pc' := 36) dX11_hours_33 rfl ml_RX11_292 kX11_hourGoesBy cc2 hx.1 rfl rfl rfl (Nat.le_of_ble_eq_true rfl) (rok rfl) rfl rfl (fun h71 q71 => ?_)
      rcases q71 with ⟨c55, c56, h57, e57, h58, e58, rfl⟩ | ⟨c59, c60, h61, e61, h62, e62, rfl⟩ | ⟨c63, c64, h65, e65, h66, e66, rfl⟩ | ⟨c67, c68, h69, e69, h70, e70, rfl⟩
      · refine aw_iinc (lv' := [_, _, _]) (pc' := 39) dX11_hours_36 rfl rfl (Nat.le_of_ble_eq_true rfl) rfl ?_
        refine aw_goto (tgt := 27) dX11_hours_39 (by decide) ?_
        have hc2 : i < N := (nI_ltI (by omega) (by omega)).mp c1
        refine AW.lv_le (lv' := [some (.ref 8), some (.int (nI N)), some (.int (nI (i + 1)))]) ?_ ?_
        · rw [show nI (i + 1) = nI i + Int32.ofInt 1 from (nI_1 i).symm]; exact fun _ _ z => z
        · exact ih (i + 1) (by omega) (by omega) _ (by rw [← nI_1]; exact (fx_same e58 (gsn e57 (by decide) ((hx.2 30 (by decide) (by decide)).trans h0_30)) (fx_setv (v := ((nI i) + 1)) e57 hx))) ((sm_set e58 (by decide) (sm_set e57 (by decide) hs))) (ls_ e58 (ls_ e57 hlen))
      · refine aw_iinc (lv' := [_, _, _]) (pc' := 39) dX11_hours_36 rfl rfl (Nat.le_of_ble_eq_true rfl) rfl ?_
        refine aw_goto (tgt := 27) dX11_hours_39 (by decide) ?_
        have hc3 : i < N := (nI_ltI (by omega) (by omega)).mp c1
        refine AW.lv_le (lv' := [some (.ref 8), some (.int (nI N)), some (.int (nI (i + 1)))]) ?_ ?_
        · rw [show nI (i + 1) = nI i + Int32.ofInt 1 from (nI_1 i).symm]; exact fun _ _ z => z
        · exact ih (i + 1) (by omega) (by omega) _ (by rw [← nI_1]; exact (fx_same e62 (gsn e61 (by decide) ((hx.2 30 (by decide) (by decide)).trans h0_30)) (fx_setv (v := ((nI i) + 1)) e61 hx))) ((sm_set e62 (by decide) (sm_set e61 (by decide) hs))) (ls_ e62 (ls_ e61 hlen))
      · refine aw_iinc (lv' := [_, _, _]) (pc' := 39) dX11_hours_36 rfl rfl (Nat.le_of_ble_eq_true rfl) rfl ?_
        refine aw_goto (tgt := 27) dX11_hours_39 (by decide) ?_
        have hc4 : i < N := (nI_ltI (by omega) (by omega)).mp c1
        refine AW.lv_le (lv' := [some (.ref 8), some (.int (nI N)), some (.int (nI (i + 1)))]) ?_ ?_
        · rw [show nI (i + 1) = nI i + Int32.ofInt 1 from (nI_1 i).symm]; exact fun _ _ z => z
        · exact ih (i + 1) (by omega) (by omega) _ (by rw [← nI_1]; exact (fx_same e66 (gsn e65 (by decide) ((hx.2 30 (by decide) (by decide)).trans h0_30)) (fx_setv (v := ((nI i) + 1)) e65 hx))) ((sm_set e66 (by decide) (sm_set e65 (by decide) hs))) (ls_ e66 (ls_ e65 hlen))
      · refine aw_iinc (lv' := [_, _, _]) (pc' := 39) dX11_hours_36 rfl rfl (Nat.le_of_ble_eq_true rfl) rfl ?_
        refine aw_goto (tgt := 27) dX11_hours_39 (by decide) ?_
        have hc5 : i < N := (nI_ltI (by omega) (by omega)).mp c1
        refine AW.lv_le (lv' := [some (.ref 8), some (.int (nI N)), some (.int (nI (i + 1)))]) ?_ ?_
        · rw [show nI (i + 1) = nI i + Int32.ofInt 1 from (nI_1 i).symm]; exact fun _ _ z => z
        · exact ih (i + 1) (by omega) (by omega) _ (by rw [← nI_1]; exact (fx_same e70 (gsn e69 (by decide) ((hx.2 30 (by decide) (by decide)).trans h0_30)) (fx_setv (v := ((nI i) + 1)) e69 hx))) ((sm_set e70 (by decide) (sm_set e69 (by decide) hs))) (ls_ e70 (ls_ e69 hlen))
set_option maxRecDepth 4000 in
theorem x_hours (h : List aE) (hx : Fx 0 h) (hlen : h.length = 126) (n : Int32) : AM mX11_hours 3 [.ref 8, .int n] h 0 0 (PI fun r h' => r = sp_hours n ∧ Sm h h') := by
  refine am_of (lv := [some (.ref 8), some (.int n), none]) rfl (Nat.le_of_ble_eq_true rfl) rfl ?_
  refine aw_iload_n (pc' := 1) dX11_hours_0 rfl rfl ?_
  refine aw_iconst (v := 1) (pc' := 2) dX11_hours_1 rfl (by decide) ?_
  refine aw_clt (tgt := 23) (pc' := 5) dX11_hours_2 (by decide) rfl (fun c1 => ?_) (fun c1 => ?_)
  · refine aw_iconst (v := (-1)) (pc' := 24) dX11_hours_23 rfl (by decide) ?_
    exact aw_ri dX11_hours_24 rfl rfl (Nat.le_of_ble_eq_true rfl) (Nat.le_of_ble_eq_true rfl) ⟨(by first | (simp [sp_hours, cnd, okC, okS, okW, okN, inR, n2_, n3_, n5_, n31_, c1]; done) | (simp_all [sp_hours, cnd, okC, okS, okW, okN, inR, n2_, n3_, n5_, n31_]; done) | skip), sm_rf⟩
  · refine aw_iload_n (pc' := 6) dX11_hours_5 rfl rfl ?_
    refine aw_bipush (v := 48) (pc' := 8) dX11_hours_6 rfl (by decide) ?_
    refine aw_cgt (tgt := 23) (pc' := 11) dX11_hours_8 (by decide) rfl (fun c2 => ?_) (fun c2 => ?_)
    · refine aw_iconst (v := (-1)) (pc' := 24) dX11_hours_23 rfl (by decide) ?_
      exact aw_ri dX11_hours_24 rfl rfl (Nat.le_of_ble_eq_true rfl) (Nat.le_of_ble_eq_true rfl) ⟨(by first | (simp [sp_hours, cnd, okC, okS, okW, okN, inR, n2_, n3_, n5_, n31_, c1, c2]; done) | (simp_all [sp_hours, cnd, okC, okS, okW, okN, inR, n2_, n3_, n5_, n31_]; done) | skip), sm_rf⟩
    · refine aw_aload_n (pc' := 12) dX11_hours_11 rfl rfl rfl ?_
      refine aw_get clsAll (pc' := 15) dX11_hours_12 rfl fl_RX11_168 hx.1 rfl ?_
      refine aw_iload_n (pc' := 16) dX11_hours_15 rfl rfl ?_
      refine aw_iadd (pc' := 17) dX11_hours_16 rfl ?_
      refine aw_topi (v := n) (Int32.zero_add _) ?_
      refine aw_sipush (v := 1699) (pc' := 20) dX11_hours_17 rfl (by decide) ?_
      refine aw_cle (tgt := 25) (pc' := 23) dX11_hours_20 (by decide) rfl (fun _ => ?_) (fun c => absurd c (bf2 c2 (by decide)))
      refine aw_iconst (v := 0) (pc' := 26) dX11_hours_25 rfl (by decide) ?_
      refine aw_istore_n (lv' := [_, _, _]) (pc' := 27) dX11_hours_26 rfl (Nat.le_of_ble_eq_true rfl) rfl ?_
      obtain ⟨N, hN1, hN, rfl⟩ := n48_ c1 c2
      exact xh_loop N hN1 hN h (N + 1) 0 (by omega) (by omega) h hx sm_rf hlen
theorem lv_drop3 {a b c d e : Option Value} : ∀ (i : Nat) (v : Value), ([a, b, c, none, none] : List (Option Value))[i]? = some (some v) → ([a, b, c, d, e] : List (Option Value))[i]? = some (some v) := by
  intro i v h
  match i, h with
  | 0, h => exact h
  | 1, h => exact h
  | 2, h => exact h
  | 3, h => simp at h
  | 4, h => simp at h
  | n + 5, h => simp at h
set_option maxRecDepth 4000 in
theorem mh_loop (N : Nat) (hN1 : 1 ≤ N) (hN : N ≤ 48) : ∀ (k i : Nat), i ≤ N → N - i < k → ∀ (h : List aE), Fm (nI i) h → AW mX12_hours (rmD 4 0 0) (fin (PI fun r h' => r = sp_hours (nI N)) 0 0) 26 [some (.ref 67), some (.int (nI N)), some (.int (nI i)), none, none] [] h 0 0 := by
  intro k
  induction k with
  | zero => intro i h1 h2; omega
  | succ k ih =>
    intro i hi hk h hx
    refine aw_iload_n (pc' := 27) dX12_hours_26 rfl rfl ?_
    refine aw_iload_n (pc' := 28) dX12_hours_27 rfl rfl ?_
    refine aw_cge (tgt := 180) (pc' := 31) dX12_hours_28 (by decide) rfl (fun c1 => ?_) (fun c1 => ?_)
    · refine aw_aload_n (pc' := 181) dX12_hours_180 rfl rfl rfl ?_
      refine aw_get clsAll (pc' := 184) dX12_hours_181 rfl fl_RX12_281 hx.1 rfl ?_
      exact aw_ri dX12_hours_184 rfl rfl (Nat.le_of_ble_eq_true rfl) (Nat.le_of_ble_eq_true rfl) (by rw [sp_hours_ok hN1 hN]; rcases Nat.lt_or_ge i N with z | z; exact absurd ((nI_ltI (by omega) (by omega)).mpr z) c1; rw [show i = N by omega])
    · refine aw_aload_n (pc' := 32) dX12_hours_31 rfl rfl rfl ?_
      refine aw_dup (pc' := 33) dX12_hours_32 rfl rfl ?_
      refine aw_get clsAll (pc' := 36) dX12_hours_33 rfl fl_RX12_281 hx.1 rfl ?_
      refine aw_iconst (v := 1) (pc' := 37) dX12_hours_36 rfl (by decide) ?_
      refine aw_iadd (pc' := 38) dX12_hours_37 rfl ?_
      refine aw_putG clsAll (pc' := 41) dX12_hours_38 rfl fl_RX12_281 hx.1 (Nat.le_of_ble_eq_true rfl) rfl (fun h2 e2 => ?_)
      refine aw_aload_n (pc' := 42) dX12_hours_41 rfl rfl rfl ?_
      have cc3 : AM mX12_drill 3 [.ref 67] h2 0 0 (PV fun h' => (((nI i) + 1) < 1700 ∧ h2 = h') ∨ (¬ (((nI i) + 1) < 1700) ∧ h2 = h')) := by
        refine am_of (lv := [some (.ref 67), none]) rfl (Nat.le_of_ble_eq_true rfl) rfl ?_
        refine aw_iconst (v := 0) (pc' := 1) dX12_drill_0 rfl (by decide) ?_
        refine aw_istore_n (lv' := [_, _]) (pc' := 2) dX12_drill_1 rfl (Nat.le_of_ble_eq_true rfl) rfl ?_
        refine aw_iload_n (pc' := 3) dX12_drill_2 rfl rfl ?_
        refine aw_aload_n (pc' := 4) dX12_drill_3 rfl rfl rfl ?_
        refine aw_get clsAll (pc' := 7) dX12_drill_4 rfl fl_RX12_242 (gss e2 hx.1) rfl ?_
        refine aw_cge (tgt := 23) (pc' := 10) dX12_drill_7 (by decide) rfl (fun _ => ?_) (fun c => absurd c (by decide))
        refine aw_aload_n (pc' := 24) dX12_drill_23 rfl rfl rfl ?_
        refine aw_iconst (v := 2) (pc' := 25) dX12_drill_24 rfl (by decide) ?_
        refine aw_iconst (v := (-1)) (pc' := 26) dX12_drill_25 rfl (by decide) ?_
        refine aw_iconst (v := 0) (pc' := 27) dX12_drill_26 rfl (by decide) ?_
        have cc4 : AM mX12_saysNow 2 [.ref 67, .int 2, .int (-1), .int 0] h2 0 0 (PI fun r h' => (((nI i) + 1) < 1700 ∧ 0 = r ∧ h2 = h') ∨ (¬ (((nI i) + 1) < 1700) ∧ 0 = r ∧ h2 = h')) := by
          refine am_of (lv := [some (.ref 67), some (.int 2), some (.int (-1)), some (.int 0), none, none, none]) rfl (Nat.le_of_ble_eq_true rfl) rfl ?_
          refine aw_aload_n (pc' := 1) dX12_saysNow_0 rfl rfl rfl ?_
          refine aw_iload_n (pc' := 2) dX12_saysNow_1 rfl rfl ?_
          refine aw_aload_n (pc' := 3) dX12_saysNow_2 rfl rfl rfl ?_
          refine aw_get clsAll (pc' := 6) dX12_saysNow_3 rfl fl_RX12_281 (gss e2 hx.1) rfl ?_
          refine aw_aload_n (pc' := 7) dX12_saysNow_6 rfl rfl rfl ?_
          refine aw_get clsAll (pc' := 10) dX12_saysNow_7 rfl fl_RX12_281 (gss e2 hx.1) rfl ?_
          have cc5 : AM mX12_forceOf 1 [.ref 67, .int 2, .int ((nI i) + 1), .int ((nI i) + 1)] h2 0 0 (PI fun r h' => (((nI i) + 1) < 1700 ∧ (-2) = r ∧ h2 = h') ∨ (¬ (((nI i) + 1) < 1700) ∧ (-2) = r ∧ h2 = h')) := by
            refine am_of (lv := [some (.ref 67), some (.int 2), some (.int ((nI i) + 1)), some (.int ((nI i) + 1)), none, none]) rfl (Nat.le_of_ble_eq_true rfl) rfl ?_
            refine aw_aload_n (pc' := 1) dX12_forceOf_0 rfl rfl rfl ?_
            have cc6 : AM mX12_firstThrough 0 [.ref 67] h2 0 0 (PI fun r h' => (1700 = r ∧ h2 = h')) := by
              refine am_of (lv := [some (.ref 67), none, none]) rfl (Nat.le_of_ble_eq_true rfl) rfl ?_
              refine aw_sipush (v := 1700) (pc' := 3) dX12_firstThrough_0 rfl (by decide) ?_
              refine aw_istore_n (lv' := [_, _, _]) (pc' := 4) dX12_firstThrough_3 rfl (Nat.le_of_ble_eq_true rfl) rfl ?_
              refine aw_iconst (v := 0) (pc' := 5) dX12_firstThrough_4 rfl (by decide) ?_
              refine aw_istore_n (lv' := [_, _, _]) (pc' := 6) dX12_firstThrough_5 rfl (Nat.le_of_ble_eq_true rfl) rfl ?_
              refine aw_iload_n (pc' := 7) dX12_firstThrough_6 rfl rfl ?_
              refine aw_aload_n (pc' := 8) dX12_firstThrough_7 rfl rfl rfl ?_
              refine aw_get clsAll (pc' := 11) dX12_firstThrough_8 rfl fl_RX12_242 (gss e2 hx.1) rfl ?_
              refine aw_cge (tgt := 50) (pc' := 14) dX12_firstThrough_11 (by decide) rfl (fun _ => ?_) (fun c => absurd c (by decide))
              refine aw_iload_n (pc' := 51) dX12_firstThrough_50 rfl rfl ?_
              exact aw_ri dX12_firstThrough_51 rfl rfl (Nat.le_of_ble_eq_true rfl) (Nat.le_of_ble_eq_true rfl) ⟨rfl, rfl⟩
            refine aw_callVi (M' := mX12_firstThrough) (nc' := 0) (ns' := 0) (pc' := 4) dX12_forceOf_1 rfl ml_RX12_379 kX12_firstThrough cc6 (gss e2 hx.1) rfl rfl rfl (Nat.le_of_ble_eq_true rfl) (rok rfl) rfl rfl (fun r7 h7 q7 => ?_)
            obtain ⟨rfl, rfl⟩ := q7
            refine aw_iload_n (pc' := 5) dX12_forceOf_4 rfl rfl ?_
            refine aw_cgt (tgt := 12) (pc' := 8) dX12_forceOf_5 (by decide) rfl (fun c8 => ?_) (fun c8 => ?_)
            · refine aw_iconst (v := 0) (pc' := 13) dX12_forceOf_12 rfl (by decide) ?_
              refine aw_istore (lv' := [_, _, _, _, _, _]) (pc' := 15) dX12_forceOf_13 rfl (Nat.le_of_ble_eq_true rfl) rfl ?_
              refine aw_aload_n (pc' := 16) dX12_forceOf_15 rfl rfl rfl ?_
              refine aw_get clsAll (pc' := 19) dX12_forceOf_16 rfl fl_RX12_373 (gss e2 hx.1) rfl ?_
              refine aw_iconst (v := 1) (pc' := 20) dX12_forceOf_19 rfl (by decide) ?_
              refine aw_isub (pc' := 21) dX12_forceOf_20 rfl ?_
              refine aw_topi (v := (-1)) (by decide) ?_
              refine aw_istore (lv' := [_, _, _, _, _, _]) (pc' := 23) dX12_forceOf_21 rfl (Nat.le_of_ble_eq_true rfl) rfl ?_
              refine aw_iload (pc' := 25) dX12_forceOf_23 rfl rfl ?_
              refine aw_zlt (tgt := 98) (pc' := 28) dX12_forceOf_25 (by decide) rfl (fun _ => ?_) (fun c => absurd (by decide) c)
              refine aw_bipush (v := (-2)) (pc' := 100) dX12_forceOf_98 rfl (by decide) ?_
              exact aw_ri dX12_forceOf_100 rfl rfl (Nat.le_of_ble_eq_true rfl) (Nat.le_of_ble_eq_true rfl) (Or.inl ⟨c8, rfl, rfl⟩)
            · refine aw_iconst (v := 1) (pc' := 9) dX12_forceOf_8 rfl (by decide) ?_
              refine aw_goto (tgt := 13) dX12_forceOf_9 (by decide) ?_
              refine aw_istore (lv' := [_, _, _, _, _, _]) (pc' := 15) dX12_forceOf_13 rfl (Nat.le_of_ble_eq_true rfl) rfl ?_
              refine aw_aload_n (pc' := 16) dX12_forceOf_15 rfl rfl rfl ?_
              refine aw_get clsAll (pc' := 19) dX12_forceOf_16 rfl fl_RX12_373 (gss e2 hx.1) rfl ?_
              refine aw_iconst (v := 1) (pc' := 20) dX12_forceOf_19 rfl (by decide) ?_
              refine aw_isub (pc' := 21) dX12_forceOf_20 rfl ?_
              refine aw_topi (v := (-1)) (by decide) ?_
              refine aw_istore (lv' := [_, _, _, _, _, _]) (pc' := 23) dX12_forceOf_21 rfl (Nat.le_of_ble_eq_true rfl) rfl ?_
              refine aw_iload (pc' := 25) dX12_forceOf_23 rfl rfl ?_
              refine aw_zlt (tgt := 98) (pc' := 28) dX12_forceOf_25 (by decide) rfl (fun _ => ?_) (fun c => absurd (by decide) c)
              refine aw_bipush (v := (-2)) (pc' := 100) dX12_forceOf_98 rfl (by decide) ?_
              exact aw_ri dX12_forceOf_100 rfl rfl (Nat.le_of_ble_eq_true rfl) (Nat.le_of_ble_eq_true rfl) (Or.inr ⟨c8, rfl, rfl⟩)
          refine aw_callVi (M' := mX12_forceOf) (nc' := 0) (ns' := 0) (pc' := 13) dX12_saysNow_10 rfl ml_RX12_385 kX12_forceOf cc5 (gss e2 hx.1) rfl rfl rfl (Nat.le_of_ble_eq_true rfl) (rok rfl) rfl rfl (fun r11 h11 q11 => ?_)
          rcases q11 with ⟨c9, rfl, rfl⟩ | ⟨c10, rfl, rfl⟩
          · refine aw_istore (lv' := [_, _, _, _, _, _, _]) (pc' := 15) dX12_saysNow_13 rfl (Nat.le_of_ble_eq_true rfl) rfl ?_
            refine aw_iload (pc' := 17) dX12_saysNow_15 rfl rfl ?_
            refine aw_zge (tgt := 22) (pc' := 20) dX12_saysNow_17 (by decide) rfl (fun c => absurd (by decide) c) (fun _ => ?_)
            refine aw_iload_n (pc' := 21) dX12_saysNow_20 rfl rfl ?_
            exact aw_ri dX12_saysNow_21 rfl rfl (Nat.le_of_ble_eq_true rfl) (Nat.le_of_ble_eq_true rfl) (Or.inl ⟨c9, rfl, rfl⟩)
          · refine aw_istore (lv' := [_, _, _, _, _, _, _]) (pc' := 15) dX12_saysNow_13 rfl (Nat.le_of_ble_eq_true rfl) rfl ?_
            refine aw_iload (pc' := 17) dX12_saysNow_15 rfl rfl ?_
            refine aw_zge (tgt := 22) (pc' := 20) dX12_saysNow_17 (by decide) rfl (fun c => absurd (by decide) c) (fun _ => ?_)
            refine aw_iload_n (pc' := 21) dX12_saysNow_20 rfl rfl ?_
            exact aw_ri dX12_saysNow_21 rfl rfl (Nat.le_of_ble_eq_true rfl) (Nat.le_of_ble_eq_true rfl) (Or.inr ⟨c10, rfl, rfl⟩)
        refine aw_callVi (M' := mX12_saysNow) (nc' := 0) (ns' := 0) (pc' := 30) dX12_drill_27 rfl ml_RX12_403 kX12_saysNow cc4 (gss e2 hx.1) rfl rfl rfl (Nat.le_of_ble_eq_true rfl) (rok rfl) rfl rfl (fun r14 h14 q14 => ?_)
        rcases q14 with ⟨c12, rfl, rfl⟩ | ⟨c13, rfl, rfl⟩
        · refine aw_if_eq (tgt := 34) (pc' := 33) dX12_drill_30 (by decide) rfl (fun _ => ?_) (fun c => absurd (by decide) c)
          refine aw_iconst (v := 0) (pc' := 35) dX12_drill_34 rfl (by decide) ?_
          refine aw_istore_n (lv' := [_, _]) (pc' := 36) dX12_drill_35 rfl (Nat.le_of_ble_eq_true rfl) rfl ?_
          refine aw_iload_n (pc' := 37) dX12_drill_36 rfl rfl ?_
          refine aw_iconst (v := 3) (pc' := 38) dX12_drill_37 rfl (by decide) ?_
          refine aw_cge (tgt := 117) (pc' := 41) dX12_drill_38 (by decide) rfl (fun c => absurd (by decide) c) (fun _ => ?_)
          refine aw_aload_n (pc' := 42) dX12_drill_41 rfl rfl rfl ?_
          refine aw_get clsAll (pc' := 45) dX12_drill_42 rfl fl_RX12_72 (gss e2 hx.1) rfl ?_
          refine aw_iload_n (pc' := 46) dX12_drill_45 rfl rfl ?_
          refine aw_iald (v := (-1)) (pc' := 47) dX12_drill_46 rfl (gsn e2 (by decide) ((hx.2 79 (by decide) (by decide)).trans h0_79)) (vpc (by decide)) rfl ?_
          refine aw_zlt (tgt := 111) (pc' := 50) dX12_drill_47 (by decide) rfl (fun _ => ?_) (fun c => absurd (by decide) c)
          refine aw_iinc (lv' := [_, _]) (pc' := 114) dX12_drill_111 rfl rfl (Nat.le_of_ble_eq_true rfl) rfl ?_
          refine aw_goto (tgt := 36) dX12_drill_114 (by decide) ?_
          refine aw_iload_n (pc' := 37) dX12_drill_36 rfl rfl ?_
          refine aw_iconst (v := 3) (pc' := 38) dX12_drill_37 rfl (by decide) ?_
          refine aw_cge (tgt := 117) (pc' := 41) dX12_drill_38 (by decide) rfl (fun c => absurd (by decide) c) (fun _ => ?_)
          refine aw_aload_n (pc' := 42) dX12_drill_41 rfl rfl rfl ?_
          refine aw_get clsAll (pc' := 45) dX12_drill_42 rfl fl_RX12_72 (gss e2 hx.1) rfl ?_
          refine aw_iload_n (pc' := 46) dX12_drill_45 rfl rfl ?_
          refine aw_iald (v := (-1)) (pc' := 47) dX12_drill_46 rfl (gsn e2 (by decide) ((hx.2 79 (by decide) (by decide)).trans h0_79)) (vpc (by decide)) rfl ?_
          refine aw_zlt (tgt := 111) (pc' := 50) dX12_drill_47 (by decide) rfl (fun _ => ?_) (fun c => absurd (by decide) c)
          refine aw_iinc (lv' := [_, _]) (pc' := 114) dX12_drill_111 rfl rfl (Nat.le_of_ble_eq_true rfl) rfl ?_
          refine aw_goto (tgt := 36) dX12_drill_114 (by decide) ?_
          refine aw_iload_n (pc' := 37) dX12_drill_36 rfl rfl ?_
          refine aw_iconst (v := 3) (pc' := 38) dX12_drill_37 rfl (by decide) ?_
          refine aw_cge (tgt := 117) (pc' := 41) dX12_drill_38 (by decide) rfl (fun c => absurd (by decide) c) (fun _ => ?_)
          refine aw_aload_n (pc' := 42) dX12_drill_41 rfl rfl rfl ?_
          refine aw_get clsAll (pc' := 45) dX12_drill_42 rfl fl_RX12_72 (gss e2 hx.1) rfl ?_
          refine aw_iload_n (pc' := 46) dX12_drill_45 rfl rfl ?_
          refine aw_iald (v := (-1)) (pc' := 47) dX12_drill_46 rfl (gsn e2 (by decide) ((hx.2 79 (by decide) (by decide)).trans h0_79)) (vpc (by decide)) rfl ?_
          refine aw_zlt (tgt := 111) (pc' := 50) dX12_drill_47 (by decide) rfl (fun _ => ?_) (fun c => absurd (by decide) c)
          refine aw_iinc (lv' := [_, _]) (pc' := 114) dX12_drill_111 rfl rfl (Nat.le_of_ble_eq_true rfl) rfl ?_
          refine aw_goto (tgt := 36) dX12_drill_114 (by decide) ?_
          refine aw_iload_n (pc' := 37) dX12_drill_36 rfl rfl ?_
          refine aw_iconst (v := 3) (pc' := 38) dX12_drill_37 rfl (by decide) ?_
          refine aw_cge (tgt := 117) (pc' := 41) dX12_drill_38 (by decide) rfl (fun _ => ?_) (fun c => absurd c (by decide))
          refine aw_iconst (v := 0) (pc' := 118) dX12_drill_117 rfl (by decide) ?_
          refine aw_istore_n (lv' := [_, _]) (pc' := 119) dX12_drill_118 rfl (Nat.le_of_ble_eq_true rfl) rfl ?_
          refine aw_iload_n (pc' := 120) dX12_drill_119 rfl rfl ?_
          refine aw_aload_n (pc' := 121) dX12_drill_120 rfl rfl rfl ?_
          refine aw_get clsAll (pc' := 124) dX12_drill_121 rfl fl_RX12_242 (gss e2 hx.1) rfl ?_
          refine aw_cge (tgt := 153) (pc' := 127) dX12_drill_124 (by decide) rfl (fun _ => ?_) (fun c => absurd c (by decide))
          exact aw_rv dX12_drill_153 rfl (Nat.le_of_ble_eq_true rfl) (Nat.le_of_ble_eq_true rfl) (Or.inl ⟨c12, rfl⟩)
        · refine aw_if_eq (tgt := 34) (pc' := 33) dX12_drill_30 (by decide) rfl (fun _ => ?_) (fun c => absurd (by decide) c)
          refine aw_iconst (v := 0) (pc' := 35) dX12_drill_34 rfl (by decide) ?_
          refine aw_istore_n (lv' := [_, _]) (pc' := 36) dX12_drill_35 rfl (Nat.le_of_ble_eq_true rfl) rfl ?_
          refine aw_iload_n (pc' := 37) dX12_drill_36 rfl rfl ?_
          refine aw_iconst (v := 3) (pc' := 38) dX12_drill_37 rfl (by decide) ?_
          refine aw_cge (tgt := 117) (pc' := 41) dX12_drill_38 (by decide) rfl (fun c => absurd (by decide) c) (fun _ => ?_)
          refine aw_aload_n (pc' := 42) dX12_drill_41 rfl rfl rfl ?_
          refine aw_get clsAll (pc' := 45) dX12_drill_42 rfl fl_RX12_72 (gss e2 hx.1) rfl ?_
          refine aw_iload_n (pc' := 46) dX12_drill_45 rfl rfl ?_
          refine aw_iald (v := (-1)) (pc' := 47) dX12_drill_46 rfl (gsn e2 (by decide) ((hx.2 79 (by decide) (by decide)).trans h0_79)) (vpc (by decide)) rfl ?_
          refine aw_zlt (tgt := 111) (pc' := 50) dX12_drill_47 (by decide) rfl (fun _ => ?_) (fun c => absurd (by decide) c)
          refine aw_iinc (lv' := [_, _]) (pc' := 114) dX12_drill_111 rfl rfl (Nat.le_of_ble_eq_true rfl) rfl ?_
          refine aw_goto (tgt := 36) dX12_drill_114 (by decide) ?_
          refine aw_iload_n (pc' := 37) dX12_drill_36 rfl rfl ?_
          refine aw_iconst (v := 3) (pc' := 38) dX12_drill_37 rfl (by decide) ?_
          refine aw_cge (tgt := 117) (pc' := 41) dX12_drill_38 (by decide) rfl (fun c => absurd (by decide) c) (fun _ => ?_)
          refine aw_aload_n (pc' := 42) dX12_drill_41 rfl rfl rfl ?_
          refine aw_get clsAll (pc' := 45) dX12_drill_42 rfl fl_RX12_72 (gss e2 hx.1) rfl ?_
          refine aw_iload_n (pc' := 46) dX12_drill_45 rfl rfl ?_
          refine aw_iald (v := (-1)) (pc' := 47) dX12_drill_46 rfl (gsn e2 (by decide) ((hx.2 79 (by decide) (by decide)).trans h0_79)) (vpc (by decide)) rfl ?_
          refine aw_zlt (tgt := 111) (pc' := 50) dX12_drill_47 (by decide) rfl (fun _ => ?_) (fun c => absurd (by decide) c)
          refine aw_iinc (lv' := [_, _]) (pc' := 114) dX12_drill_111 rfl rfl (Nat.le_of_ble_eq_true rfl) rfl ?_
          refine aw_goto (tgt := 36) dX12_drill_114 (by decide) ?_
          refine aw_iload_n (pc' := 37) dX12_drill_36 rfl rfl ?_
          refine aw_iconst (v := 3) (pc' := 38) dX12_drill_37 rfl (by decide) ?_
          refine aw_cge (tgt := 117) (pc' := 41) dX12_drill_38 (by decide) rfl (fun c => absurd (by decide) c) (fun _ => ?_)
          refine aw_aload_n (pc' := 42) dX12_drill_41 rfl rfl rfl ?_
          refine aw_get clsAll (pc' := 45) dX12_drill_42 rfl fl_RX12_72 (gss e2 hx.1) rfl ?_
          refine aw_iload_n (pc' := 46) dX12_drill_45 rfl rfl ?_
          refine aw_iald (v := (-1)) (pc' := 47) dX12_drill_46 rfl (gsn e2 (by decide) ((hx.2 79 (by decide) (by decide)).trans h0_79)) (vpc (by decide)) rfl ?_
          refine aw_zlt (tgt := 111) (pc' := 50) dX12_drill_47 (by decide) rfl (fun _ => ?_) (fun c => absurd (by decide) c)
          refine aw_iinc (lv' := [_, _]) (pc' := 114) dX12_drill_111 rfl rfl (Nat.le_of_ble_eq_true rfl) rfl ?_
          refine aw_goto (tgt := 36) dX12_drill_114 (by decide) ?_
          refine aw_iload_n (pc' := 37) dX12_drill_36 rfl rfl ?_
          refine aw_iconst (v := 3) (pc' := 38) dX12_drill_37 rfl (by decide) ?_
          refine aw_cge (tgt := 117) (pc' := 41) dX12_drill_38 (by decide) rfl (fun _ => ?_) (fun c => absurd c (by decide))
          refine aw_iconst (v := 0) (pc' := 118) dX12_drill_117 rfl (by decide) ?_
          refine aw_istore_n (lv' := [_, _]) (pc' := 119) dX12_drill_118 rfl (Nat.le_of_ble_eq_true rfl) rfl ?_
          refine aw_iload_n (pc' := 120) dX12_drill_119 rfl rfl ?_
          refine aw_aload_n (pc' := 121) dX12_drill_120 rfl rfl rfl ?_
          refine aw_get clsAll (pc' := 124) dX12_drill_121 rfl fl_RX12_242 (gss e2 hx.1) rfl ?_
          refine aw_cge (tgt := 153) (pc' := 127) dX12_drill_124 (by decide) rfl (fun _ => ?_) (fun c => absurd c (by decide))
          exact aw_rv dX12_drill_153 rfl (Nat.le_of_ble_eq_true rfl) (Nat.le_of_ble_eq_true rfl) (Or.inr ⟨c13, rfl⟩)
      refine aw_callVv (M' := mX12_drill) (nc' := 0) (ns' := 0) (pc' := 45) dX12_hours_42 rfl ml_RX12_415 kX12_drill cc3 (gss e2 hx.1) rfl rfl rfl (Nat.le_of_ble_eq_true rfl) (rok rfl) rfl rfl (fun h17 q17 => ?_)
      rcases q17 with ⟨c15, rfl⟩ | ⟨c16, rfl⟩
      · refine aw_aload_n (pc' := 46) dX12_hours_45 rfl rfl rfl ?_
        have cc18 : AM mX12_comeDown 0 [.ref 67] h2 0 0 (PV fun h' => (∃ h20 : List aE, h2.set 59 (.inr (12, [.int 0, .int ((nI i) + 1), .ref 68, .ref 69, .int 0, .ref 70, .ref 71, .ref 72, .ref 73, .ref 74, .ref 75, .ref 76, .ref 77, .ref 78, .ref 79, .ref 80, .ref 81, .ref 82, .ref 83, .ref 84, .ref 85, .int (-1), .int 0, .int 0, .int 0, .int 0, .ref 86, .ref 87, .ref 88, .int 2, .int 0, .ref 89, .ref 90, .ref 91, .ref 92, .ref 93, .ref 94, .int 0, .int 0, .ref 95, .ref 96, .ref 97, .ref 98, .ref 99, .ref 100, .ref 101, .ref 102, .int 0, .int 0, .int 0, .int 0, .int 0, .ref 103, .ref 104, .int 0, .int 0, .int 0, .ref 105, .ref 106, .ref 107, .ref 108, .ref 109, .int 0, .ref 110, .ref 111, .ref 112, .ref 113, .int 0, .ref 114, .ref 115, .ref 116, .ref 117, .int (-1), .ref 118, .int (-1), .ref 119, .int 0, .ref 120, .ref 121, .int 0, .ref 122, .ref 123, .int (-1), .int 0, .ref 124, .ref 125, .ref 126, .int 0, .ref 127, .ref 128, .ref 129, .ref 130, .ref 131, .ref 132, .ref 133])) = h20 ∧ h20 = h')) := by
          refine am_of (lv := [some (.ref 67), none, none]) rfl (Nat.le_of_ble_eq_true rfl) rfl ?_
          refine aw_iconst (v := 0) (pc' := 1) dX12_comeDown_0 rfl (by decide) ?_
          refine aw_istore_n (lv' := [_, _, _]) (pc' := 2) dX12_comeDown_1 rfl (Nat.le_of_ble_eq_true rfl) rfl ?_
          refine aw_iconst (v := 0) (pc' := 3) dX12_comeDown_2 rfl (by decide) ?_
          refine aw_istore_n (lv' := [_, _, _]) (pc' := 4) dX12_comeDown_3 rfl (Nat.le_of_ble_eq_true rfl) rfl ?_
          refine aw_iload_n (pc' := 5) dX12_comeDown_4 rfl rfl ?_
          refine aw_aload_n (pc' := 6) dX12_comeDown_5 rfl rfl rfl ?_
          refine aw_get clsAll (pc' := 9) dX12_comeDown_6 rfl fl_RX12_428 (gss e2 hx.1) rfl ?_
          refine aw_cge (tgt := 112) (pc' := 12) dX12_comeDown_9 (by decide) rfl (fun _ => ?_) (fun c => absurd c (by decide))
          refine aw_aload_n (pc' := 113) dX12_comeDown_112 rfl rfl rfl ?_
          refine aw_iload_n (pc' := 114) dX12_comeDown_113 rfl rfl ?_
          refine aw_putG clsAll (pc' := 117) dX12_comeDown_114 rfl fl_RX12_428 (gss e2 hx.1) (Nat.le_of_ble_eq_true rfl) rfl (fun h19 e19 => ?_)
          exact aw_rv dX12_comeDown_117 rfl (Nat.le_of_ble_eq_true rfl) (Nat.le_of_ble_eq_true rfl) ⟨h19, e19, rfl⟩
        refine aw_callVv (M' := mX12_comeDown) (nc' := 0) (ns' := 0) (pc' := 49) dX12_hours_46 rfl ml_RX12_418 kX12_comeDown cc18 (gss e2 hx.1) rfl rfl rfl (Nat.le_of_ble_eq_true rfl) (rok rfl) rfl rfl (fun h21 q21 => ?_)
        obtain ⟨h20, e20, rfl⟩ := q21
        refine aw_aload_n (pc' := 50) dX12_hours_49 rfl rfl rfl ?_
        refine aw_get clsAll (pc' := 53) dX12_hours_50 rfl fl_RX12_281 (gss e20 (gss e2 hx.1)) rfl ?_
        refine aw_bipush (v := 24) (pc' := 55) dX12_hours_53 rfl (by decide) ?_
        refine aw_irem (pc' := 56) dX12_hours_55 rfl (by decide) ?_
        refine aw_if_ne (tgt := 63) (pc' := 59) dX12_hours_56 (by decide) rfl (fun c22 => ?_) (fun c22 => ?_)
        · refine aw_iconst (v := 0) (pc' := 64) dX12_hours_63 rfl (by decide) ?_
          refine aw_istore_n (lv' := [_, _, _, _, _]) (pc' := 65) dX12_hours_64 rfl (Nat.le_of_ble_eq_true rfl) rfl ?_
          refine aw_iload_n (pc' := 66) dX12_hours_65 rfl rfl ?_
          refine aw_aload_n (pc' := 67) dX12_hours_66 rfl rfl rfl ?_
          refine aw_get clsAll (pc' := 70) dX12_hours_67 rfl fl_RX12_406 (gss e20 (gss e2 hx.1)) rfl ?_
          refine aw_cge (tgt := 174) (pc' := 73) dX12_hours_70 (by decide) rfl (fun _ => ?_) (fun c => absurd c (by decide))
          refine aw_iinc (lv' := [_, _, _, _, _]) (pc' := 177) dX12_hours_174 rfl rfl (Nat.le_of_ble_eq_true rfl) rfl ?_
          refine aw_goto (tgt := 26) dX12_hours_177 (by decide) ?_
          have hc2 : i < N := (nI_ltI (by omega) (by omega)).mp c1
          refine AW.lv_le (lv' := [some (.ref 67), some (.int (nI N)), some (.int (nI (i + 1))), none, none]) ?_ ?_
          · rw [show nI (i + 1) = nI i + Int32.ofInt 1 from (nI_1 i).symm]; exact lv_drop3
          · exact ih (i + 1) (by omega) (by omega) _ (by rw [← nI_1]; exact (fm_setv (v := ((nI i) + 1)) e20 (fm_setv (v := ((nI i) + 1)) e2 hx))) 
        · refine aw_aload_n (pc' := 60) dX12_hours_59 rfl rfl rfl ?_
          have cc23 : AM mX12_eat 0 [.ref 67] h20 0 0 (PV fun h' => (h20 = h')) := by
            refine am_of (lv := [some (.ref 67), none, none]) rfl (Nat.le_of_ble_eq_true rfl) rfl ?_
            refine aw_iconst (v := 0) (pc' := 1) dX12_eat_0 rfl (by decide) ?_
            refine aw_istore_n (lv' := [_, _, _]) (pc' := 2) dX12_eat_1 rfl (Nat.le_of_ble_eq_true rfl) rfl ?_
            refine aw_iload_n (pc' := 3) dX12_eat_2 rfl rfl ?_
            refine aw_aload_n (pc' := 4) dX12_eat_3 rfl rfl rfl ?_
            refine aw_get clsAll (pc' := 7) dX12_eat_4 rfl fl_RX12_242 (gss e20 (gss e2 hx.1)) rfl ?_
            refine aw_cge (tgt := 106) (pc' := 10) dX12_eat_7 (by decide) rfl (fun _ => ?_) (fun c => absurd c (by decide))
            exact aw_rv dX12_eat_106 rfl (Nat.le_of_ble_eq_true rfl) (Nat.le_of_ble_eq_true rfl) rfl
          refine aw_callVv (M' := mX12_eat) (nc' := 0) (ns' := 0) (pc' := 63) dX12_hours_60 rfl ml_RX12_421 kX12_eat cc23 (gss e20 (gss e2 hx.1)) rfl rfl rfl (Nat.le_of_ble_eq_true rfl) (rok rfl) rfl rfl (fun h24 q24 => ?_)
          obtain rfl := q24
          refine aw_iconst (v := 0) (pc' := 64) dX12_hours_63 rfl (by decide) ?_
          refine aw_istore_n (lv' := [_, _, _, _, _]) (pc' := 65) dX12_hours_64 rfl (Nat.le_of_ble_eq_true rfl) rfl ?_
          refine aw_iload_n (pc' := 66) dX12_hours_65 rfl rfl ?_
          refine aw_aload_n (pc' := 67) dX12_hours_66 rfl rfl rfl ?_
          refine aw_get clsAll (pc' := 70) dX12_hours_67 rfl fl_RX12_406 (gss e20 (gss e2 hx.1)) rfl ?_
          refine aw_cge (tgt := 174) (pc' := 73) dX12_hours_70 (by decide) rfl (fun _ => ?_) (fun c => absurd c (by decide))
          refine aw_iinc (lv' := [_, _, _, _, _]) (pc' := 177) dX12_hours_174 rfl rfl (Nat.le_of_ble_eq_true rfl) rfl ?_
          refine aw_goto (tgt := 26) dX12_hours_177 (by decide) ?_
          have hc3 : i < N := (nI_ltI (by omega) (by omega)).mp c1
          refine AW.lv_le (lv' := [some (.ref 67), some (.int (nI N)), some (.int (nI (i + 1))), none, none]) ?_ ?_
          · rw [show nI (i + 1) = nI i + Int32.ofInt 1 from (nI_1 i).symm]; exact lv_drop3
          · exact ih (i + 1) (by omega) (by omega) _ (by rw [← nI_1]; exact (fm_setv (v := ((nI i) + 1)) e20 (fm_setv (v := ((nI i) + 1)) e2 hx))) 
      · refine aw_aload_n (pc' := 46) dX12_hours_45 rfl rfl rfl ?_
        have cc25 : AM mX12_comeDown 0 [.ref 67] h2 0 0 (PV fun h' => (∃ h27 : List aE, h2.set 59 (.inr (12, [.int 0, .int ((nI i) + 1), .ref 68, .ref 69, .int 0, .ref 70, .ref 71, .ref 72, .ref 73, .ref 74, .ref 75, .ref 76, .ref 77, .ref 78, .ref 79, .ref 80, .ref 81, .ref 82, .ref 83, .ref 84, .ref 85, .int (-1), .int 0, .int 0, .int 0, .int 0, .ref 86, .ref 87, .ref 88, .int 2, .int 0, .ref 89, .ref 90, .ref 91, .ref 92, .ref 93, .ref 94, .int 0, .int 0, .ref 95, .ref 96, .ref 97, .ref 98, .ref 99, .ref 100, .ref 101, .ref 102, .int 0, .int 0, .int 0, .int 0, .int 0, .ref 103, .ref 104, .int 0, .int 0, .int 0, .ref 105, .ref 106, .ref 107, .ref 108, .ref 109, .int 0, .ref 110, .ref 111, .ref 112, .ref 113, .int 0, .ref 114, .ref 115, .ref 116, .ref 117, .int (-1), .ref 118, .int (-1), .ref 119, .int 0, .ref 120, .ref 121, .int 0, .ref 122, .ref 123, .int (-1), .int 0, .ref 124, .ref 125, .ref 126, .int 0, .ref 127, .ref 128, .ref 129, .ref 130, .ref 131, .ref 132, .ref 133])) = h27 ∧ h27 = h')) := by
          refine am_of (lv := [some (.ref 67), none, none]) rfl (Nat.le_of_ble_eq_true rfl) rfl ?_
          refine aw_iconst (v := 0) (pc' := 1) dX12_comeDown_0 rfl (by decide) ?_
          refine aw_istore_n (lv' := [_, _, _]) (pc' := 2) dX12_comeDown_1 rfl (Nat.le_of_ble_eq_true rfl) rfl ?_
          refine aw_iconst (v := 0) (pc' := 3) dX12_comeDown_2 rfl (by decide) ?_
          refine aw_istore_n (lv' := [_, _, _]) (pc' := 4) dX12_comeDown_3 rfl (Nat.le_of_ble_eq_true rfl) rfl ?_
          refine aw_iload_n (pc' := 5) dX12_comeDown_4 rfl rfl ?_
          refine aw_aload_n (pc' := 6) dX12_comeDown_5 rfl rfl rfl ?_
          refine aw_get clsAll (pc' := 9) dX12_comeDown_6 rfl fl_RX12_428 (gss e2 hx.1) rfl ?_
          refine aw_cge (tgt := 112) (pc' := 12) dX12_comeDown_9 (by decide) rfl (fun _ => ?_) (fun c => absurd c (by decide))
          refine aw_aload_n (pc' := 113) dX12_comeDown_112 rfl rfl rfl ?_
          refine aw_iload_n (pc' := 114) dX12_comeDown_113 rfl rfl ?_
          refine aw_putG clsAll (pc' := 117) dX12_comeDown_114 rfl fl_RX12_428 (gss e2 hx.1) (Nat.le_of_ble_eq_true rfl) rfl (fun h26 e26 => ?_)
          exact aw_rv dX12_comeDown_117 rfl (Nat.le_of_ble_eq_true rfl) (Nat.le_of_ble_eq_true rfl) ⟨h26, e26, rfl⟩
        refine aw_callVv (M' := mX12_comeDown) (nc' := 0) (ns' := 0) (pc' := 49) dX12_hours_46 rfl ml_RX12_418 kX12_comeDown cc25 (gss e2 hx.1) rfl rfl rfl (Nat.le_of_ble_eq_true rfl) (rok rfl) rfl rfl (fun h28 q28 => ?_)
        obtain ⟨h27, e27, rfl⟩ := q28
        refine aw_aload_n (pc' := 50) dX12_hours_49 rfl rfl rfl ?_
        refine aw_get clsAll (pc' := 53) dX12_hours_50 rfl fl_RX12_281 (gss e27 (gss e2 hx.1)) rfl ?_
        refine aw_bipush (v := 24) (pc' := 55) dX12_hours_53 rfl (by decide) ?_
        refine aw_irem (pc' := 56) dX12_hours_55 rfl (by decide) ?_
        refine aw_if_ne (tgt := 63) (pc' := 59) dX12_hours_56 (by decide) rfl (fun c29 => ?_) (fun c29 => ?_)
        · refine aw_iconst (v := 0) (pc' := 64) dX12_hours_63 rfl (by decide) ?_
          refine aw_istore_n (lv' := [_, _, _, _, _]) (pc' := 65) dX12_hours_64 rfl (Nat.le_of_ble_eq_true rfl) rfl ?_
          refine aw_iload_n (pc' := 66) dX12_hours_65 rfl rfl ?_
          refine aw_aload_n (pc' := 67) dX12_hours_66 rfl rfl rfl ?_
          refine aw_get clsAll (pc' := 70) dX12_hours_67 rfl fl_RX12_406 (gss e27 (gss e2 hx.1)) rfl ?_
          refine aw_cge (tgt := 174) (pc' := 73) dX12_hours_70 (by decide) rfl (fun _ => ?_) (fun c => absurd c (by decide))
          refine aw_iinc (lv' := [_, _, _, _, _]) (pc' := 177) dX12_hours_174 rfl rfl (Nat.le_of_ble_eq_true rfl) rfl ?_
          refine aw_goto (tgt := 26) dX12_hours_177 (by decide) ?_
          have hc4 : i < N := (nI_ltI (by omega) (by omega)).mp c1
          refine AW.lv_le (lv' := [some (.ref 67), some (.int (nI N)), some (.int (nI (i + 1))), none, none]) ?_ ?_
          · rw [show nI (i + 1) = nI i + Int32.ofInt 1 from (nI_1 i).symm]; exact lv_drop3
          · exact ih (i + 1) (by omega) (by omega) _ (by rw [← nI_1]; exact (fm_setv (v := ((nI i) + 1)) e27 (fm_setv (v := ((nI i) + 1)) e2 hx))) 
        · refine aw_aload_n (pc' := 60) dX12_hours_59 rfl rfl rfl ?_
          have cc30 : AM mX12_eat 0 [.ref 67] h27 0 0 (PV fun h' => (h27 = h')) := by
            refine am_of (lv := [some (.ref 67), none, none]) rfl (Nat.le_of_ble_eq_true rfl) rfl ?_
            refine aw_iconst (v := 0) (pc' := 1) dX12_eat_0 rfl (by decide) ?_
            refine aw_istore_n (lv' := [_, _, _]) (pc' := 2) dX12_eat_1 rfl (Nat.le_of_ble_eq_true rfl) rfl ?_
            refine aw_iload_n (pc' := 3) dX12_eat_2 rfl rfl ?_
            refine aw_aload_n (pc' := 4) dX12_eat_3 rfl rfl rfl ?_
            refine aw_get clsAll (pc' := 7) dX12_eat_4 rfl fl_RX12_242 (gss e27 (gss e2 hx.1)) rfl ?_
            refine aw_cge (tgt := 106) (pc' := 10) dX12_eat_7 (by decide) rfl (fun _ => ?_) (fun c => absurd c (by decide))
            exact aw_rv dX12_eat_106 rfl (Nat.le_of_ble_eq_true rfl) (Nat.le_of_ble_eq_true rfl) rfl
          refine aw_callVv (M' := mX12_eat) (nc' := 0) (ns' := 0) (pc' := 63) dX12_hours_60 rfl ml_RX12_421 kX12_eat cc30 (gss e27 (gss e2 hx.1)) rfl rfl rfl (Nat.le_of_ble_eq_true rfl) (rok rfl) rfl rfl (fun h31 q31 => ?_)
          obtain rfl := q31
          refine aw_iconst (v := 0) (pc' := 64) dX12_hours_63 rfl (by decide) ?_
          refine aw_istore_n (lv' := [_, _, _, _, _]) (pc' := 65) dX12_hours_64 rfl (Nat.le_of_ble_eq_true rfl) rfl ?_
          refine aw_iload_n (pc' := 66) dX12_hours_65 rfl rfl ?_
          refine aw_aload_n (pc' := 67) dX12_hours_66 rfl rfl rfl ?_
          refine aw_get clsAll (pc' := 70) dX12_hours_67 rfl fl_RX12_406 (gss e27 (gss e2 hx.1)) rfl ?_
          refine aw_cge (tgt := 174) (pc' := 73) dX12_hours_70 (by decide) rfl (fun _ => ?_) (fun c => absurd c (by decide))
          refine aw_iinc (lv' := [_, _, _, _, _]) (pc' := 177) dX12_hours_174 rfl rfl (Nat.le_of_ble_eq_true rfl) rfl ?_
          refine aw_goto (tgt := 26) dX12_hours_177 (by decide) ?_
          have hc5 : i < N := (nI_ltI (by omega) (by omega)).mp c1
          refine AW.lv_le (lv' := [some (.ref 67), some (.int (nI N)), some (.int (nI (i + 1))), none, none]) ?_ ?_
          · rw [show nI (i + 1) = nI i + Int32.ofInt 1 from (nI_1 i).symm]; exact lv_drop3
          · exact ih (i + 1) (by omega) (by omega) _ (by rw [← nI_1]; exact (fm_setv (v := ((nI i) + 1)) e27 (fm_setv (v := ((nI i) + 1)) e2 hx))) 
set_option maxRecDepth 4000 in
theorem m_hours (h : List aE) (hm : Fm 0 h) (n : Int32) : AM mX12_hours 4 [.ref 67, .int n] h 0 0 (PI fun r h' => r = sp_hours n) := by
  refine am_of (lv := [some (.ref 67), some (.int n), none, none, none]) rfl (Nat.le_of_ble_eq_true rfl) rfl ?_
  refine aw_iload_n (pc' := 1) dX12_hours_0 rfl rfl ?_
  refine aw_iconst (v := 1) (pc' := 2) dX12_hours_1 rfl (by decide) ?_
  refine aw_bipush (v := 48) (pc' := 4) dX12_hours_2 rfl (by decide) ?_
  have cc1 : AM mX12_in 0 [.int n, .int 1, .int 48] h 0 0 (PI fun r h' => (n < 1 ∧ 0 = r ∧ h = h') ∨ (¬ (n < 1) ∧ 48 < n ∧ 0 = r ∧ h = h') ∨ (¬ (n < 1) ∧ ¬ (48 < n) ∧ 1 = r ∧ h = h')) := by
    refine am_of (lv := [some (.int n), some (.int 1), some (.int 48)]) rfl (Nat.le_of_ble_eq_true rfl) rfl ?_
    refine aw_iload_n (pc' := 1) dX12_in_0 rfl rfl ?_
    refine aw_iload_n (pc' := 2) dX12_in_1 rfl rfl ?_
    refine aw_clt (tgt := 14) (pc' := 5) dX12_in_2 (by decide) rfl (fun c2 => ?_) (fun c2 => ?_)
    · refine aw_iconst (v := 0) (pc' := 15) dX12_in_14 rfl (by decide) ?_
      exact aw_ri dX12_in_15 rfl (by decide) (Nat.le_of_ble_eq_true rfl) (Nat.le_of_ble_eq_true rfl) (Or.inl ⟨c2, rfl, rfl⟩)
    · refine aw_iload_n (pc' := 6) dX12_in_5 rfl rfl ?_
      refine aw_iload_n (pc' := 7) dX12_in_6 rfl rfl ?_
      refine aw_cgt (tgt := 14) (pc' := 10) dX12_in_7 (by decide) rfl (fun c3 => ?_) (fun c3 => ?_)
      · refine aw_iconst (v := 0) (pc' := 15) dX12_in_14 rfl (by decide) ?_
        exact aw_ri dX12_in_15 rfl (by decide) (Nat.le_of_ble_eq_true rfl) (Nat.le_of_ble_eq_true rfl) (Or.inr (Or.inl ⟨c2, c3, rfl, rfl⟩))
      · refine aw_iconst (v := 1) (pc' := 11) dX12_in_10 rfl (by decide) ?_
        refine aw_goto (tgt := 15) dX12_in_11 (by decide) ?_
        exact aw_ri dX12_in_15 rfl (by decide) (Nat.le_of_ble_eq_true rfl) (Nat.le_of_ble_eq_true rfl) (Or.inr (Or.inr ⟨c2, c3, rfl, rfl⟩))
  refine aw_callSi (M' := mX12_in) (nc' := 0) (ns' := 0) (pc' := 7) dX12_hours_4 rfl ml_RX12_230 kX12_in cc1 rfl rfl (Nat.le_of_ble_eq_true rfl) (rok rfl) rfl rfl (fun r9 h9 q9 => ?_)
  rcases q9 with ⟨c4, rfl, rfl⟩ | ⟨c5, c6, rfl, rfl⟩ | ⟨c7, c8, rfl, rfl⟩
  · refine aw_if_eq (tgt := 22) (pc' := 10) dX12_hours_7 (by decide) rfl (fun _ => ?_) (fun c => absurd (by decide) c)
    refine aw_iconst (v := (-1)) (pc' := 23) dX12_hours_22 rfl (by decide) ?_
    exact aw_ri dX12_hours_23 rfl rfl (Nat.le_of_ble_eq_true rfl) (Nat.le_of_ble_eq_true rfl) (by first | (simp [sp_hours, cnd, okC, okS, okW_iff, okN_iff, inR, c4]; done) | (simp_all [sp_hours, cnd, okC, okS, okW_iff, okN_iff, inR]; done) | skip)
  · refine aw_if_eq (tgt := 22) (pc' := 10) dX12_hours_7 (by decide) rfl (fun _ => ?_) (fun c => absurd (by decide) c)
    refine aw_iconst (v := (-1)) (pc' := 23) dX12_hours_22 rfl (by decide) ?_
    exact aw_ri dX12_hours_23 rfl rfl (Nat.le_of_ble_eq_true rfl) (Nat.le_of_ble_eq_true rfl) (by first | (simp [sp_hours, cnd, okC, okS, okW_iff, okN_iff, inR, c5, c6]; done) | (simp_all [sp_hours, cnd, okC, okS, okW_iff, okN_iff, inR]; done) | skip)
  · refine aw_if_eq (tgt := 22) (pc' := 10) dX12_hours_7 (by decide) rfl (fun c => absurd c (by decide)) (fun _ => ?_)
    refine aw_aload_n (pc' := 11) dX12_hours_10 rfl rfl rfl ?_
    refine aw_get clsAll (pc' := 14) dX12_hours_11 rfl fl_RX12_281 hm.1 rfl ?_
    refine aw_iload_n (pc' := 15) dX12_hours_14 rfl rfl ?_
    refine aw_iadd (pc' := 16) dX12_hours_15 rfl ?_
    refine aw_topi (v := n) (Int32.zero_add _) ?_
    refine aw_sipush (v := 1699) (pc' := 19) dX12_hours_16 rfl (by decide) ?_
    refine aw_cle (tgt := 24) (pc' := 22) dX12_hours_19 (by decide) rfl (fun _ => ?_) (fun c => absurd c (bf2 c8 (by decide)))
    refine aw_iconst (v := 0) (pc' := 25) dX12_hours_24 rfl (by decide) ?_
    refine aw_istore_n (lv' := [_, _, _, _, _]) (pc' := 26) dX12_hours_25 rfl (Nat.le_of_ble_eq_true rfl) rfl ?_
    obtain ⟨N, hN1, hN, rfl⟩ := n48_ c7 c8
    exact mh_loop N hN1 hN (N + 1) 0 (by omega) (by omega) h hm
set_option maxRecDepth 4000 in
theorem mr_loop (a : Nat) (ha : a ≤ 5) (t n : Int32) (hsp : sp_row (nI a) t n = 1) : ∀ (k j : Nat), j ≤ 60 → 60 - j < k → ∀ (h : List aE), h[59]? = some (oM 0) → h[122]? = some (.inl (3, 360, .inr (.inl (fun _ => 0)))) → h[123]? = some (.inl (1, 360, .inl (fun _ => 0))) → AW mX12_row (rmD 2 0 0) (fin (PI fun r h' => r = sp_row (nI a) t n) 0 0) 54 [some (.ref 67), some (.int (nI a)), some (.int t), some (.int n), some (.int (nI (60 * a + j)))] [] h 0 0 := by
  intro k
  induction k with
  | zero => intro j h1 h2; omega
  | succ k ih =>
    intro j hj hk h hm hE hB
    have e1 : (60 : Int32) * nI a = nI (60 * a) := pk_mul 60 a
    have e2 : nI (60 * a) + 60 = nI (60 * a + 60) := nI_add (60 * a) 60
    refine aw_iload (pc' := 56) dX12_row_54 rfl rfl ?_
    refine aw_bipush (v := 60) (pc' := 58) dX12_row_56 rfl (by decide) ?_
    refine aw_iload_n (pc' := 59) dX12_row_58 rfl rfl ?_
    refine aw_imul (pc' := 60) dX12_row_59 rfl ?_
    refine aw_bipush (v := 60) (pc' := 62) dX12_row_60 rfl (by decide) ?_
    refine aw_iadd (pc' := 63) dX12_row_62 rfl ?_
    refine aw_topi (v := nI (60 * a + 60)) (by rw [e1, e2]) ?_
    refine aw_cge (tgt := 88) (pc' := 66) dX12_row_63 (by decide) rfl (fun c => ?_) (fun c => ?_)
    · refine aw_iconst (v := 1) (pc' := 89) dX12_row_88 rfl (by decide) ?_
      exact aw_ri dX12_row_89 rfl rfl (Nat.le_refl _) (Nat.le_refl _) hsp.symm
    · have hlt : j < 60 := by
        have := (nI_ltI (by omega) (by omega)).mp c
        omega
      refine aw_aload_n (pc' := 67) dX12_row_66 rfl rfl rfl ?_
      refine aw_get clsAll (pc' := 70) dX12_row_67 rfl fl_RX12_214 hm rfl ?_
      refine aw_iload (pc' := 72) dX12_row_70 rfl rfl ?_
      refine aw_lconst (v := 0) (pc' := 73) dX12_row_72 rfl (by decide) ?_
      refine aw_last (pc' := 74) (h' := h) dX12_row_73 rfl hE (nI_in (by omega) (by omega)) ?_ ?_
      · apply List.ext_getElem?
        intro i
        by_cases hi : 122 = i
        · subst hi; rw [List.getElem?_set_self (List.getElem?_eq_some_iff.mp hE).1, hE]; congr; funext z; simp [vp_updL]
        · rw [List.getElem?_set_ne hi]
      refine aw_aload_n (pc' := 75) dX12_row_74 rfl rfl rfl ?_
      refine aw_get clsAll (pc' := 78) dX12_row_75 rfl fl_RX12_218 hm rfl ?_
      refine aw_iload (pc' := 80) dX12_row_78 rfl rfl ?_
      refine aw_iconst (v := 0) (pc' := 81) dX12_row_80 rfl (by decide) ?_
      refine aw_zast (pc' := 82) (h' := h) dX12_row_81 rfl hB (nI_in (by omega) (by omega)) (by decide) ?_ ?_
      · apply List.ext_getElem?
        intro i
        by_cases hi : 123 = i
        · subst hi; rw [List.getElem?_set_self (List.getElem?_eq_some_iff.mp hB).1, hB]; congr; funext z; simp [upd]
        · rw [List.getElem?_set_ne hi]
      refine aw_iinc (lv' := [_, _, _, _, _]) (pc' := 85) dX12_row_82 rfl rfl (Nat.le_of_ble_eq_true rfl) rfl ?_
      refine aw_goto (tgt := 54) dX12_row_85 (by decide) ?_
      rw [show nI (60 * a + j) + Int32.ofInt 1 = nI (60 * a + (j + 1)) from nI_1 (60 * a + j)]
      exact ih (j + 1) (by omega) (by omega) h hm hE hB
set_option maxRecDepth 4000 in
theorem m_row (h : List aE) (hm : Fm 0 h) (s : Int32) (t : Int32) (n : Int32) : AM mX12_row 2 [.ref 67, .int s, .int t, .int n] h 0 0 (PI fun r h' => r = sp_row s t n) := by
  refine am_of (lv := [some (.ref 67), some (.int s), some (.int t), some (.int n), none]) rfl (Nat.le_of_ble_eq_true rfl) rfl ?_
  refine aw_iload_n (pc' := 1) dX12_row_0 rfl rfl ?_
  have cc1 : AM mX12_isShelf 1 [.int s] h 0 0 (PI fun r h' => (s < 0 ∧ 0 = r ∧ h = h') ∨ (¬ (s < 0) ∧ 5 < s ∧ 0 = r ∧ h = h') ∨ (¬ (s < 0) ∧ ¬ (5 < s) ∧ 1 = r ∧ h = h')) := by
    refine am_of (lv := [some (.int s)]) rfl (Nat.le_of_ble_eq_true rfl) rfl ?_
    refine aw_iload_n (pc' := 1) dX12_isShelf_0 rfl rfl ?_
    refine aw_iconst (v := 0) (pc' := 2) dX12_isShelf_1 rfl (by decide) ?_
    refine aw_iconst (v := 5) (pc' := 3) dX12_isShelf_2 rfl (by decide) ?_
    have cc2 : AM mX12_in 0 [.int s, .int 0, .int 5] h 0 0 (PI fun r h' => (s < 0 ∧ 0 = r ∧ h = h') ∨ (¬ (s < 0) ∧ 5 < s ∧ 0 = r ∧ h = h') ∨ (¬ (s < 0) ∧ ¬ (5 < s) ∧ 1 = r ∧ h = h')) := by
      refine am_of (lv := [some (.int s), some (.int 0), some (.int 5)]) rfl (Nat.le_of_ble_eq_true rfl) rfl ?_
      refine aw_iload_n (pc' := 1) dX12_in_0 rfl rfl ?_
      refine aw_iload_n (pc' := 2) dX12_in_1 rfl rfl ?_
      refine aw_clt (tgt := 14) (pc' := 5) dX12_in_2 (by decide) rfl (fun c3 => ?_) (fun c3 => ?_)
      · refine aw_iconst (v := 0) (pc' := 15) dX12_in_14 rfl (by decide) ?_
        exact aw_ri dX12_in_15 rfl (by decide) (Nat.le_of_ble_eq_true rfl) (Nat.le_of_ble_eq_true rfl) (Or.inl ⟨c3, rfl, rfl⟩)
      · refine aw_iload_n (pc' := 6) dX12_in_5 rfl rfl ?_
        refine aw_iload_n (pc' := 7) dX12_in_6 rfl rfl ?_
        refine aw_cgt (tgt := 14) (pc' := 10) dX12_in_7 (by decide) rfl (fun c4 => ?_) (fun c4 => ?_)
        · refine aw_iconst (v := 0) (pc' := 15) dX12_in_14 rfl (by decide) ?_
          exact aw_ri dX12_in_15 rfl (by decide) (Nat.le_of_ble_eq_true rfl) (Nat.le_of_ble_eq_true rfl) (Or.inr (Or.inl ⟨c3, c4, rfl, rfl⟩))
        · refine aw_iconst (v := 1) (pc' := 11) dX12_in_10 rfl (by decide) ?_
          refine aw_goto (tgt := 15) dX12_in_11 (by decide) ?_
          exact aw_ri dX12_in_15 rfl (by decide) (Nat.le_of_ble_eq_true rfl) (Nat.le_of_ble_eq_true rfl) (Or.inr (Or.inr ⟨c3, c4, rfl, rfl⟩))
    refine aw_callSi (M' := mX12_in) (nc' := 0) (ns' := 0) (pc' := 6) dX12_isShelf_3 rfl ml_RX12_230 kX12_in cc2 rfl rfl (Nat.le_of_ble_eq_true rfl) (rok rfl) rfl rfl (fun r10 h10 q10 => ?_)
    rcases q10 with ⟨c5, rfl, rfl⟩ | ⟨c6, c7, rfl, rfl⟩ | ⟨c8, c9, rfl, rfl⟩
    · exact aw_ri dX12_isShelf_6 rfl (by decide) (Nat.le_of_ble_eq_true rfl) (Nat.le_of_ble_eq_true rfl) (Or.inl ⟨c5, rfl, rfl⟩)
    · exact aw_ri dX12_isShelf_6 rfl (by decide) (Nat.le_of_ble_eq_true rfl) (Nat.le_of_ble_eq_true rfl) (Or.inr (Or.inl ⟨c6, c7, rfl, rfl⟩))
    · exact aw_ri dX12_isShelf_6 rfl (by decide) (Nat.le_of_ble_eq_true rfl) (Nat.le_of_ble_eq_true rfl) (Or.inr (Or.inr ⟨c8, c9, rfl, rfl⟩))
  refine aw_callSi (M' := mX12_isShelf) (nc' := 0) (ns' := 0) (pc' := 4) dX12_row_1 rfl ml_RX12_288 kX12_isShelf cc1 rfl rfl (Nat.le_of_ble_eq_true rfl) (rok rfl) rfl rfl (fun r16 h16 q16 => ?_)
  rcases q16 with ⟨c11, rfl, rfl⟩ | ⟨c12, c13, rfl, rfl⟩ | ⟨c14, c15, rfl, rfl⟩
  · refine aw_if_eq (tgt := 22) (pc' := 7) dX12_row_4 (by decide) rfl (fun _ => ?_) (fun c => absurd (by decide) c)
    refine aw_iconst (v := (-1)) (pc' := 23) dX12_row_22 rfl (by decide) ?_
    exact aw_ri dX12_row_23 rfl rfl (Nat.le_of_ble_eq_true rfl) (Nat.le_of_ble_eq_true rfl) (by first | (simp [sp_row, cnd, okC, okS, okW_iff, okN_iff, inR, c11]; done) | (simp_all [sp_row, cnd, okC, okS, okW_iff, okN_iff, inR]; done) | skip)
  · refine aw_if_eq (tgt := 22) (pc' := 7) dX12_row_4 (by decide) rfl (fun _ => ?_) (fun c => absurd (by decide) c)
    refine aw_iconst (v := (-1)) (pc' := 23) dX12_row_22 rfl (by decide) ?_
    exact aw_ri dX12_row_23 rfl rfl (Nat.le_of_ble_eq_true rfl) (Nat.le_of_ble_eq_true rfl) (by first | (simp [sp_row, cnd, okC, okS, okW_iff, okN_iff, inR, c12, c13]; done) | (simp_all [sp_row, cnd, okC, okS, okW_iff, okN_iff, inR]; done) | skip)
  · refine aw_if_eq (tgt := 22) (pc' := 7) dX12_row_4 (by decide) rfl (fun c => absurd c (by decide)) (fun _ => ?_)
    refine aw_iload_n (pc' := 8) dX12_row_7 rfl rfl ?_
    refine aw_iconst (v := 0) (pc' := 9) dX12_row_8 rfl (by decide) ?_
    refine aw_iconst (v := 4) (pc' := 10) dX12_row_9 rfl (by decide) ?_
    have cc17 : AM mX12_in 0 [.int t, .int 0, .int 4] h 0 0 (PI fun r h' => (t < 0 ∧ 0 = r ∧ h = h') ∨ (¬ (t < 0) ∧ 4 < t ∧ 0 = r ∧ h = h') ∨ (¬ (t < 0) ∧ ¬ (4 < t) ∧ 1 = r ∧ h = h')) := by
      refine am_of (lv := [some (.int t), some (.int 0), some (.int 4)]) rfl (Nat.le_of_ble_eq_true rfl) rfl ?_
      refine aw_iload_n (pc' := 1) dX12_in_0 rfl rfl ?_
      refine aw_iload_n (pc' := 2) dX12_in_1 rfl rfl ?_
      refine aw_clt (tgt := 14) (pc' := 5) dX12_in_2 (by decide) rfl (fun c18 => ?_) (fun c18 => ?_)
      · refine aw_iconst (v := 0) (pc' := 15) dX12_in_14 rfl (by decide) ?_
        exact aw_ri dX12_in_15 rfl (by decide) (Nat.le_of_ble_eq_true rfl) (Nat.le_of_ble_eq_true rfl) (Or.inl ⟨c18, rfl, rfl⟩)
      · refine aw_iload_n (pc' := 6) dX12_in_5 rfl rfl ?_
        refine aw_iload_n (pc' := 7) dX12_in_6 rfl rfl ?_
        refine aw_cgt (tgt := 14) (pc' := 10) dX12_in_7 (by decide) rfl (fun c19 => ?_) (fun c19 => ?_)
        · refine aw_iconst (v := 0) (pc' := 15) dX12_in_14 rfl (by decide) ?_
          exact aw_ri dX12_in_15 rfl (by decide) (Nat.le_of_ble_eq_true rfl) (Nat.le_of_ble_eq_true rfl) (Or.inr (Or.inl ⟨c18, c19, rfl, rfl⟩))
        · refine aw_iconst (v := 1) (pc' := 11) dX12_in_10 rfl (by decide) ?_
          refine aw_goto (tgt := 15) dX12_in_11 (by decide) ?_
          exact aw_ri dX12_in_15 rfl (by decide) (Nat.le_of_ble_eq_true rfl) (Nat.le_of_ble_eq_true rfl) (Or.inr (Or.inr ⟨c18, c19, rfl, rfl⟩))
    refine aw_callSi (M' := mX12_in) (nc' := 0) (ns' := 0) (pc' := 13) dX12_row_10 rfl ml_RX12_230 kX12_in cc17 rfl rfl (Nat.le_of_ble_eq_true rfl) (rok rfl) rfl rfl (fun r25 h25 q25 => ?_)
    rcases q25 with ⟨c20, rfl, rfl⟩ | ⟨c21, c22, rfl, rfl⟩ | ⟨c23, c24, rfl, rfl⟩
    · refine aw_if_eq (tgt := 22) (pc' := 16) dX12_row_13 (by decide) rfl (fun _ => ?_) (fun c => absurd (by decide) c)
      refine aw_iconst (v := (-1)) (pc' := 23) dX12_row_22 rfl (by decide) ?_
      exact aw_ri dX12_row_23 rfl rfl (Nat.le_of_ble_eq_true rfl) (Nat.le_of_ble_eq_true rfl) (by first | (simp [sp_row, cnd, okC, okS, okW_iff, okN_iff, inR, c14, c15, c20]; done) | (simp_all [sp_row, cnd, okC, okS, okW_iff, okN_iff, inR]; done) | skip)
    · refine aw_if_eq (tgt := 22) (pc' := 16) dX12_row_13 (by decide) rfl (fun _ => ?_) (fun c => absurd (by decide) c)
      refine aw_iconst (v := (-1)) (pc' := 23) dX12_row_22 rfl (by decide) ?_
      exact aw_ri dX12_row_23 rfl rfl (Nat.le_of_ble_eq_true rfl) (Nat.le_of_ble_eq_true rfl) (by first | (simp [sp_row, cnd, okC, okS, okW_iff, okN_iff, inR, c14, c15, c21, c22]; done) | (simp_all [sp_row, cnd, okC, okS, okW_iff, okN_iff, inR]; done) | skip)
    · refine aw_if_eq (tgt := 22) (pc' := 16) dX12_row_13 (by decide) rfl (fun c => absurd c (by decide)) (fun _ => ?_)
      refine aw_iload_n (pc' := 17) dX12_row_16 rfl rfl ?_
      refine aw_bipush (v := 60) (pc' := 19) dX12_row_17 rfl (by decide) ?_
      refine aw_cle (tgt := 24) (pc' := 22) dX12_row_19 (by decide) rfl (fun c26 => ?_) (fun c26 => ?_)
      · refine aw_iload_n (pc' := 25) dX12_row_24 rfl rfl ?_
        refine aw_zge (tgt := 31) (pc' := 28) dX12_row_25 (by decide) rfl (fun c27 => ?_) (fun c27 => ?_)
        · refine aw_aload_n (pc' := 32) dX12_row_31 rfl rfl rfl ?_
          refine aw_get clsAll (pc' := 35) dX12_row_32 rfl fl_RX12_208 hm.1 rfl ?_
          refine aw_iload_n (pc' := 36) dX12_row_35 rfl rfl ?_
          refine aw_bipush (v := (-2)) (pc' := 38) dX12_row_36 rfl (by decide) ?_
          refine aw_iload_n (pc' := 39) dX12_row_38 rfl rfl ?_
          refine aw_isub (pc' := 40) dX12_row_39 rfl ?_
          refine aw_iastG (pc' := 41) dX12_row_40 rfl ((hm.2 120 (by decide) (by decide)).trans h0_120) (ix_ (hi := 5) (b := 5) rfl (by decide) c14 c15) (fun h28 e28 => ?_)
          refine aw_aload_n (pc' := 42) dX12_row_41 rfl rfl rfl ?_
          refine aw_get clsAll (pc' := 45) dX12_row_42 rfl fl_RX12_211 (gsn e28 (by decide) hm.1) rfl ?_
          refine aw_iload_n (pc' := 46) dX12_row_45 rfl rfl ?_
          refine aw_iload_n (pc' := 47) dX12_row_46 rfl rfl ?_
          refine aw_iastG (pc' := 48) dX12_row_47 rfl (gsn e28 (by decide) ((hm.2 121 (by decide) (by decide)).trans h0_121)) (ix_ (hi := 5) (b := 5) rfl (by decide) c14 c15) (fun h29 e29 => ?_)
          refine aw_bipush (v := 60) (pc' := 50) dX12_row_48 rfl (by decide) ?_
          refine aw_iload_n (pc' := 51) dX12_row_50 rfl rfl ?_
          refine aw_imul (pc' := 52) dX12_row_51 rfl ?_
          refine aw_istore (lv' := [_, _, _, _, _]) (pc' := 54) dX12_row_52 rfl (Nat.le_of_ble_eq_true rfl) rfl ?_
          obtain ⟨a, ha, rfl⟩ := nI_of2 (M := 5) (n := 5) rfl c14 (Int32.not_lt.mp c15)
          refine AW.lv_le (lv' := [some (.ref 67), some (.int (nI a)), some (.int t), some (.int n), some (.int (nI (60 * a + 0)))]) ?_ ?_
          · rw [show nI (60 * a + 0) = (60 : Int32) * nI a from (pk_mul 60 a).symm]; exact fun _ _ z => z
          · exact mr_loop a ha t n (by simp [sp_row, cnd, inR, c14, c15, c23, c24, c26, c27]) 61 0 (by omega) (by omega) _ (gsn e29 (by decide) (gsn e28 (by decide) hm.1)) (gsn e29 (by decide) (gsn e28 (by decide) ((hm.2 122 (by decide) (by decide)).trans h0_122))) (gsn e29 (by decide) (gsn e28 (by decide) ((hm.2 123 (by decide) (by decide)).trans h0_123)))
        · refine aw_bipush (v := (-14)) (pc' := 30) dX12_row_28 rfl (by decide) ?_
          exact aw_ri dX12_row_30 rfl rfl (Nat.le_of_ble_eq_true rfl) (Nat.le_of_ble_eq_true rfl) (by first | (simp [sp_row, cnd, okC, okS, okW_iff, okN_iff, inR, c14, c15, c23, c24, c26, c27]; done) | (simp_all [sp_row, cnd, okC, okS, okW_iff, okN_iff, inR]; done) | skip)
      · refine aw_iconst (v := (-1)) (pc' := 23) dX12_row_22 rfl (by decide) ?_
        exact aw_ri dX12_row_23 rfl rfl (Nat.le_of_ble_eq_true rfl) (Nat.le_of_ble_eq_true rfl) (by first | (simp [sp_row, cnd, okC, okS, okW_iff, okN_iff, inR, c14, c15, c23, c24, c26]; done) | (simp_all [sp_row, cnd, okC, okS, okW_iff, okN_iff, inR]; done) | skip)
