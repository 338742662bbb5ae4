set_option maxRecDepth 4000 in
theorem m_taken (h : List aE) (hm : Fm 0 h) (s : Int32) (k : Int32) : AM mX12_taken 2 [.ref 67, .int s, .int k] h 0 0 (PI fun r h' => r = sp_taken s k) := by
  refine am_of (lv := [some (.ref 67), some (.int s), some (.int k)]) rfl (Nat.le_of_ble_eq_true rfl) rfl ?_
  refine aw_iload_n (pc' := 1) dX12_taken_0 rfl rfl ?_
  have cc1 : AM mX12_isShelf 1 [.int s] h 0 0 (PI fun r h' => (s < 0 ∧ 0 = r ∧ h = h') ∨ (¬ (s < 0) ∧ 5 < s ∧ 0 = r ∧ h = h') ∨ (¬ (s < 0) ∧ ¬ (5 < s) ∧ 1 = r ∧ h = h')) := by
    refine am_of (lv := [some (.int s)]) rfl (Nat.le_of_ble_eq_true rfl) rfl ?_
    refine aw_iload_n (pc' := 1) dX12_isShelf_0 rfl rfl ?_
    refine aw_iconst (v := 0) (pc' := 2) dX12_isShelf_1 rfl (by decide) ?_
    refine aw_iconst (v := 5) (pc' := 3) dX12_isShelf_2 rfl (by decide) ?_
    have cc2 : AM mX12_in 0 [.int s, .int 0, .int 5] h 0 0 (PI fun r h' => (s < 0 ∧ 0 = r ∧ h = h') ∨ (¬ (s < 0) ∧ 5 < s ∧ 0 = r ∧ h = h') ∨ (¬ (s < 0) ∧ ¬ (5 < s) ∧ 1 = r ∧ h = h')) := by
      refine am_of (lv := [some (.int s), some (.int 0), some (.int 5)]) rfl (Nat.le_of_ble_eq_true rfl) rfl ?_
      refine aw_iload_n (pc' := 1) dX12_in_0 rfl rfl ?_
      refine aw_iload_n (pc' := 2) dX12_in_1 rfl rfl ?_
      refine aw_clt (tgt := 14) (pc' := 5) dX12_in_2 (by decide) rfl (fun c3 => ?_) (fun c3 => ?_)
      · refine aw_iconst (v := 0) (pc' := 15) dX12_in_14 rfl (by decide) ?_
        exact aw_ri dX12_in_15 rfl (by decide) (Nat.le_of_ble_eq_true rfl) (Nat.le_of_ble_eq_true rfl) (Or.inl ⟨c3, rfl, rfl⟩)
      · refine aw_iload_n (pc' := 6) dX12_in_5 rfl rfl ?_
        refine aw_iload_n (pc' := 7) dX12_in_6 rfl rfl ?_
        refine aw_cgt (tgt := 14) (pc' := 10) dX12_in_7 (by decide) rfl (fun c4 => ?_) (fun c4 => ?_)
        · refine aw_iconst (v := 0) (pc' := 15) dX12_in_14 rfl (by decide) ?_
          exact aw_ri dX12_in_15 rfl (by decide) (Nat.le_of_ble_eq_true rfl) (Nat.le_of_ble_eq_true rfl) (Or.inr (Or.inl ⟨c3, c4, rfl, rfl⟩))
        · refine aw_iconst (v := 1) (pc' := 11) dX12_in_10 rfl (by decide) ?_
          refine aw_goto (tgt := 15) dX12_in_11 (by decide) ?_
          exact aw_ri dX12_in_15 rfl (by decide) (Nat.le_of_ble_eq_true rfl) (Nat.le_of_ble_eq_true rfl) (Or.inr (Or.inr ⟨c3, c4, rfl, rfl⟩))
    refine aw_callSi (M' := mX12_in) (nc' := 0) (ns' := 0) (pc' := 6) dX12_isShelf_3 rfl ml_RX12_230 kX12_in cc2 rfl rfl (Nat.le_of_ble_eq_true rfl) (rok rfl) rfl rfl (fun r10 h10 q10 => ?_)
    rcases q10 with ⟨c5, rfl, rfl⟩ | ⟨c6, c7, rfl, rfl⟩ | ⟨c8, c9, rfl, rfl⟩
    · exact aw_ri dX12_isShelf_6 rfl (by decide) (Nat.le_of_ble_eq_true rfl) (Nat.le_of_ble_eq_true rfl) (Or.inl ⟨c5, rfl, rfl⟩)
    · exact aw_ri dX12_isShelf_6 rfl (by decide) (Nat.le_of_ble_eq_true rfl) (Nat.le_of_ble_eq_true rfl) (Or.inr (Or.inl ⟨c6, c7, rfl, rfl⟩))
    · exact aw_ri dX12_isShelf_6 rfl (by decide) (Nat.le_of_ble_eq_true rfl) (Nat.le_of_ble_eq_true rfl) (Or.inr (Or.inr ⟨c8, c9, rfl, rfl⟩))
  refine aw_callSi (M' := mX12_isShelf) (nc' := 0) (ns' := 0) (pc' := 4) dX12_taken_1 rfl ml_RX12_288 kX12_isShelf cc1 rfl rfl (Nat.le_of_ble_eq_true rfl) (rok rfl) rfl rfl (fun r16 h16 q16 => ?_)
  rcases q16 with ⟨c11, rfl, rfl⟩ | ⟨c12, c13, rfl, rfl⟩ | ⟨c14, c15, rfl, rfl⟩
  · refine aw_if_eq (tgt := 17) (pc' := 7) dX12_taken_4 (by decide) rfl (fun _ => ?_) (fun c => absurd (by decide) c)
    refine aw_iconst (v := (-1)) (pc' := 18) dX12_taken_17 rfl (by decide) ?_
    exact aw_ri dX12_taken_18 rfl rfl (Nat.le_of_ble_eq_true rfl) (Nat.le_of_ble_eq_true rfl) (by first | (simp [sp_taken, cnd, okC, okS, okW_iff, okN_iff, inR, c11]; done) | (simp_all [sp_taken, cnd, okC, okS, okW_iff, okN_iff, inR]; done) | skip)
  · refine aw_if_eq (tgt := 17) (pc' := 7) dX12_taken_4 (by decide) rfl (fun _ => ?_) (fun c => absurd (by decide) c)
    refine aw_iconst (v := (-1)) (pc' := 18) dX12_taken_17 rfl (by decide) ?_
    exact aw_ri dX12_taken_18 rfl rfl (Nat.le_of_ble_eq_true rfl) (Nat.le_of_ble_eq_true rfl) (by first | (simp [sp_taken, cnd, okC, okS, okW_iff, okN_iff, inR, c12, c13]; done) | (simp_all [sp_taken, cnd, okC, okS, okW_iff, okN_iff, inR]; done) | skip)
  · refine aw_if_eq (tgt := 17) (pc' := 7) dX12_taken_4 (by decide) rfl (fun c => absurd c (by decide)) (fun _ => ?_)
    refine aw_iload_n (pc' := 8) dX12_taken_7 rfl rfl ?_
    refine aw_iconst (v := 0) (pc' := 9) dX12_taken_8 rfl (by decide) ?_
    refine aw_bipush (v := 7) (pc' := 11) dX12_taken_9 rfl (by decide) ?_
    have cc17 : AM mX12_in 0 [.int k, .int 0, .int 7] h 0 0 (PI fun r h' => (k < 0 ∧ 0 = r ∧ h = h') ∨ (¬ (k < 0) ∧ 7 < k ∧ 0 = r ∧ h = h') ∨ (¬ (k < 0) ∧ ¬ (7 < k) ∧ 1 = r ∧ h = h')) := by
      refine am_of (lv := [some (.int k), some (.int 0), some (.int 7)]) rfl (Nat.le_of_ble_eq_true rfl) rfl ?_
      refine aw_iload_n (pc' := 1) dX12_in_0 rfl rfl ?_
      refine aw_iload_n (pc' := 2) dX12_in_1 rfl rfl ?_
      refine aw_clt (tgt := 14) (pc' := 5) dX12_in_2 (by decide) rfl (fun c18 => ?_) (fun c18 => ?_)
      · refine aw_iconst (v := 0) (pc' := 15) dX12_in_14 rfl (by decide) ?_
        exact aw_ri dX12_in_15 rfl (by decide) (Nat.le_of_ble_eq_true rfl) (Nat.le_of_ble_eq_true rfl) (Or.inl ⟨c18, rfl, rfl⟩)
      · refine aw_iload_n (pc' := 6) dX12_in_5 rfl rfl ?_
        refine aw_iload_n (pc' := 7) dX12_in_6 rfl rfl ?_
        refine aw_cgt (tgt := 14) (pc' := 10) dX12_in_7 (by decide) rfl (fun c19 => ?_) (fun c19 => ?_)
        · refine aw_iconst (v := 0) (pc' := 15) dX12_in_14 rfl (by decide) ?_
          exact aw_ri dX12_in_15 rfl (by decide) (Nat.le_of_ble_eq_true rfl) (Nat.le_of_ble_eq_true rfl) (Or.inr (Or.inl ⟨c18, c19, rfl, rfl⟩))
        · refine aw_iconst (v := 1) (pc' := 11) dX12_in_10 rfl (by decide) ?_
          refine aw_goto (tgt := 15) dX12_in_11 (by decide) ?_
          exact aw_ri dX12_in_15 rfl (by decide) (Nat.le_of_ble_eq_true rfl) (Nat.le_of_ble_eq_true rfl) (Or.inr (Or.inr ⟨c18, c19, rfl, rfl⟩))
    refine aw_callSi (M' := mX12_in) (nc' := 0) (ns' := 0) (pc' := 14) dX12_taken_11 rfl ml_RX12_230 kX12_in cc17 rfl rfl (Nat.le_of_ble_eq_true rfl) (rok rfl) rfl rfl (fun r25 h25 q25 => ?_)
    rcases q25 with ⟨c20, rfl, rfl⟩ | ⟨c21, c22, rfl, rfl⟩ | ⟨c23, c24, rfl, rfl⟩
    · refine aw_if_ne (tgt := 19) (pc' := 17) dX12_taken_14 (by decide) rfl (fun c => absurd (by decide) c) (fun _ => ?_)
      refine aw_iconst (v := (-1)) (pc' := 18) dX12_taken_17 rfl (by decide) ?_
      exact aw_ri dX12_taken_18 rfl rfl (Nat.le_of_ble_eq_true rfl) (Nat.le_of_ble_eq_true rfl) (by first | (simp [sp_taken, cnd, okC, okS, okW_iff, okN_iff, inR, c14, c15, c20]; done) | (simp_all [sp_taken, cnd, okC, okS, okW_iff, okN_iff, inR]; done) | skip)
    · refine aw_if_ne (tgt := 19) (pc' := 17) dX12_taken_14 (by decide) rfl (fun c => absurd (by decide) c) (fun _ => ?_)
      refine aw_iconst (v := (-1)) (pc' := 18) dX12_taken_17 rfl (by decide) ?_
      exact aw_ri dX12_taken_18 rfl rfl (Nat.le_of_ble_eq_true rfl) (Nat.le_of_ble_eq_true rfl) (by first | (simp [sp_taken, cnd, okC, okS, okW_iff, okN_iff, inR, c14, c15, c21, c22]; done) | (simp_all [sp_taken, cnd, okC, okS, okW_iff, okN_iff, inR]; done) | skip)
    · refine aw_if_ne (tgt := 19) (pc' := 17) dX12_taken_14 (by decide) rfl (fun _ => ?_) (fun c => absurd c (by decide))
      refine aw_aload_n (pc' := 20) dX12_taken_19 rfl rfl rfl ?_
      refine aw_get clsAll (pc' := 23) dX12_taken_20 rfl fl_RX12_208 hm.1 rfl ?_
      refine aw_iload_n (pc' := 24) dX12_taken_23 rfl rfl ?_
      refine aw_iald (v := (-1)) (pc' := 25) dX12_taken_24 rfl ((hm.2 120 (by decide) (by decide)).trans h0_120) (ix_ (hi := 5) (b := 5) rfl (by decide) c14 c15) rfl ?_
      refine aw_iconst (v := (-1)) (pc' := 26) dX12_taken_25 rfl (by decide) ?_
      refine aw_icmp_ne (tgt := 32) (pc' := 29) dX12_taken_26 (by decide) rfl (fun c => absurd (by decide) c) (fun _ => ?_)
      refine aw_bipush (v := (-11)) (pc' := 31) dX12_taken_29 rfl (by decide) ?_
      exact aw_ri dX12_taken_31 rfl rfl (Nat.le_of_ble_eq_true rfl) (Nat.le_of_ble_eq_true rfl) (by first | (simp [sp_taken, cnd, okC, okS, okW_iff, okN_iff, inR, c14, c15, c23, c24]; done) | (simp_all [sp_taken, cnd, okC, okS, okW_iff, okN_iff, inR]; done) | skip)
set_option maxRecDepth 4000 in
theorem m_count (h : List aE) (hm : Fm 0 h) (w : Int32) : AM mX12_count 1 [.ref 67, .int w] h 0 0 (PI fun r h' => r = sp_count w) := by
  refine am_of (lv := [some (.ref 67), some (.int w), none, none]) rfl (Nat.le_of_ble_eq_true rfl) rfl ?_
  refine aw_iconst (v := 0) (pc' := 1) dX12_count_0 rfl (by decide) ?_
  refine aw_istore_n (lv' := [_, _, _, _]) (pc' := 2) dX12_count_1 rfl (Nat.le_of_ble_eq_true rfl) rfl ?_
  refine aw_iload_n (pc' := 3) dX12_count_2 rfl rfl ?_
  rcases Decidable.em (w = 0) with rfl | s1_0
  · refine aw_tabIn (tgt := 64) (off := 61) dX12_count_3 (by decide) (by decide) (by decide) (by decide) ?_
    refine aw_aload_n (pc' := 65) dX12_count_64 rfl rfl rfl ?_
    refine aw_get clsAll (pc' := 68) dX12_count_65 rfl fl_RX12_242 hm.1 rfl ?_
    exact aw_ri dX12_count_68 rfl rfl (Nat.le_of_ble_eq_true rfl) (Nat.le_of_ble_eq_true rfl) (by first | (simp [sp_count, cnd, okC, okS, okW_iff, okN_iff, inR]; done) | (simp_all [sp_count, cnd, okC, okS, okW_iff, okN_iff, inR]; done) | skip)
  rcases Decidable.em (w = 1) with rfl | s1_1
  · refine aw_tabIn (tgt := 69) (off := 66) dX12_count_3 (by decide) (by decide) (by decide) (by decide) ?_
    refine aw_iconst (v := 0) (pc' := 70) dX12_count_69 rfl (by decide) ?_
    refine aw_istore_n (lv' := [_, _, _, _]) (pc' := 71) dX12_count_70 rfl (Nat.le_of_ble_eq_true rfl) rfl ?_
    refine aw_iload_n (pc' := 72) dX12_count_71 rfl rfl ?_
    refine aw_aload_n (pc' := 73) dX12_count_72 rfl rfl rfl ?_
    refine aw_get clsAll (pc' := 76) dX12_count_73 rfl fl_RX12_242 hm.1 rfl ?_
    refine aw_cge (tgt := 101) (pc' := 79) dX12_count_76 (by decide) rfl (fun _ => ?_) (fun c => absurd c (by decide))
    refine aw_iload_n (pc' := 102) dX12_count_101 rfl rfl ?_
    exact aw_ri dX12_count_102 rfl rfl (Nat.le_of_ble_eq_true rfl) (Nat.le_of_ble_eq_true rfl) (by first | (simp [sp_count, cnd, okC, okS, okW_iff, okN_iff, inR]; done) | (simp_all [sp_count, cnd, okC, okS, okW_iff, okN_iff, inR]; done) | skip)
  rcases Decidable.em (w = 2) with rfl | s1_2
  · refine aw_tabIn (tgt := 103) (off := 100) dX12_count_3 (by decide) (by decide) (by decide) (by decide) ?_
    refine aw_iconst (v := 0) (pc' := 104) dX12_count_103 rfl (by decide) ?_
    refine aw_istore_n (lv' := [_, _, _, _]) (pc' := 105) dX12_count_104 rfl (Nat.le_of_ble_eq_true rfl) rfl ?_
    refine aw_iload_n (pc' := 106) dX12_count_105 rfl rfl ?_
    refine aw_aload_n (pc' := 107) dX12_count_106 rfl rfl rfl ?_
    refine aw_get clsAll (pc' := 110) dX12_count_107 rfl fl_RX12_242 hm.1 rfl ?_
    refine aw_cge (tgt := 136) (pc' := 113) dX12_count_110 (by decide) rfl (fun _ => ?_) (fun c => absurd c (by decide))
    refine aw_iload_n (pc' := 137) dX12_count_136 rfl rfl ?_
    exact aw_ri dX12_count_137 rfl rfl (Nat.le_of_ble_eq_true rfl) (Nat.le_of_ble_eq_true rfl) (by first | (simp [sp_count, cnd, okC, okS, okW_iff, okN_iff, inR]; done) | (simp_all [sp_count, cnd, okC, okS, okW_iff, okN_iff, inR]; done) | skip)
  rcases Decidable.em (w = 3) with rfl | s1_3
  · refine aw_tabIn (tgt := 138) (off := 135) dX12_count_3 (by decide) (by decide) (by decide) (by decide) ?_
    refine aw_aload_n (pc' := 139) dX12_count_138 rfl rfl rfl ?_
    have cc2 : AM mX12_menBelow 0 [.ref 67] h 0 0 (PI fun r h' => (0 = r ∧ h = h')) := by
      refine am_of (lv := [some (.ref 67), none, none]) rfl (Nat.le_of_ble_eq_true rfl) rfl ?_
      refine aw_iconst (v := 0) (pc' := 1) dX12_menBelow_0 rfl (by decide) ?_
      refine aw_istore_n (lv' := [_, _, _]) (pc' := 2) dX12_menBelow_1 rfl (Nat.le_of_ble_eq_true rfl) rfl ?_
      refine aw_iconst (v := 0) (pc' := 3) dX12_menBelow_2 rfl (by decide) ?_
      refine aw_istore_n (lv' := [_, _, _]) (pc' := 4) dX12_menBelow_3 rfl (Nat.le_of_ble_eq_true rfl) rfl ?_
      refine aw_iload_n (pc' := 5) dX12_menBelow_4 rfl rfl ?_
      refine aw_aload_n (pc' := 6) dX12_menBelow_5 rfl rfl rfl ?_
      refine aw_get clsAll (pc' := 9) dX12_menBelow_6 rfl fl_RX12_242 hm.1 rfl ?_
      refine aw_cge (tgt := 35) (pc' := 12) dX12_menBelow_9 (by decide) rfl (fun _ => ?_) (fun c => absurd c (by decide))
      refine aw_iload_n (pc' := 36) dX12_menBelow_35 rfl rfl ?_
      exact aw_ri dX12_menBelow_36 rfl rfl (Nat.le_of_ble_eq_true rfl) (Nat.le_of_ble_eq_true rfl) ⟨rfl, rfl⟩
    refine aw_callVi (M' := mX12_menBelow) (nc' := 0) (ns' := 0) (pc' := 142) dX12_count_139 rfl ml_RX12_394 kX12_menBelow cc2 hm.1 rfl rfl rfl (Nat.le_of_ble_eq_true rfl) (rok rfl) rfl rfl (fun r3 h3 q3 => ?_)
    obtain ⟨rfl, rfl⟩ := q3
    exact aw_ri dX12_count_142 rfl rfl (Nat.le_of_ble_eq_true rfl) (Nat.le_of_ble_eq_true rfl) (by first | (simp [sp_count, cnd, okC, okS, okW_iff, okN_iff, inR]; done) | (simp_all [sp_count, cnd, okC, okS, okW_iff, okN_iff, inR]; done) | skip)
  rcases Decidable.em (w = 4) with rfl | s1_4
  · refine aw_tabIn (tgt := 143) (off := 140) dX12_count_3 (by decide) (by decide) (by decide) (by decide) ?_
    refine aw_aload_n (pc' := 144) dX12_count_143 rfl rfl rfl ?_
    refine aw_get clsAll (pc' := 147) dX12_count_144 rfl fl_RX12_281 hm.1 rfl ?_
    exact aw_ri dX12_count_147 rfl rfl (Nat.le_of_ble_eq_true rfl) (Nat.le_of_ble_eq_true rfl) (by first | (simp [sp_count, cnd, okC, okS, okW_iff, okN_iff, inR]; done) | (simp_all [sp_count, cnd, okC, okS, okW_iff, okN_iff, inR]; done) | skip)
  rcases Decidable.em (w = 5) with rfl | s1_5
  · refine aw_tabIn (tgt := 148) (off := 145) dX12_count_3 (by decide) (by decide) (by decide) (by decide) ?_
    refine aw_aload_n (pc' := 149) dX12_count_148 rfl rfl rfl ?_
    refine aw_get clsAll (pc' := 152) dX12_count_149 rfl fl_RX12_301 hm.1 rfl ?_
    exact aw_ri dX12_count_152 rfl rfl (Nat.le_of_ble_eq_true rfl) (Nat.le_of_ble_eq_true rfl) (by first | (simp [sp_count, cnd, okC, okS, okW_iff, okN_iff, inR]; done) | (simp_all [sp_count, cnd, okC, okS, okW_iff, okN_iff, inR]; done) | skip)
  rcases Decidable.em (w = 6) with rfl | s1_6
  · refine aw_tabIn (tgt := 153) (off := 150) dX12_count_3 (by decide) (by decide) (by decide) (by decide) ?_
    refine aw_aload_n (pc' := 154) dX12_count_153 rfl rfl rfl ?_
    refine aw_get clsAll (pc' := 157) dX12_count_154 rfl fl_RX12_373 hm.1 rfl ?_
    exact aw_ri dX12_count_157 rfl rfl (Nat.le_of_ble_eq_true rfl) (Nat.le_of_ble_eq_true rfl) (by first | (simp [sp_count, cnd, okC, okS, okW_iff, okN_iff, inR]; done) | (simp_all [sp_count, cnd, okC, okS, okW_iff, okN_iff, inR]; done) | skip)
  rcases Decidable.em (w = 7) with rfl | s1_7
  · refine aw_tabIn (tgt := 158) (off := 155) dX12_count_3 (by decide) (by decide) (by decide) (by decide) ?_
    refine aw_aload_n (pc' := 159) dX12_count_158 rfl rfl rfl ?_
    refine aw_get clsAll (pc' := 162) dX12_count_159 rfl fl_RX12_316 hm.1 rfl ?_
    exact aw_ri dX12_count_162 rfl rfl (Nat.le_of_ble_eq_true rfl) (Nat.le_of_ble_eq_true rfl) (by first | (simp [sp_count, cnd, okC, okS, okW_iff, okN_iff, inR]; done) | (simp_all [sp_count, cnd, okC, okS, okW_iff, okN_iff, inR]; done) | skip)
  rcases Decidable.em (w = 8) with rfl | s1_8
  · refine aw_tabIn (tgt := 163) (off := 160) dX12_count_3 (by decide) (by decide) (by decide) (by decide) ?_
    refine aw_iconst (v := 0) (pc' := 164) dX12_count_163 rfl (by decide) ?_
    refine aw_istore_n (lv' := [_, _, _, _]) (pc' := 165) dX12_count_164 rfl (Nat.le_of_ble_eq_true rfl) rfl ?_
    refine aw_iload_n (pc' := 166) dX12_count_165 rfl rfl ?_
    refine aw_aload_n (pc' := 167) dX12_count_166 rfl rfl rfl ?_
    refine aw_get clsAll (pc' := 170) dX12_count_167 rfl fl_RX12_242 hm.1 rfl ?_
    refine aw_cge (tgt := 188) (pc' := 173) dX12_count_170 (by decide) rfl (fun _ => ?_) (fun c => absurd c (by decide))
    refine aw_iload_n (pc' := 189) dX12_count_188 rfl rfl ?_
    exact aw_ri dX12_count_189 rfl rfl (Nat.le_of_ble_eq_true rfl) (Nat.le_of_ble_eq_true rfl) (by first | (simp [sp_count, cnd, okC, okS, okW_iff, okN_iff, inR]; done) | (simp_all [sp_count, cnd, okC, okS, okW_iff, okN_iff, inR]; done) | skip)
  rcases Decidable.em (w = 9) with rfl | s1_9
  · refine aw_tabIn (tgt := 190) (off := 187) dX12_count_3 (by decide) (by decide) (by decide) (by decide) ?_
    refine aw_aload_n (pc' := 191) dX12_count_190 rfl rfl rfl ?_
    refine aw_get clsAll (pc' := 194) dX12_count_191 rfl fl_RX12_412 hm.1 rfl ?_
    exact aw_ri dX12_count_194 rfl rfl (Nat.le_of_ble_eq_true rfl) (Nat.le_of_ble_eq_true rfl) (by first | (simp [sp_count, cnd, okC, okS, okW_iff, okN_iff, inR]; done) | (simp_all [sp_count, cnd, okC, okS, okW_iff, okN_iff, inR]; done) | skip)
  rcases Decidable.em (w = 10) with rfl | s1_10
  · refine aw_tabIn (tgt := 195) (off := 192) dX12_count_3 (by decide) (by decide) (by decide) (by decide) ?_
    refine aw_aload_n (pc' := 196) dX12_count_195 rfl rfl rfl ?_
    refine aw_get clsAll (pc' := 199) dX12_count_196 rfl fl_RX12_428 hm.1 rfl ?_
    exact aw_ri dX12_count_199 rfl rfl (Nat.le_of_ble_eq_true rfl) (Nat.le_of_ble_eq_true rfl) (by first | (simp [sp_count, cnd, okC, okS, okW_iff, okN_iff, inR]; done) | (simp_all [sp_count, cnd, okC, okS, okW_iff, okN_iff, inR]; done) | skip)
  rcases Decidable.em (w = 11) with rfl | s1_11
  · refine aw_tabIn (tgt := 200) (off := 197) dX12_count_3 (by decide) (by decide) (by decide) (by decide) ?_
    refine aw_aload_n (pc' := 201) dX12_count_200 rfl rfl rfl ?_
    refine aw_get clsAll (pc' := 204) dX12_count_201 rfl fl_RX12_453 hm.1 rfl ?_
    exact aw_ri dX12_count_204 rfl rfl (Nat.le_of_ble_eq_true rfl) (Nat.le_of_ble_eq_true rfl) (by first | (simp [sp_count, cnd, okC, okS, okW_iff, okN_iff, inR]; done) | (simp_all [sp_count, cnd, okC, okS, okW_iff, okN_iff, inR]; done) | skip)
  refine aw_tabOut (tgt := 205) dX12_count_3 (tabo (by have := tne s1_0; have := tne s1_1; have := tne s1_2; have := tne s1_3; have := tne s1_4; have := tne s1_5; have := tne s1_6; have := tne s1_7; have := tne s1_8; have := tne s1_9; have := tne s1_10; have := tne s1_11; simp at *; omega)) (by decide) ?_
  refine aw_iconst (v := (-1)) (pc' := 206) dX12_count_205 rfl (by decide) ?_
  exact aw_ri dX12_count_206 rfl rfl (Nat.le_of_ble_eq_true rfl) (Nat.le_of_ble_eq_true rfl) (by first | (simp [sp_count, cnd, okC, okS, okW_iff, okN_iff, inR, s1_0, s1_1, s1_2, s1_3, s1_4, s1_5, s1_6, s1_7, s1_8, s1_9, s1_10, s1_11]; done) | (simp_all [sp_count, cnd, okC, okS, okW_iff, okN_iff, inR]; done) | skip)
