/-- the place of a byte in the text of the names -/
def ixB (b : Int32) : Int32 := if b = 104 then 0 else if b = 100 then 1 else if b = 115 then 2 else if b = 107 then 3 else if b = 105 then 4 else if b = 110 then 5 else if b = 102 then 6 else if b = 116 then 7 else -1
def ixN (c : Int32) : Int32 := if c < 0 then -1 else if 255 < c then -1 else ixB c.toInt8.toInt32
set_option maxRecDepth 4000 in
theorem c_can (h : List aE) (c : Int32) : AM mJ1_canEncode_9a6ad 0 [.int c] h 0 0 (PI fun r h' => h = h' ∧ ((r = 0 ∧ (c < 0 ∨ 255 < c)) ∨ (r = 1 ∧ ¬ c < 0 ∧ ¬ 255 < c))) := by
  refine am_of (lv := [some (.int c)]) rfl (Nat.le_of_ble_eq_true rfl) rfl ?_
  refine aw_iload_n (pc' := 1) dJ1_canEncode_9a6ad_0 rfl rfl ?_
  refine aw_zlt (tgt := 15) (pc' := 4) dJ1_canEncode_9a6ad_1 (by decide) rfl (fun c1 => ?_) (fun c1 => ?_)
  · refine aw_iconst (v := 0) (pc' := 16) dJ1_canEncode_9a6ad_15 rfl (by decide) ?_
    exact aw_ri dJ1_canEncode_9a6ad_16 rfl (by decide) (Nat.le_of_ble_eq_true rfl) (Nat.le_of_ble_eq_true rfl) ⟨rfl, Or.inl ⟨rfl, Or.inl c1⟩⟩
  refine aw_iload_n (pc' := 5) dJ1_canEncode_9a6ad_4 rfl rfl ?_
  refine aw_sipush (v := 255) (pc' := 8) dJ1_canEncode_9a6ad_5 rfl (by decide) ?_
  refine aw_cgt (tgt := 15) (pc' := 11) dJ1_canEncode_9a6ad_8 (by decide) rfl (fun c2 => ?_) (fun c2 => ?_)
  · refine aw_iconst (v := 0) (pc' := 16) dJ1_canEncode_9a6ad_15 rfl (by decide) ?_
    exact aw_ri dJ1_canEncode_9a6ad_16 rfl (by decide) (Nat.le_of_ble_eq_true rfl) (Nat.le_of_ble_eq_true rfl) ⟨rfl, Or.inl ⟨rfl, Or.inr c2⟩⟩
  refine aw_iconst (v := 1) (pc' := 12) dJ1_canEncode_9a6ad_11 rfl (by decide) ?_
  refine aw_goto (tgt := 16) dJ1_canEncode_9a6ad_12 (by decide) ?_
  exact aw_ri dJ1_canEncode_9a6ad_16 rfl (by decide) (Nat.le_of_ble_eq_true rfl) (Nat.le_of_ble_eq_true rfl) ⟨rfl, Or.inr ⟨rfl, c1, c2⟩⟩
set_option maxRecDepth 4000 in
theorem c_ioc (h : List aE) (c : Int32) : AM mJ1_indexOfChar_4cfef 0 [.ref 3, .int c, .int 0, .int 8] h 0 0 (PI fun r h' => h = h' ∧ ixB c.toInt8.toInt32 = r) := by
  refine am_of (lv := [some (.ref 3), some (.int c), some (.int 0), some (.int 8), none, none]) rfl (Nat.le_of_ble_eq_true rfl) rfl ?_
  refine aw_iload_n (pc' := 1) dJ1_indexOfChar_4cfef_0 rfl rfl ?_
  refine aw_i2b (pc' := 2) dJ1_indexOfChar_4cfef_1 rfl ?_
  obtain ⟨b, eb⟩ : ∃ b, c.toInt8.toInt32 = b := ⟨_, rfl⟩
  rw [eb]
  refine aw_istore (lv' := [_, _, _, _, _, _]) (pc' := 4) dJ1_indexOfChar_4cfef_2 rfl (Nat.le_of_ble_eq_true rfl) rfl ?_
  refine aw_iload_n (pc' := 5) dJ1_indexOfChar_4cfef_4 rfl rfl ?_
  refine aw_istore (lv' := [_, _, _, _, _, _]) (pc' := 7) dJ1_indexOfChar_4cfef_5 rfl (Nat.le_of_ble_eq_true rfl) rfl ?_
  refine aw_iload (pc' := 9) dJ1_indexOfChar_4cfef_7 rfl rfl ?_
  refine aw_iload_n (pc' := 10) dJ1_indexOfChar_4cfef_9 rfl rfl ?_
  refine aw_cge (tgt := 31) (pc' := 13) dJ1_indexOfChar_4cfef_10 (by decide) rfl (fun c => absurd (by decide) c) (fun _ => ?_)
  refine aw_aload_n (pc' := 14) dJ1_indexOfChar_4cfef_13 rfl rfl rfl ?_
  refine aw_iload (pc' := 16) dJ1_indexOfChar_4cfef_14 rfl rfl ?_
  refine aw_sba (i := 0) (v := 104) (pc' := 17) dJ1_indexOfChar_4cfef_16 rfl (vpc (by decide)) (by decide) ?_
  refine aw_iload (pc' := 19) dJ1_indexOfChar_4cfef_17 rfl rfl ?_
  refine aw_icmp_ne (tgt := 25) (pc' := 22) dJ1_indexOfChar_4cfef_19 (by decide) rfl (fun c0 => ?_) (fun c0 => ?_)
  rotate_left
  · refine aw_iload (pc' := 24) dJ1_indexOfChar_4cfef_22 rfl rfl ?_
    exact aw_ri dJ1_indexOfChar_4cfef_24 rfl rfl (Nat.le_of_ble_eq_true rfl) (Nat.le_of_ble_eq_true rfl) ⟨rfl, by subst c0; rfl⟩
  refine aw_iincV (y := 1) (lv' := [_, _, _, _, _, _]) (pc' := 28) dJ1_indexOfChar_4cfef_25 rfl rfl (Nat.le_of_ble_eq_true rfl) (by decide) rfl ?_
  refine aw_goto (tgt := 7) dJ1_indexOfChar_4cfef_28 (by decide) ?_
  refine aw_iload (pc' := 9) dJ1_indexOfChar_4cfef_7 rfl rfl ?_
  refine aw_iload_n (pc' := 10) dJ1_indexOfChar_4cfef_9 rfl rfl ?_
  refine aw_cge (tgt := 31) (pc' := 13) dJ1_indexOfChar_4cfef_10 (by decide) rfl (fun c => absurd (by decide) c) (fun _ => ?_)
  refine aw_aload_n (pc' := 14) dJ1_indexOfChar_4cfef_13 rfl rfl rfl ?_
  refine aw_iload (pc' := 16) dJ1_indexOfChar_4cfef_14 rfl rfl ?_
  refine aw_sba (i := 1) (v := 100) (pc' := 17) dJ1_indexOfChar_4cfef_16 rfl (vpc (by decide)) (by decide) ?_
  refine aw_iload (pc' := 19) dJ1_indexOfChar_4cfef_17 rfl rfl ?_
  refine aw_icmp_ne (tgt := 25) (pc' := 22) dJ1_indexOfChar_4cfef_19 (by decide) rfl (fun c1 => ?_) (fun c1 => ?_)
  rotate_left
  · refine aw_iload (pc' := 24) dJ1_indexOfChar_4cfef_22 rfl rfl ?_
    exact aw_ri dJ1_indexOfChar_4cfef_24 rfl rfl (Nat.le_of_ble_eq_true rfl) (Nat.le_of_ble_eq_true rfl) ⟨rfl, by subst c1; rfl⟩
  refine aw_iincV (y := 2) (lv' := [_, _, _, _, _, _]) (pc' := 28) dJ1_indexOfChar_4cfef_25 rfl rfl (Nat.le_of_ble_eq_true rfl) (by decide) rfl ?_
  refine aw_goto (tgt := 7) dJ1_indexOfChar_4cfef_28 (by decide) ?_
  refine aw_iload (pc' := 9) dJ1_indexOfChar_4cfef_7 rfl rfl ?_
  refine aw_iload_n (pc' := 10) dJ1_indexOfChar_4cfef_9 rfl rfl ?_
  refine aw_cge (tgt := 31) (pc' := 13) dJ1_indexOfChar_4cfef_10 (by decide) rfl (fun c => absurd (by decide) c) (fun _ => ?_)
  refine aw_aload_n (pc' := 14) dJ1_indexOfChar_4cfef_13 rfl rfl rfl ?_
  refine aw_iload (pc' := 16) dJ1_indexOfChar_4cfef_14 rfl rfl ?_
  refine aw_sba (i := 2) (v := 115) (pc' := 17) dJ1_indexOfChar_4cfef_16 rfl (vpc (by decide)) (by decide) ?_
  refine aw_iload (pc' := 19) dJ1_indexOfChar_4cfef_17 rfl rfl ?_
  refine aw_icmp_ne (tgt := 25) (pc' := 22) dJ1_indexOfChar_4cfef_19 (by decide) rfl (fun c2 => ?_) (fun c2 => ?_)
  rotate_left
  · refine aw_iload (pc' := 24) dJ1_indexOfChar_4cfef_22 rfl rfl ?_
    exact aw_ri dJ1_indexOfChar_4cfef_24 rfl rfl (Nat.le_of_ble_eq_true rfl) (Nat.le_of_ble_eq_true rfl) ⟨rfl, by subst c2; rfl⟩
  refine aw_iincV (y := 3) (lv' := [_, _, _, _, _, _]) (pc' := 28) dJ1_indexOfChar_4cfef_25 rfl rfl (Nat.le_of_ble_eq_true rfl) (by decide) rfl ?_
  refine aw_goto (tgt := 7) dJ1_indexOfChar_4cfef_28 (by decide) ?_
  refine aw_iload (pc' := 9) dJ1_indexOfChar_4cfef_7 rfl rfl ?_
  refine aw_iload_n (pc' := 10) dJ1_indexOfChar_4cfef_9 rfl rfl ?_
  refine aw_cge (tgt := 31) (pc' := 13) dJ1_indexOfChar_4cfef_10 (by decide) rfl (fun c => absurd (by decide) c) (fun _ => ?_)
  refine aw_aload_n (pc' := 14) dJ1_indexOfChar_4cfef_13 rfl rfl rfl ?_
  refine aw_iload (pc' := 16) dJ1_indexOfChar_4cfef_14 rfl rfl ?_
  refine aw_sba (i := 3) (v := 107) (pc' := 17) dJ1_indexOfChar_4cfef_16 rfl (vpc (by decide)) (by decide) ?_
  refine aw_iload (pc' := 19) dJ1_indexOfChar_4cfef_17 rfl rfl ?_
  refine aw_icmp_ne (tgt := 25) (pc' := 22) dJ1_indexOfChar_4cfef_19 (by decide) rfl (fun c3 => ?_) (fun c3 => ?_)
  rotate_left
  · refine aw_iload (pc' := 24) dJ1_indexOfChar_4cfef_22 rfl rfl ?_
    exact aw_ri dJ1_indexOfChar_4cfef_24 rfl rfl (Nat.le_of_ble_eq_true rfl) (Nat.le_of_ble_eq_true rfl) ⟨rfl, by subst c3; rfl⟩
  refine aw_iincV (y := 4) (lv' := [_, _, _, _, _, _]) (pc' := 28) dJ1_indexOfChar_4cfef_25 rfl rfl (Nat.le_of_ble_eq_true rfl) (by decide) rfl ?_
  refine aw_goto (tgt := 7) dJ1_indexOfChar_4cfef_28 (by decide) ?_
  refine aw_iload (pc' := 9) dJ1_indexOfChar_4cfef_7 rfl rfl ?_
  refine aw_iload_n (pc' := 10) dJ1_indexOfChar_4cfef_9 rfl rfl ?_
  refine aw_cge (tgt := 31) (pc' := 13) dJ1_indexOfChar_4cfef_10 (by decide) rfl (fun c => absurd (by decide) c) (fun _ => ?_)
  refine aw_aload_n (pc' := 14) dJ1_indexOfChar_4cfef_13 rfl rfl rfl ?_
  refine aw_iload (pc' := 16) dJ1_indexOfChar_4cfef_14 rfl rfl ?_
  refine aw_sba (i := 4) (v := 105) (pc' := 17) dJ1_indexOfChar_4cfef_16 rfl (vpc (by decide)) (by decide) ?_
  refine aw_iload (pc' := 19) dJ1_indexOfChar_4cfef_17 rfl rfl ?_
  refine aw_icmp_ne (tgt := 25) (pc' := 22) dJ1_indexOfChar_4cfef_19 (by decide) rfl (fun c4 => ?_) (fun c4 => ?_)
  rotate_left
  · refine aw_iload (pc' := 24) dJ1_indexOfChar_4cfef_22 rfl rfl ?_
    exact aw_ri dJ1_indexOfChar_4cfef_24 rfl rfl (Nat.le_of_ble_eq_true rfl) (Nat.le_of_ble_eq_true rfl) ⟨rfl, by subst c4; rfl⟩
  refine aw_iincV (y := 5) (lv' := [_, _, _, _, _, _]) (pc' := 28) dJ1_indexOfChar_4cfef_25 rfl rfl (Nat.le_of_ble_eq_true rfl) (by decide) rfl ?_
  refine aw_goto (tgt := 7) dJ1_indexOfChar_4cfef_28 (by decide) ?_
  refine aw_iload (pc' := 9) dJ1_indexOfChar_4cfef_7 rfl rfl ?_
  refine aw_iload_n (pc' := 10) dJ1_indexOfChar_4cfef_9 rfl rfl ?_
  refine aw_cge (tgt := 31) (pc' := 13) dJ1_indexOfChar_4cfef_10 (by decide) rfl (fun c => absurd (by decide) c) (fun _ => ?_)
  refine aw_aload_n (pc' := 14) dJ1_indexOfChar_4cfef_13 rfl rfl rfl ?_
  refine aw_iload (pc' := 16) dJ1_indexOfChar_4cfef_14 rfl rfl ?_
  refine aw_sba (i := 5) (v := 110) (pc' := 17) dJ1_indexOfChar_4cfef_16 rfl (vpc (by decide)) (by decide) ?_
  refine aw_iload (pc' := 19) dJ1_indexOfChar_4cfef_17 rfl rfl ?_
  refine aw_icmp_ne (tgt := 25) (pc' := 22) dJ1_indexOfChar_4cfef_19 (by decide) rfl (fun c5 => ?_) (fun c5 => ?_)
  rotate_left
  · refine aw_iload (pc' := 24) dJ1_indexOfChar_4cfef_22 rfl rfl ?_
    exact aw_ri dJ1_indexOfChar_4cfef_24 rfl rfl (Nat.le_of_ble_eq_true rfl) (Nat.le_of_ble_eq_true rfl) ⟨rfl, by subst c5; rfl⟩
  refine aw_iincV (y := 6) (lv' := [_, _, _, _, _, _]) (pc' := 28) dJ1_indexOfChar_4cfef_25 rfl rfl (Nat.le_of_ble_eq_true rfl) (by decide) rfl ?_
  refine aw_goto (tgt := 7) dJ1_indexOfChar_4cfef_28 (by decide) ?_
  refine aw_iload (pc' := 9) dJ1_indexOfChar_4cfef_7 rfl rfl ?_
  refine aw_iload_n (pc' := 10) dJ1_indexOfChar_4cfef_9 rfl rfl ?_
  refine aw_cge (tgt := 31) (pc' := 13) dJ1_indexOfChar_4cfef_10 (by decide) rfl (fun c => absurd (by decide) c) (fun _ => ?_)
  refine aw_aload_n (pc' := 14) dJ1_indexOfChar_4cfef_13 rfl rfl rfl ?_
  refine aw_iload (pc' := 16) dJ1_indexOfChar_4cfef_14 rfl rfl ?_
  refine aw_sba (i := 6) (v := 102) (pc' := 17) dJ1_indexOfChar_4cfef_16 rfl (vpc (by decide)) (by decide) ?_
  refine aw_iload (pc' := 19) dJ1_indexOfChar_4cfef_17 rfl rfl ?_
  refine aw_icmp_ne (tgt := 25) (pc' := 22) dJ1_indexOfChar_4cfef_19 (by decide) rfl (fun c6 => ?_) (fun c6 => ?_)
  rotate_left
  · refine aw_iload (pc' := 24) dJ1_indexOfChar_4cfef_22 rfl rfl ?_
    exact aw_ri dJ1_indexOfChar_4cfef_24 rfl rfl (Nat.le_of_ble_eq_true rfl) (Nat.le_of_ble_eq_true rfl) ⟨rfl, by subst c6; rfl⟩
  refine aw_iincV (y := 7) (lv' := [_, _, _, _, _, _]) (pc' := 28) dJ1_indexOfChar_4cfef_25 rfl rfl (Nat.le_of_ble_eq_true rfl) (by decide) rfl ?_
  refine aw_goto (tgt := 7) dJ1_indexOfChar_4cfef_28 (by decide) ?_
  refine aw_iload (pc' := 9) dJ1_indexOfChar_4cfef_7 rfl rfl ?_
  refine aw_iload_n (pc' := 10) dJ1_indexOfChar_4cfef_9 rfl rfl ?_
  refine aw_cge (tgt := 31) (pc' := 13) dJ1_indexOfChar_4cfef_10 (by decide) rfl (fun c => absurd (by decide) c) (fun _ => ?_)
  refine aw_aload_n (pc' := 14) dJ1_indexOfChar_4cfef_13 rfl rfl rfl ?_
  refine aw_iload (pc' := 16) dJ1_indexOfChar_4cfef_14 rfl rfl ?_
  refine aw_sba (i := 7) (v := 116) (pc' := 17) dJ1_indexOfChar_4cfef_16 rfl (vpc (by decide)) (by decide) ?_
  refine aw_iload (pc' := 19) dJ1_indexOfChar_4cfef_17 rfl rfl ?_
  refine aw_icmp_ne (tgt := 25) (pc' := 22) dJ1_indexOfChar_4cfef_19 (by decide) rfl (fun c7 => ?_) (fun c7 => ?_)
  rotate_left
  · refine aw_iload (pc' := 24) dJ1_indexOfChar_4cfef_22 rfl rfl ?_
    exact aw_ri dJ1_indexOfChar_4cfef_24 rfl rfl (Nat.le_of_ble_eq_true rfl) (Nat.le_of_ble_eq_true rfl) ⟨rfl, by subst c7; rfl⟩
  refine aw_iincV (y := 8) (lv' := [_, _, _, _, _, _]) (pc' := 28) dJ1_indexOfChar_4cfef_25 rfl rfl (Nat.le_of_ble_eq_true rfl) (by decide) rfl ?_
  refine aw_goto (tgt := 7) dJ1_indexOfChar_4cfef_28 (by decide) ?_
  refine aw_iload (pc' := 9) dJ1_indexOfChar_4cfef_7 rfl rfl ?_
  refine aw_iload_n (pc' := 10) dJ1_indexOfChar_4cfef_9 rfl rfl ?_
  refine aw_cge (tgt := 31) (pc' := 13) dJ1_indexOfChar_4cfef_10 (by decide) rfl (fun _ => ?_) (fun c => absurd c (by decide))
  refine aw_iconst (v := -1) (pc' := 32) dJ1_indexOfChar_4cfef_31 rfl (by decide) ?_
  have n0 : ¬ b = 104 := fun z => c0 z.symm
  have n1 : ¬ b = 100 := fun z => c1 z.symm
  have n2 : ¬ b = 115 := fun z => c2 z.symm
  have n3 : ¬ b = 107 := fun z => c3 z.symm
  have n4 : ¬ b = 105 := fun z => c4 z.symm
  have n5 : ¬ b = 110 := fun z => c5 z.symm
  have n6 : ¬ b = 102 := fun z => c6 z.symm
  have n7 : ¬ b = 116 := fun z => c7 z.symm
  exact aw_ri dJ1_indexOfChar_4cfef_32 rfl rfl (Nat.le_of_ble_eq_true rfl) (Nat.le_of_ble_eq_true rfl) ⟨rfl, by simp [ixB, n0, n1, n2, n3, n4, n5, n6, n7]⟩
set_option maxRecDepth 4000 in
theorem c_io1 (h : List aE) (c : Int32) : AM mJ1_indexOf_4cfef 1 [.ref 3, .int c, .int 0, .int 8] h 0 0 (PI fun r h' => h = h' ∧ ixN c = r) := by
  refine am_of (lv := [some (.ref 3), some (.int c), some (.int 0), some (.int 8)]) rfl (Nat.le_of_ble_eq_true rfl) rfl ?_
  refine aw_iload_n (pc' := 1) dJ1_indexOf_4cfef_0 rfl rfl ?_
  refine aw_callSi (M' := mJ1_canEncode_9a6ad) (nc' := 0) (ns' := 0) (pc' := 4) dJ1_indexOf_4cfef_1 rfl ml_RJ1_88 kJ1_canEncode_9a6ad (c_can _ _) rfl rfl (Nat.le_of_ble_eq_true rfl) (rok rfl) rfl rfl (fun r1 h1 q1 => ?_)
  obtain ⟨rfl, q⟩ := q1
  refine aw_if_ne (tgt := 9) (pc' := 7) dJ1_indexOf_4cfef_4 (by decide) rfl (fun c1 => ?_) (fun c1 => ?_)
  rotate_left
  · refine aw_iconst (v := -1) (pc' := 8) dJ1_indexOf_4cfef_7 rfl (by decide) ?_
    refine aw_ri dJ1_indexOf_4cfef_8 rfl rfl (Nat.le_of_ble_eq_true rfl) (Nat.le_of_ble_eq_true rfl) ⟨rfl, ?_⟩
    rcases q with ⟨q1, q2⟩ | ⟨q1, q2, q3⟩
    · unfold ixN
      rcases q2 with q2 | q2
      · rw [if_pos q2]
      · rw [if_pos q2]
        split <;> rfl
    · rw [q1] at c1
      exact absurd c1 (by decide)
  refine aw_iload_n (pc' := 10) dJ1_indexOf_4cfef_9 rfl rfl ?_
  refine aw_iconst (v := 0) (pc' := 11) dJ1_indexOf_4cfef_10 rfl (by decide) ?_
  refine aw_callSi (M' := mJ9_max_7cf53) (nc' := 0) (ns' := 0) (pc' := 14) dJ1_indexOf_4cfef_11 rfl ml_RJ1_92 kJ9_max_7cf53 (t_J9_max_7cf53 (r9 := 0) rfl) rfl rfl (Nat.le_of_ble_eq_true rfl) (rok rfl) rfl rfl (fun r2 h2 q2 => ?_)
  obtain ⟨rfl, rfl⟩ := q2
  refine aw_istore_n (lv' := [_, _, _, _]) (pc' := 15) dJ1_indexOf_4cfef_14 rfl (Nat.le_of_ble_eq_true rfl) rfl ?_
  refine aw_iload_n (pc' := 16) dJ1_indexOf_4cfef_15 rfl rfl ?_
  refine aw_aload_n (pc' := 17) dJ1_indexOf_4cfef_16 rfl rfl rfl ?_
  refine aw_sbl (pc' := 18) dJ1_indexOf_4cfef_17 rfl ?_
  refine aw_callSi (M' := mJ9_min_7cf53) (nc' := 0) (ns' := 0) (pc' := 21) dJ1_indexOf_4cfef_18 rfl ml_RJ1_38 kJ9_min_7cf53 (t_J9_min_7cf53 (r9 := 8) rfl) rfl rfl (Nat.le_of_ble_eq_true rfl) (rok rfl) rfl rfl (fun r3 h3 q3 => ?_)
  obtain ⟨rfl, rfl⟩ := q3
  refine aw_istore_n (lv' := [_, _, _, _]) (pc' := 22) dJ1_indexOf_4cfef_21 rfl (Nat.le_of_ble_eq_true rfl) rfl ?_
  refine aw_iload_n (pc' := 23) dJ1_indexOf_4cfef_22 rfl rfl ?_
  refine aw_iload_n (pc' := 24) dJ1_indexOf_4cfef_23 rfl rfl ?_
  refine aw_clt (tgt := 29) (pc' := 27) dJ1_indexOf_4cfef_24 (by decide) rfl (fun _ => ?_) (fun c => absurd (by decide) c)
  refine aw_aload_n (pc' := 30) dJ1_indexOf_4cfef_29 rfl rfl rfl ?_
  refine aw_iload_n (pc' := 31) dJ1_indexOf_4cfef_30 rfl rfl ?_
  refine aw_iload_n (pc' := 32) dJ1_indexOf_4cfef_31 rfl rfl ?_
  refine aw_iload_n (pc' := 33) dJ1_indexOf_4cfef_32 rfl rfl ?_
  refine aw_callSi (M' := mJ1_indexOfChar_4cfef) (nc' := 0) (ns' := 0) (pc' := 36) dJ1_indexOf_4cfef_33 rfl ml_RJ1_95 kJ1_indexOfChar_4cfef (c_ioc _ _) rfl rfl (Nat.le_of_ble_eq_true rfl) (rok rfl) rfl rfl (fun r4 h4 q4 => ?_)
  obtain ⟨rfl, q4⟩ := q4
  refine aw_ri dJ1_indexOf_4cfef_36 rfl rfl (Nat.le_of_ble_eq_true rfl) (Nat.le_of_ble_eq_true rfl) ⟨rfl, ?_⟩
  rcases q with ⟨q1, q2⟩ | ⟨q1, q2, q3⟩
  · exact absurd q1 c1
  · unfold ixN
    rw [if_neg q2, if_neg q3, q4]
set_option maxRecDepth 4000 in
theorem c_lat (h : List aE) : AM mJ0_isLatin1_aae02 0 [.ref 2] h 0 0 (PI fun r h' => h = h' ∧ r = 1) := by
  refine am_of (lv := [some (.ref 2)]) rfl (Nat.le_of_ble_eq_true rfl) rfl ?_
  refine aw_cmp (pc' := 3) dJ0_isLatin1_aae02_0 rfl fs_RJ0_38 ?_
  refine aw_if_eq (tgt := 17) (pc' := 6) dJ0_isLatin1_aae02_3 (by decide) rfl (fun c => absurd c (by decide)) (fun _ => ?_)
  refine aw_aload_n (pc' := 7) dJ0_isLatin1_aae02_6 rfl rfl rfl ?_
  refine aw_scod (pc' := 10) dJ0_isLatin1_aae02_7 rfl fs_RJ0_15 ?_
  refine aw_if_ne (tgt := 17) (pc' := 13) dJ0_isLatin1_aae02_10 (by decide) rfl (fun c => absurd (by decide) c) (fun _ => ?_)
  refine aw_iconst (v := 1) (pc' := 14) dJ0_isLatin1_aae02_13 rfl (by decide) ?_
  refine aw_goto (tgt := 18) dJ0_isLatin1_aae02_14 (by decide) ?_
  exact aw_ri dJ0_isLatin1_aae02_18 rfl (by decide) (Nat.le_of_ble_eq_true rfl) (Nat.le_of_ble_eq_true rfl) ⟨rfl, rfl⟩
set_option maxRecDepth 4000 in
theorem c_io2 (h : List aE) (c : Int32) : AM mJ0_indexOf_7cf53 2 [.ref 2, .int c, .int 0] h 0 0 (PI fun r h' => h = h' ∧ ixN c = r) := by
  refine am_of (lv := [some (.ref 2), some (.int c), some (.int 0)]) rfl (Nat.le_of_ble_eq_true rfl) rfl ?_
  refine aw_aload_n (pc' := 1) dJ0_indexOf_7cf53_0 rfl rfl rfl ?_
  refine aw_callStr (M' := mJ0_isLatin1_aae02) (nc' := 0) (ns' := 0) (pc' := 4) dJ0_indexOf_7cf53_1 rfl ml_RJ0_492 kJ0_isLatin1_aae02 (c_lat _) rfl rfl rfl (Nat.le_of_ble_eq_true rfl) (rok rfl) rfl rfl (fun r1 h1 q1 => ?_)
  obtain ⟨rfl, rfl⟩ := q1
  refine aw_if_eq (tgt := 23) (pc' := 7) dJ0_indexOf_7cf53_4 (by decide) rfl (fun c => absurd c (by decide)) (fun _ => ?_)
  refine aw_aload_n (pc' := 8) dJ0_indexOf_7cf53_7 rfl rfl rfl ?_
  refine aw_sval (pc' := 11) dJ0_indexOf_7cf53_8 rfl fs_RJ0_9 ?_
  refine aw_iload_n (pc' := 12) dJ0_indexOf_7cf53_11 rfl rfl ?_
  refine aw_iload_n (pc' := 13) dJ0_indexOf_7cf53_12 rfl rfl ?_
  refine aw_aload_n (pc' := 14) dJ0_indexOf_7cf53_13 rfl rfl rfl ?_
  refine aw_callStr (M' := mJ0_length_8abf5) (nc' := 0) (ns' := 0) (pc' := 17) dJ0_indexOf_7cf53_14 rfl ml_RJ0_505 kJ0_length_8abf5 (c_slen _) rfl rfl rfl (Nat.le_of_ble_eq_true rfl) (rok rfl) rfl rfl (fun r2 h2 q2 => ?_)
  obtain ⟨rfl, rfl⟩ := q2
  refine aw_callSi (M' := mJ1_indexOf_4cfef) (nc' := 0) (ns' := 0) (pc' := 20) dJ0_indexOf_7cf53_17 rfl ml_RJ0_637 kJ1_indexOf_4cfef (c_io1 _ _) rfl rfl (Nat.le_of_ble_eq_true rfl) (rok rfl) rfl rfl (fun r3 h3 q3 => ?_)
  obtain ⟨rfl, q3⟩ := q3
  refine aw_goto (tgt := 36) dJ0_indexOf_7cf53_20 (by decide) ?_
  exact aw_ri dJ0_indexOf_7cf53_36 rfl rfl (Nat.le_of_ble_eq_true rfl) (Nat.le_of_ble_eq_true rfl) ⟨rfl, q3⟩
set_option maxRecDepth 4000 in
theorem c_io0 (h : List aE) (c : Int32) : AM mJ0_indexOf_0f7a4 3 [.ref 2, .int c] h 0 0 (PI fun r h' => ixN c = r ∧ h = h') := by
  refine am_of (lv := [some (.ref 2), some (.int c)]) rfl (Nat.le_of_ble_eq_true rfl) rfl ?_
  refine aw_aload_n (pc' := 1) dJ0_indexOf_0f7a4_0 rfl rfl rfl ?_
  refine aw_iload_n (pc' := 2) dJ0_indexOf_0f7a4_1 rfl rfl ?_
  refine aw_iconst (v := 0) (pc' := 3) dJ0_indexOf_0f7a4_2 rfl (by decide) ?_
  refine aw_callStr (M' := mJ0_indexOf_7cf53) (nc' := 0) (ns' := 0) (pc' := 6) dJ0_indexOf_0f7a4_3 rfl ml_RJ0_633 kJ0_indexOf_7cf53 (c_io2 _ _) rfl rfl rfl (Nat.le_of_ble_eq_true rfl) (rok rfl) rfl rfl (fun r1 h1 q1 => ?_)
  obtain ⟨rfl, q1⟩ := q1
  exact aw_ri dJ0_indexOf_0f7a4_6 rfl rfl (Nat.le_of_ble_eq_true rfl) (Nat.le_of_ble_eq_true rfl) ⟨q1, rfl⟩
set_option maxRecDepth 4000 in
theorem c_copyOf {h : List aE} {q : Nat} {f : Nat → Int32} {N : Int32} (hq : h[q]? = some (.inl (0, 161, .inl f))) (h0 : ¬ N < 0) (hn1 : ¬ 161 < N) : AM mJ7_copyOf_59c91 1 [.ref (q + 8), .int N] h 1 161 (PA fun v h' => v = .ref (h.length + 8) ∧ ∃ g : Nat → Int32, (∀ j, j < N.toNatClampNeg → g j = f j) ∧ h ++ [.inl (0, N.toNatClampNeg, .inl g)] = h') := by
  have hN : N.toNatClampNeg ≤ 161 := by
    have a := nncl h0
    rw [Int32.lt_iff_toInt_lt] at hn1
    have : (161 : Int32).toInt = 161 := rfl
    omega
  refine am_of (lv := [some (.ref (q + 8)), some (.int N), none]) rfl (Nat.le_of_ble_eq_true rfl) rfl ?_
  refine aw_iload_n (pc' := 1) dJ7_copyOf_59c91_0 rfl rfl ?_
  refine aw_aload_n (pc' := 2) dJ7_copyOf_59c91_1 rfl rfl rfl ?_
  refine aw_alen (v := 161) (pc' := 3) dJ7_copyOf_59c91_2 rfl hq (by decide) rfl ?_
  refine aw_icmp_ne (tgt := 14) (pc' := 6) dJ7_copyOf_59c91_3 (by decide) rfl (fun c1 => ?_) (fun c1 => ?_)
  rotate_left
  · have e161 : N.toNatClampNeg = 161 := by rw [c1]; decide
    refine aw_aload_n (pc' := 7) dJ7_copyOf_59c91_6 rfl rfl rfl ?_
    refine aw_cln (pc' := 10) dJ7_copyOf_59c91_7 rfl ml_RJ7_316 hq (by decide) (by decide) (by decide) (by decide) ?_
    refine aw_cst (pc' := 13) dJ7_copyOf_59c91_10 rfl cl_RJ7_317 (q0 := h.length) (x := (161, .inl f)) (by simp) ?_
    exact aw_ra dJ7_copyOf_59c91_13 rfl (Or.inr ⟨_, rfl⟩) rfl (by decide) (by decide) ⟨rfl, f, fun _ _ => rfl, by rw [e161]⟩
  refine aw_iload_n (pc' := 15) dJ7_copyOf_59c91_14 rfl rfl ?_
  refine aw_newiG (nc' := 1) (ns' := N.toNatClampNeg) (pc' := 17) dJ7_copyOf_59c91_15 rfl h0 rfl (by omega) (by decide) (by show 0 + _ ≤ 161; omega) rfl rfl (by omega) (fun h1 e1 => ?_)
  refine aw_astore_n (lv' := [_, _, _]) (pc' := 18) dJ7_copyOf_59c91_17 rfl (Nat.le_of_ble_eq_true rfl) rfl rfl ?_
  refine aw_aload_n (pc' := 19) dJ7_copyOf_59c91_18 rfl rfl rfl ?_
  refine aw_iconst (v := 0) (pc' := 20) dJ7_copyOf_59c91_19 rfl (by decide) ?_
  refine aw_aload_n (pc' := 21) dJ7_copyOf_59c91_20 rfl rfl rfl ?_
  refine aw_iconst (v := 0) (pc' := 22) dJ7_copyOf_59c91_21 rfl (by decide) ?_
  refine aw_aload_n (pc' := 23) dJ7_copyOf_59c91_22 rfl rfl rfl ?_
  refine aw_alen (v := 161) (pc' := 24) dJ7_copyOf_59c91_23 rfl (gpn e1 hq) (by decide) rfl ?_
  refine aw_iload_n (pc' := 25) dJ7_copyOf_59c91_24 rfl rfl ?_
  have em : f_J9_min_7cf53 161 N = some N := by
    unfold f_J9_min_7cf53
    split
    · rfl
    · rename_i z
      rw [Int32.lt_iff_toInt_lt] at z hn1
      exact absurd (Int32.toInt_inj.mp (by omega : N.toInt = (161 : Int32).toInt)) c1
  refine aw_callSi (M' := mJ9_min_7cf53) (nc' := 1) (ns' := N.toNatClampNeg) (pc' := 28) dJ7_copyOf_59c91_25 rfl ml_RJ7_304 kJ9_min_7cf53 (t_J9_min_7cf53 em) rfl rfl (Nat.le_of_ble_eq_true rfl) (rokD (by decide) (Nat.le_of_ble_eq_true rfl) (by decide) (by omega)) rfl rfl (fun r2 h2 q2 => ?_)
  obtain ⟨rfl, rfl⟩ := q2
  refine aw_cpi (pc' := 31) dJ7_copyOf_59c91_28 rfl ml_RJ7_150 (gpn e1 hq) (gps e1 rfl) (by decide) (by decide) h0 (by show 0 + _ ≤ _; omega) (by show 0 + _ ≤ _; omega) (by decide) (by decide) (fun h3 e3 => ?_)
  refine aw_aload_n (pc' := 32) dJ7_copyOf_59c91_31 rfl rfl rfl ?_
  refine aw_ra dJ7_copyOf_59c91_32 rfl (Or.inr ⟨_, rfl⟩) rfl (by decide) hN ⟨rfl, va_cpy f (fun _ => 0) 0 0 N.toNatClampNeg, fun j hj => ?_, ?_⟩
  · unfold va_cpy
    rw [if_pos ⟨Nat.zero_le _, by omega⟩, Nat.zero_add, Nat.sub_zero]
  · rw [← e3, ← e1, List.set_append_right _ _ (Nat.le_refl _), Nat.sub_self]
    rfl
set_option maxRecDepth 4000 in
theorem ci0_X3_init (pre : List aE) (L : Nat) (c : Int32) (w : Int32) (hL : pre.length = L) : AM mX3_init 1 [.ref (L + 8), .int c, .int w] (pre ++ [.inr (3, [.int 0, .int 0, .int 0, .int 0, .int 0, .int 0, .int 0, .int 0, .null, .null, .null])]) 3 183 (PV fun h' => h' = pre ++ [.inr (3, [.int c, .int w, .int c, .int 0, .int 0, .int 0, .int 0, .int 0, .ref (L + 1 + 8), .ref (L + 2 + 8), .ref (L + 3 + 8)]), .inl (0, 61, .inl (fun _ => 0)), .inl (0, 61, .inl (fun _ => 0)), .inl (0, 61, .inl (fun _ => (-2000000000)))]) := by
  refine am_of (lv := [some (.ref (L + 8)), some (.int c), some (.int w)]) rfl (Nat.le_of_ble_eq_true rfl) rfl ?_
  refine aw_aload_n (pc' := 1) dX3_init_0 rfl rfl rfl ?_
  refine aw_objInit (pc' := 4) dX3_init_1 rfl ml_RX3_3 oi_i oi_c (Nat.le_of_ble_eq_true rfl) (by decide) (by decide) ?_
  refine aw_aload_n (pc' := 5) dX3_init_4 rfl rfl rfl ?_
  refine aw_bipush (v := 61) (pc' := 7) dX3_init_5 rfl (by decide) ?_
  refine aw_newi (N := 61) (r := L + 1 + 8) (nc' := 1) (ns' := 61) (pc' := 9) dX3_init_7 rfl (by decide) (by decide) (by decide) (by decide) (by decide) (gA_len hL rfl) (gA_push (r' := [.inr (3, [.int 0, .int 0, .int 0, .int 0, .int 0, .int 0, .int 0, .int 0, .null, .null, .null]), .inl (0, 61, .inl (fun _ => 0))]) rfl) rfl rfl ?_
  refine aw_putF clsAll (pc' := 12) dX3_init_9 rfl fl_RX3_9 rfl rfl (gA_ hL (j := 0) rfl) (Nat.le_of_ble_eq_true rfl) rfl (gA_set hL (j := 0) (r' := [.inr (3, [.int 0, .int 0, .int 0, .int 0, .int 0, .int 0, .int 0, .int 0, .ref (L + 1 + 8), .null, .null]), .inl (0, 61, .inl (fun _ => 0))]) rfl) ?_
  refine aw_aload_n (pc' := 13) dX3_init_12 rfl rfl rfl ?_
  refine aw_bipush (v := 61) (pc' := 15) dX3_init_13 rfl (by decide) ?_
  refine aw_newi (N := 61) (r := L + 2 + 8) (nc' := 2) (ns' := 122) (pc' := 17) dX3_init_15 rfl (by decide) (by decide) (by decide) (by decide) (by decide) (gA_len hL rfl) (gA_push (r' := [.inr (3, [.int 0, .int 0, .int 0, .int 0, .int 0, .int 0, .int 0, .int 0, .ref (L + 1 + 8), .null, .null]), .inl (0, 61, .inl (fun _ => 0)), .inl (0, 61, .inl (fun _ => 0))]) rfl) rfl rfl ?_
  refine aw_putF clsAll (pc' := 20) dX3_init_17 rfl fl_RX3_15 rfl rfl (gA_ hL (j := 0) rfl) (Nat.le_of_ble_eq_true rfl) rfl (gA_set hL (j := 0) (r' := [.inr (3, [.int 0, .int 0, .int 0, .int 0, .int 0, .int 0, .int 0, .int 0, .ref (L + 1 + 8), .ref (L + 2 + 8), .null]), .inl (0, 61, .inl (fun _ => 0)), .inl (0, 61, .inl (fun _ => 0))]) rfl) ?_
  refine aw_aload_n (pc' := 21) dX3_init_20 rfl rfl rfl ?_
  refine aw_bipush (v := 61) (pc' := 23) dX3_init_21 rfl (by decide) ?_
  refine aw_newi (N := 61) (r := L + 3 + 8) (nc' := 3) (ns' := 183) (pc' := 25) dX3_init_23 rfl (by decide) (by decide) (by decide) (by decide) (by decide) (gA_len hL rfl) (gA_push (r' := [.inr (3, [.int 0, .int 0, .int 0, .int 0, .int 0, .int 0, .int 0, .int 0, .ref (L + 1 + 8), .ref (L + 2 + 8), .null]), .inl (0, 61, .inl (fun _ => 0)), .inl (0, 61, .inl (fun _ => 0)), .inl (0, 61, .inl (fun _ => 0))]) rfl) rfl rfl ?_
  refine aw_putF clsAll (pc' := 28) dX3_init_25 rfl fl_RX3_18 rfl rfl (gA_ hL (j := 0) rfl) (Nat.le_of_ble_eq_true rfl) rfl (gA_set hL (j := 0) (r' := [.inr (3, [.int 0, .int 0, .int 0, .int 0, .int 0, .int 0, .int 0, .int 0, .ref (L + 1 + 8), .ref (L + 2 + 8), .ref (L + 3 + 8)]), .inl (0, 61, .inl (fun _ => 0)), .inl (0, 61, .inl (fun _ => 0)), .inl (0, 61, .inl (fun _ => 0))]) rfl) ?_
  refine aw_aload_n (pc' := 29) dX3_init_28 rfl rfl rfl ?_
  refine aw_iload_n (pc' := 30) dX3_init_29 rfl rfl ?_
  refine aw_putF clsAll (pc' := 33) dX3_init_30 rfl fl_RX3_21 rfl rfl (gA_ hL (j := 0) rfl) (Nat.le_of_ble_eq_true rfl) rfl (gA_set hL (j := 0) (r' := [.inr (3, [.int c, .int 0, .int 0, .int 0, .int 0, .int 0, .int 0, .int 0, .ref (L + 1 + 8), .ref (L + 2 + 8), .ref (L + 3 + 8)]), .inl (0, 61, .inl (fun _ => 0)), .inl (0, 61, .inl (fun _ => 0)), .inl (0, 61, .inl (fun _ => 0))]) rfl) ?_
  refine aw_aload_n (pc' := 34) dX3_init_33 rfl rfl rfl ?_
  refine aw_iload_n (pc' := 35) dX3_init_34 rfl rfl ?_
  refine aw_putF clsAll (pc' := 38) dX3_init_35 rfl fl_RX3_25 rfl rfl (gA_ hL (j := 0) rfl) (Nat.le_of_ble_eq_true rfl) rfl (gA_set hL (j := 0) (r' := [.inr (3, [.int c, .int w, .int 0, .int 0, .int 0, .int 0, .int 0, .int 0, .ref (L + 1 + 8), .ref (L + 2 + 8), .ref (L + 3 + 8)]), .inl (0, 61, .inl (fun _ => 0)), .inl (0, 61, .inl (fun _ => 0)), .inl (0, 61, .inl (fun _ => 0))]) rfl) ?_
  refine aw_aload_n (pc' := 39) dX3_init_38 rfl rfl rfl ?_
  refine aw_iload_n (pc' := 40) dX3_init_39 rfl rfl ?_
  refine aw_put clsAll (pc' := 43) dX3_init_40 rfl fl_RX3_28 (gA_ hL (j := 0) rfl) (Nat.le_of_ble_eq_true rfl) rfl (gA_set hL (j := 0) (r' := [.inr (3, [.int c, .int w, .int c, .int 0, .int 0, .int 0, .int 0, .int 0, .ref (L + 1 + 8), .ref (L + 2 + 8), .ref (L + 3 + 8)]), .inl (0, 61, .inl (fun _ => 0)), .inl (0, 61, .inl (fun _ => 0)), .inl (0, 61, .inl (fun _ => 0))]) rfl) ?_
  refine aw_aload_n (pc' := 44) dX3_init_43 rfl rfl rfl ?_
  refine aw_get clsAll (pc' := 47) dX3_init_44 rfl fl_RX3_18 (gA_ hL (j := 0) rfl) rfl ?_
  refine aw_ldc (pc' := 49) dX3_init_47 rfl ct_RX3_31 ?_
  refine aw_callSv (M' := mJ7_fill_53178) (nc' := 3) (ns' := 183) (pc' := 52) dX3_init_49 rfl ml_RX3_32 kJ7_fill_53178 (c_fill (-2000000000) (gA_ hL (j := 3) rfl) (by decide)) rfl rfl (Nat.le_of_ble_eq_true rfl) (rok rfl) rfl rfl (fun h1 q1 => ?_)
  obtain rfl : h1 = pre ++ [.inr (3, [.int c, .int w, .int c, .int 0, .int 0, .int 0, .int 0, .int 0, .ref (L + 1 + 8), .ref (L + 2 + 8), .ref (L + 3 + 8)]), .inl (0, 61, .inl (fun _ => 0)), .inl (0, 61, .inl (fun _ => 0)), .inl (0, 61, .inl (fun _ => (-2000000000)))] := q1.symm.trans (gA_set hL (j := 3) rfl)
  exact aw_rv dX3_init_52 rfl (Nat.le_of_ble_eq_true rfl) (Nat.le_of_ble_eq_true rfl) rfl
theorem ci_X3_init (pre r0 : List aE) (L : Nat) (c : Int32) (w : Int32) (hL : pre.length + r0.length = L) : AM mX3_init 1 [.ref (L + 8), .int c, .int w] (pre ++ (r0 ++ [.inr (3, [.int 0, .int 0, .int 0, .int 0, .int 0, .int 0, .int 0, .int 0, .null, .null, .null])])) 3 183 (PV fun h' => h' = pre ++ (r0 ++ [.inr (3, [.int c, .int w, .int c, .int 0, .int 0, .int 0, .int 0, .int 0, .ref (L + 1 + 8), .ref (L + 2 + 8), .ref (L + 3 + 8)]), .inl (0, 61, .inl (fun _ => 0)), .inl (0, 61, .inl (fun _ => 0)), .inl (0, 61, .inl (fun _ => (-2000000000)))])) := by
  have q := ci0_X3_init (pre ++ r0) L c w (by rw [List.length_append]; exact hL)
  simp only [List.append_assoc] at q
  exact q
set_option maxRecDepth 4000 in
theorem ci0_X1_init (pre : List aE) (L : Nat) (c : Int32) (w : Int32) (y : Int32) (hL : pre.length = L) : AM mX1_init 1 [.ref (L + 8), .int c, .int w, .int y] (pre ++ [.inr (1, [.int 0, .int 0, .int 0, .null, .int 0])]) 1 61 (PV fun h' => h' = pre ++ [.inr (1, [.int c, .int w, .int y, .ref (L + 1 + 8), .int 0]), .inl (0, 61, .inl (fun _ => 0))]) := by
  refine am_of (lv := [some (.ref (L + 8)), some (.int c), some (.int w), some (.int y)]) rfl (Nat.le_of_ble_eq_true rfl) rfl ?_
  refine aw_aload_n (pc' := 1) dX1_init_0 rfl rfl rfl ?_
  refine aw_objInit (pc' := 4) dX1_init_1 rfl ml_RX1_3 oi_i oi_c (Nat.le_of_ble_eq_true rfl) (by decide) (by decide) ?_
  refine aw_aload_n (pc' := 5) dX1_init_4 rfl rfl rfl ?_
  refine aw_bipush (v := 61) (pc' := 7) dX1_init_5 rfl (by decide) ?_
  refine aw_newi (N := 61) (r := L + 1 + 8) (nc' := 1) (ns' := 61) (pc' := 9) dX1_init_7 rfl (by decide) (by decide) (by decide) (by decide) (by decide) (gA_len hL rfl) (gA_push (r' := [.inr (1, [.int 0, .int 0, .int 0, .null, .int 0]), .inl (0, 61, .inl (fun _ => 0))]) rfl) rfl rfl ?_
  refine aw_putF clsAll (pc' := 12) dX1_init_9 rfl fl_RX1_9 rfl rfl (gA_ hL (j := 0) rfl) (Nat.le_of_ble_eq_true rfl) rfl (gA_set hL (j := 0) (r' := [.inr (1, [.int 0, .int 0, .int 0, .ref (L + 1 + 8), .int 0]), .inl (0, 61, .inl (fun _ => 0))]) rfl) ?_
  refine aw_aload_n (pc' := 13) dX1_init_12 rfl rfl rfl ?_
  refine aw_iload_n (pc' := 14) dX1_init_13 rfl rfl ?_
  refine aw_putF clsAll (pc' := 17) dX1_init_14 rfl fl_RX1_15 rfl rfl (gA_ hL (j := 0) rfl) (Nat.le_of_ble_eq_true rfl) rfl (gA_set hL (j := 0) (r' := [.inr (1, [.int c, .int 0, .int 0, .ref (L + 1 + 8), .int 0]), .inl (0, 61, .inl (fun _ => 0))]) rfl) ?_
  refine aw_aload_n (pc' := 18) dX1_init_17 rfl rfl rfl ?_
  refine aw_iload_n (pc' := 19) dX1_init_18 rfl rfl ?_
  refine aw_putF clsAll (pc' := 22) dX1_init_19 rfl fl_RX1_19 rfl rfl (gA_ hL (j := 0) rfl) (Nat.le_of_ble_eq_true rfl) rfl (gA_set hL (j := 0) (r' := [.inr (1, [.int c, .int w, .int 0, .ref (L + 1 + 8), .int 0]), .inl (0, 61, .inl (fun _ => 0))]) rfl) ?_
  refine aw_aload_n (pc' := 23) dX1_init_22 rfl rfl rfl ?_
  refine aw_iload_n (pc' := 24) dX1_init_23 rfl rfl ?_
  refine aw_putF clsAll (pc' := 27) dX1_init_24 rfl fl_RX1_22 rfl rfl (gA_ hL (j := 0) rfl) (Nat.le_of_ble_eq_true rfl) rfl (gA_set hL (j := 0) (r' := [.inr (1, [.int c, .int w, .int y, .ref (L + 1 + 8), .int 0]), .inl (0, 61, .inl (fun _ => 0))]) rfl) ?_
  exact aw_rv dX1_init_27 rfl (Nat.le_of_ble_eq_true rfl) (Nat.le_of_ble_eq_true rfl) rfl
theorem ci_X1_init (pre r0 : List aE) (L : Nat) (c : Int32) (w : Int32) (y : Int32) (hL : pre.length + r0.length = L) : AM mX1_init 1 [.ref (L + 8), .int c, .int w, .int y] (pre ++ (r0 ++ [.inr (1, [.int 0, .int 0, .int 0, .null, .int 0])])) 1 61 (PV fun h' => h' = pre ++ (r0 ++ [.inr (1, [.int c, .int w, .int y, .ref (L + 1 + 8), .int 0]), .inl (0, 61, .inl (fun _ => 0))])) := by
  have q := ci0_X1_init (pre ++ r0) L c w y (by rw [List.length_append]; exact hL)
  simp only [List.append_assoc] at q
  exact q
set_option maxRecDepth 4000 in
theorem c_text {h : List aE} {q k : Nat} (a b c e : Int32) (hq : h[q]? = some (.inr (10, [.int 0, .int 0, .int 0, .int 0, .null]))) : AM mX10_init 1 [.ref (q + 8), .int a, .int b, .int c, .int e, .ref (k + 8)] h 0 0 (PV fun h' => h.set q (.inr (10, [.int a, .int b, .int c, .int e, .ref (k + 8)])) = h') := by
  refine am_of (lv := [some (.ref (q + 8)), some (.int a), some (.int b), some (.int c), some (.int e), some (.ref (k + 8))]) rfl (Nat.le_of_ble_eq_true rfl) rfl ?_
  refine aw_aload_n (pc' := 1) dX10_init_0 rfl rfl rfl ?_
  refine aw_objInit (pc' := 4) dX10_init_1 rfl ml_RX10_1 oi_i oi_c (Nat.le_of_ble_eq_true rfl) (by decide) (by decide) ?_
  refine aw_aload_n (pc' := 5) dX10_init_4 rfl rfl rfl ?_
  refine aw_iload_n (pc' := 6) dX10_init_5 rfl rfl ?_
  refine aw_putFG clsAll (pc' := 9) dX10_init_6 rfl fl_RX10_7 rfl rfl hq (Nat.le_of_ble_eq_true rfl) rfl (fun h0 e0 => ?_)
  refine aw_aload_n (pc' := 10) dX10_init_9 rfl rfl rfl ?_
  refine aw_iload_n (pc' := 11) dX10_init_10 rfl rfl ?_
  refine aw_putFG clsAll (pc' := 14) dX10_init_11 rfl fl_RX10_13 rfl rfl (gss e0 hq) (Nat.le_of_ble_eq_true rfl) rfl (fun h1 e1 => ?_)
  refine aw_aload_n (pc' := 15) dX10_init_14 rfl rfl rfl ?_
  refine aw_iload_n (pc' := 16) dX10_init_15 rfl rfl ?_
  refine aw_putFG clsAll (pc' := 19) dX10_init_16 rfl fl_RX10_16 rfl rfl (gss e1 (gss e0 hq)) (Nat.le_of_ble_eq_true rfl) rfl (fun h2 e2 => ?_)
  refine aw_aload_n (pc' := 20) dX10_init_19 rfl rfl rfl ?_
  refine aw_iload (pc' := 22) dX10_init_20 rfl rfl ?_
  refine aw_putFG clsAll (pc' := 25) dX10_init_22 rfl fl_RX10_19 rfl rfl (gss e2 (gss e1 (gss e0 hq))) (Nat.le_of_ble_eq_true rfl) rfl (fun h3 e3 => ?_)
  refine aw_aload_n (pc' := 26) dX10_init_25 rfl rfl rfl ?_
  refine aw_aload (pc' := 28) dX10_init_26 rfl rfl rfl ?_
  refine aw_putFG clsAll (pc' := 31) dX10_init_28 rfl fl_RX10_22 rfl rfl (gss e3 (gss e2 (gss e1 (gss e0 hq)))) (Nat.le_of_ble_eq_true rfl) rfl (fun h4 e4 => ?_)
  refine aw_rv dX10_init_31 rfl (Nat.le_of_ble_eq_true rfl) (Nat.le_of_ble_eq_true rfl) ?_
  rw [← e4, ← e3, ← e2, ← e1, ← e0]
  simp only [List.set_set]
  rfl
