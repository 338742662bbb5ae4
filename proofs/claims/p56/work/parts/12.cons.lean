abbrev qr (L k : Nat) : Value := .ref (L + k + 8)
abbrev qz : Value := .int 0
abbrev qn : Value := .int (-1)
abbrev qa (n : Nat) : aE := .inl (0, n, .inl (fun _ => 0))
abbrev qb (n : Nat) : aE := .inl (1, n, .inl (fun _ => 0))
theorem fs_RJ0_38 : Cond.fieldLink RJ0 38 "java/lang/String" "COMPACT_STRINGS" "Z" ∈ gw := gw_in in_t1 228 (by decide +kernel) rfl
theorem fs_RJ0_1053 : Cond.fieldLink RJ0 1053 "jdk/internal/util/Preconditions" "SIOOBE_FORMATTER" "Ljava/util/function/BiFunction;" ∈ gw := gw_in in_t4 96 (by decide +kernel) rfl
theorem fs_RJ2_44 : Cond.fieldLink RJ2 44 "java/lang/StringUTF16" "$assertionsDisabled" "Z" ∈ gw := gw_in in_t4 107 (by decide +kernel) rfl
theorem fs_RJ2_59 : Cond.fieldLink RJ2 59 "java/lang/StringUTF16" "HI_BYTE_SHIFT" "I" ∈ gw := gw_in in_t4 109 (by decide +kernel) rfl
theorem fs_RJ2_63 : Cond.fieldLink RJ2 63 "java/lang/StringUTF16" "LO_BYTE_SHIFT" "I" ∈ gw := gw_in in_t4 111 (by decide +kernel) rfl
theorem fs_RJ0_9 : Cond.fieldLink RJ0 9 "java/lang/String" "value" "[B" ∈ gw := gw_in in_t9 50 (by decide +kernel) rfl
theorem fs_RJ0_15 : Cond.fieldLink RJ0 15 "java/lang/String" "coder" "B" ∈ gw := gw_in in_t9 51 (by decide +kernel) rfl
set_option maxRecDepth 4000 in
theorem c_coder (h : List aE) : AM mJ0_coder_7d493 0 [.ref 2] h 0 0 (PI fun r h' => h = h' ∧ r = 0) := by
  refine am_of (lv := [some (.ref 2)]) rfl (Nat.le_of_ble_eq_true rfl) rfl ?_
  refine aw_cmp (pc' := 3) dJ0_coder_7d493_0 rfl fs_RJ0_38 ?_
  refine aw_if_eq (tgt := 13) (pc' := 6) dJ0_coder_7d493_3 (by decide) rfl (fun c => absurd c (by decide)) (fun _ => ?_)
  refine aw_aload_n (pc' := 7) dJ0_coder_7d493_6 rfl rfl rfl ?_
  refine aw_scod (pc' := 10) dJ0_coder_7d493_7 rfl fs_RJ0_15 ?_
  refine aw_goto (tgt := 14) dJ0_coder_7d493_10 (by decide) ?_
  exact aw_ri dJ0_coder_7d493_14 rfl (by decide) (Nat.le_of_ble_eq_true rfl) (Nat.le_of_ble_eq_true rfl) ⟨rfl, rfl⟩
set_option maxRecDepth 4000 in
theorem c_slen (h : List aE) : AM mJ0_length_8abf5 1 [.ref 2] h 0 0 (PI fun r h' => h = h' ∧ r = 8) := by
  refine am_of (lv := [some (.ref 2)]) rfl (Nat.le_of_ble_eq_true rfl) rfl ?_
  refine aw_aload_n (pc' := 1) dJ0_length_8abf5_0 rfl rfl rfl ?_
  refine aw_sval (pc' := 4) dJ0_length_8abf5_1 rfl fs_RJ0_9 ?_
  refine aw_sbl (pc' := 5) dJ0_length_8abf5_4 rfl ?_
  refine aw_aload_n (pc' := 6) dJ0_length_8abf5_5 rfl rfl rfl ?_
  refine aw_callStr (M' := mJ0_coder_7d493) (nc' := 0) (ns' := 0) (pc' := 9) dJ0_length_8abf5_6 rfl ml_RJ0_335 kJ0_coder_7d493 (c_coder _) rfl rfl rfl (Nat.le_of_ble_eq_true rfl) (rok rfl) rfl rfl (fun r1 h1 q1 => ?_)
  obtain ⟨rfl, rfl⟩ := q1
  refine aw_ishr (pc' := 10) dJ0_length_8abf5_9 rfl ?_
  refine aw_topi (v := 8) (by decide) ?_
  exact aw_ri dJ0_length_8abf5_10 rfl rfl (Nat.le_of_ble_eq_true rfl) (Nat.le_of_ble_eq_true rfl) ⟨rfl, rfl⟩
set_option maxRecDepth 4000 in
theorem ci0_X5_init (pre : List aE) (L : Nat)  (hL : pre.length = L) : AM mX5_init 2 [.ref (L + 8)] (pre ++ [.inr (5, [.null, .null, .null, .null, qz])]) 4 3960 (PV fun h' => h' = pre ++ [.inr (5, [qr L 1, qr L 2, qr L 3, qr L 4, qz]), .inl (0, 1920, .inl (fun _ => 3)), qa 1920, qa 60, qa 60]) := by
  refine am_of (lv := [some (.ref (L + 8))]) rfl (Nat.le_of_ble_eq_true rfl) rfl ?_
  refine aw_aload_n (pc' := 1) dX5_init_0 rfl rfl rfl ?_
  refine aw_objInit (pc' := 4) dX5_init_1 rfl ml_RX5_3 oi_i oi_c (Nat.le_of_ble_eq_true rfl) (by decide) (by decide) ?_
  refine aw_aload_n (pc' := 5) dX5_init_4 rfl rfl rfl ?_
  refine aw_sipush (v := 1920) (pc' := 8) dX5_init_5 rfl (by decide) ?_
  refine aw_newi (N := 1920) (r := L + 1 + 8) (nc' := 1) (ns' := 1920) (pc' := 10) dX5_init_8 rfl (by decide) (by decide) (by decide) (by decide) (by decide) (gA_len hL rfl) (gA_push (r' := [.inr (5, [.null, .null, .null, .null, qz]), qa 1920]) rfl) rfl rfl ?_
  refine aw_putF clsAll (pc' := 13) dX5_init_10 rfl fl_RX5_9 rfl rfl (gA_ hL (j := 0) rfl) (Nat.le_of_ble_eq_true rfl) rfl (gA_set hL (j := 0) (r' := [.inr (5, [qr L 1, .null, .null, .null, qz]), qa 1920]) rfl) ?_
  refine aw_aload_n (pc' := 14) dX5_init_13 rfl rfl rfl ?_
  refine aw_sipush (v := 1920) (pc' := 17) dX5_init_14 rfl (by decide) ?_
  refine aw_newi (N := 1920) (r := L + 2 + 8) (nc' := 2) (ns' := 3840) (pc' := 19) dX5_init_17 rfl (by decide) (by decide) (by decide) (by decide) (by decide) (gA_len hL rfl) (gA_push (r' := [.inr (5, [qr L 1, .null, .null, .null, qz]), qa 1920, qa 1920]) rfl) rfl rfl ?_
  refine aw_putF clsAll (pc' := 22) dX5_init_19 rfl fl_RX5_15 rfl rfl (gA_ hL (j := 0) rfl) (Nat.le_of_ble_eq_true rfl) rfl (gA_set hL (j := 0) (r' := [.inr (5, [qr L 1, qr L 2, .null, .null, qz]), qa 1920, qa 1920]) rfl) ?_
  refine aw_aload_n (pc' := 23) dX5_init_22 rfl rfl rfl ?_
  refine aw_bipush (v := 60) (pc' := 25) dX5_init_23 rfl (by decide) ?_
  refine aw_newi (N := 60) (r := L + 3 + 8) (nc' := 3) (ns' := 3900) (pc' := 27) dX5_init_25 rfl (by decide) (by decide) (by decide) (by decide) (by decide) (gA_len hL rfl) (gA_push (r' := [.inr (5, [qr L 1, qr L 2, .null, .null, qz]), qa 1920, qa 1920, qa 60]) rfl) rfl rfl ?_
  refine aw_putF clsAll (pc' := 30) dX5_init_27 rfl fl_RX5_18 rfl rfl (gA_ hL (j := 0) rfl) (Nat.le_of_ble_eq_true rfl) rfl (gA_set hL (j := 0) (r' := [.inr (5, [qr L 1, qr L 2, qr L 3, .null, qz]), qa 1920, qa 1920, qa 60]) rfl) ?_
  refine aw_aload_n (pc' := 31) dX5_init_30 rfl rfl rfl ?_
  refine aw_bipush (v := 60) (pc' := 33) dX5_init_31 rfl (by decide) ?_
  refine aw_newi (N := 60) (r := L + 4 + 8) (nc' := 4) (ns' := 3960) (pc' := 35) dX5_init_33 rfl (by decide) (by decide) (by decide) (by decide) (by decide) (gA_len hL rfl) (gA_push (r' := [.inr (5, [qr L 1, qr L 2, qr L 3, .null, qz]), qa 1920, qa 1920, qa 60, qa 60]) rfl) rfl rfl ?_
  refine aw_putF clsAll (pc' := 38) dX5_init_35 rfl fl_RX5_21 rfl rfl (gA_ hL (j := 0) rfl) (Nat.le_of_ble_eq_true rfl) rfl (gA_set hL (j := 0) (r' := [.inr (5, [qr L 1, qr L 2, qr L 3, qr L 4, qz]), qa 1920, qa 1920, qa 60, qa 60]) rfl) ?_
  refine aw_aload_n (pc' := 39) dX5_init_38 rfl rfl rfl ?_
  refine aw_get clsAll (pc' := 42) dX5_init_39 rfl fl_RX5_9 (gA_ hL (j := 0) rfl) rfl ?_
  refine aw_iconst (v := 3) (pc' := 43) dX5_init_42 rfl (by decide) ?_
  refine aw_callSv (M' := mJ7_fill_53178) (nc' := 4) (ns' := 3960) (pc' := 46) dX5_init_43 rfl ml_RX5_24 kJ7_fill_53178 (c_fill 3 (gA_ hL (j := 1) rfl) (by decide)) rfl rfl (Nat.le_of_ble_eq_true rfl) (rok rfl) rfl rfl (fun h1 q1 => ?_)
  obtain rfl : h1 = pre ++ [.inr (5, [qr L 1, qr L 2, qr L 3, qr L 4, qz]), .inl (0, 1920, .inl (fun _ => 3)), qa 1920, qa 60, qa 60] := q1.symm.trans (gA_set hL (j := 1) rfl)
  exact aw_rv dX5_init_46 rfl (Nat.le_of_ble_eq_true rfl) (Nat.le_of_ble_eq_true rfl) rfl
theorem ci_X5_init (pre r0 : List aE) (L : Nat)  (hL : pre.length + r0.length = L) : AM mX5_init 2 [.ref (L + 8)] (pre ++ (r0 ++ [.inr (5, [.null, .null, .null, .null, qz])])) 4 3960 (PV fun h' => h' = pre ++ (r0 ++ [.inr (5, [qr L 1, qr L 2, qr L 3, qr L 4, qz]), .inl (0, 1920, .inl (fun _ => 3)), qa 1920, qa 60, qa 60])) := by
  have q := ci0_X5_init (pre ++ r0) L  (by rw [List.length_append]; exact hL)
  simp only [List.append_assoc] at q
  exact q
set_option maxRecDepth 4000 in
theorem ci0_X2_init (pre : List aE) (L : Nat)  (hL : pre.length = L) : AM mX2_init 1 [.ref (L + 8)] (pre ++ [.inr (2, [.null, .null, .null, .null, qz, .null, .null, qz, .null, .null, qz, qz, qz])]) 8 849 (PV fun h' => h' = pre ++ [.inr (2, [qr L 1, qr L 2, qr L 3, qr L 4, qz, qr L 5, qr L 6, qz, qr L 7, qr L 8, qz, qz, qz]), qa 120, qa 120, qa 120, qa 120, qa 120, qa 9, qa 120, qa 120]) := by
  refine am_of (lv := [some (.ref (L + 8))]) rfl (Nat.le_of_ble_eq_true rfl) rfl ?_
  refine aw_aload_n (pc' := 1) dX2_init_0 rfl rfl rfl ?_
  refine aw_objInit (pc' := 4) dX2_init_1 rfl ml_RX2_3 oi_i oi_c (Nat.le_of_ble_eq_true rfl) (by decide) (by decide) ?_
  refine aw_aload_n (pc' := 5) dX2_init_4 rfl rfl rfl ?_
  refine aw_bipush (v := 120) (pc' := 7) dX2_init_5 rfl (by decide) ?_
  refine aw_newi (N := 120) (r := L + 1 + 8) (nc' := 1) (ns' := 120) (pc' := 9) dX2_init_7 rfl (by decide) (by decide) (by decide) (by decide) (by decide) (gA_len hL rfl) (gA_push (r' := [.inr (2, [.null, .null, .null, .null, qz, .null, .null, qz, .null, .null, qz, qz, qz]), qa 120]) rfl) rfl rfl ?_
  refine aw_putF clsAll (pc' := 12) dX2_init_9 rfl fl_RX2_9 rfl rfl (gA_ hL (j := 0) rfl) (Nat.le_of_ble_eq_true rfl) rfl (gA_set hL (j := 0) (r' := [.inr (2, [qr L 1, .null, .null, .null, qz, .null, .null, qz, .null, .null, qz, qz, qz]), qa 120]) rfl) ?_
  refine aw_aload_n (pc' := 13) dX2_init_12 rfl rfl rfl ?_
  refine aw_bipush (v := 120) (pc' := 15) dX2_init_13 rfl (by decide) ?_
  refine aw_newi (N := 120) (r := L + 2 + 8) (nc' := 2) (ns' := 240) (pc' := 17) dX2_init_15 rfl (by decide) (by decide) (by decide) (by decide) (by decide) (gA_len hL rfl) (gA_push (r' := [.inr (2, [qr L 1, .null, .null, .null, qz, .null, .null, qz, .null, .null, qz, qz, qz]), qa 120, qa 120]) rfl) rfl rfl ?_
  refine aw_putF clsAll (pc' := 20) dX2_init_17 rfl fl_RX2_15 rfl rfl (gA_ hL (j := 0) rfl) (Nat.le_of_ble_eq_true rfl) rfl (gA_set hL (j := 0) (r' := [.inr (2, [qr L 1, qr L 2, .null, .null, qz, .null, .null, qz, .null, .null, qz, qz, qz]), qa 120, qa 120]) rfl) ?_
  refine aw_aload_n (pc' := 21) dX2_init_20 rfl rfl rfl ?_
  refine aw_bipush (v := 120) (pc' := 23) dX2_init_21 rfl (by decide) ?_
  refine aw_newi (N := 120) (r := L + 3 + 8) (nc' := 3) (ns' := 360) (pc' := 25) dX2_init_23 rfl (by decide) (by decide) (by decide) (by decide) (by decide) (gA_len hL rfl) (gA_push (r' := [.inr (2, [qr L 1, qr L 2, .null, .null, qz, .null, .null, qz, .null, .null, qz, qz, qz]), qa 120, qa 120, qa 120]) rfl) rfl rfl ?_
  refine aw_putF clsAll (pc' := 28) dX2_init_25 rfl fl_RX2_18 rfl rfl (gA_ hL (j := 0) rfl) (Nat.le_of_ble_eq_true rfl) rfl (gA_set hL (j := 0) (r' := [.inr (2, [qr L 1, qr L 2, qr L 3, .null, qz, .null, .null, qz, .null, .null, qz, qz, qz]), qa 120, qa 120, qa 120]) rfl) ?_
  refine aw_aload_n (pc' := 29) dX2_init_28 rfl rfl rfl ?_
  refine aw_bipush (v := 120) (pc' := 31) dX2_init_29 rfl (by decide) ?_
  refine aw_newi (N := 120) (r := L + 4 + 8) (nc' := 4) (ns' := 480) (pc' := 33) dX2_init_31 rfl (by decide) (by decide) (by decide) (by decide) (by decide) (gA_len hL rfl) (gA_push (r' := [.inr (2, [qr L 1, qr L 2, qr L 3, .null, qz, .null, .null, qz, .null, .null, qz, qz, qz]), qa 120, qa 120, qa 120, qa 120]) rfl) rfl rfl ?_
  refine aw_putF clsAll (pc' := 36) dX2_init_33 rfl fl_RX2_21 rfl rfl (gA_ hL (j := 0) rfl) (Nat.le_of_ble_eq_true rfl) rfl (gA_set hL (j := 0) (r' := [.inr (2, [qr L 1, qr L 2, qr L 3, qr L 4, qz, .null, .null, qz, .null, .null, qz, qz, qz]), qa 120, qa 120, qa 120, qa 120]) rfl) ?_
  refine aw_aload_n (pc' := 37) dX2_init_36 rfl rfl rfl ?_
  refine aw_bipush (v := 120) (pc' := 39) dX2_init_37 rfl (by decide) ?_
  refine aw_newi (N := 120) (r := L + 5 + 8) (nc' := 5) (ns' := 600) (pc' := 41) dX2_init_39 rfl (by decide) (by decide) (by decide) (by decide) (by decide) (gA_len hL rfl) (gA_push (r' := [.inr (2, [qr L 1, qr L 2, qr L 3, qr L 4, qz, .null, .null, qz, .null, .null, qz, qz, qz]), qa 120, qa 120, qa 120, qa 120, qa 120]) rfl) rfl rfl ?_
  refine aw_putF clsAll (pc' := 44) dX2_init_41 rfl fl_RX2_24 rfl rfl (gA_ hL (j := 0) rfl) (Nat.le_of_ble_eq_true rfl) rfl (gA_set hL (j := 0) (r' := [.inr (2, [qr L 1, qr L 2, qr L 3, qr L 4, qz, qr L 5, .null, qz, .null, .null, qz, qz, qz]), qa 120, qa 120, qa 120, qa 120, qa 120]) rfl) ?_
  refine aw_aload_n (pc' := 45) dX2_init_44 rfl rfl rfl ?_
  refine aw_bipush (v := 9) (pc' := 47) dX2_init_45 rfl (by decide) ?_
  refine aw_newi (N := 9) (r := L + 6 + 8) (nc' := 6) (ns' := 609) (pc' := 49) dX2_init_47 rfl (by decide) (by decide) (by decide) (by decide) (by decide) (gA_len hL rfl) (gA_push (r' := [.inr (2, [qr L 1, qr L 2, qr L 3, qr L 4, qz, qr L 5, .null, qz, .null, .null, qz, qz, qz]), qa 120, qa 120, qa 120, qa 120, qa 120, qa 9]) rfl) rfl rfl ?_
  refine aw_putF clsAll (pc' := 52) dX2_init_49 rfl fl_RX2_27 rfl rfl (gA_ hL (j := 0) rfl) (Nat.le_of_ble_eq_true rfl) rfl (gA_set hL (j := 0) (r' := [.inr (2, [qr L 1, qr L 2, qr L 3, qr L 4, qz, qr L 5, qr L 6, qz, .null, .null, qz, qz, qz]), qa 120, qa 120, qa 120, qa 120, qa 120, qa 9]) rfl) ?_
  refine aw_aload_n (pc' := 53) dX2_init_52 rfl rfl rfl ?_
  refine aw_bipush (v := 120) (pc' := 55) dX2_init_53 rfl (by decide) ?_
  refine aw_newi (N := 120) (r := L + 7 + 8) (nc' := 7) (ns' := 729) (pc' := 57) dX2_init_55 rfl (by decide) (by decide) (by decide) (by decide) (by decide) (gA_len hL rfl) (gA_push (r' := [.inr (2, [qr L 1, qr L 2, qr L 3, qr L 4, qz, qr L 5, qr L 6, qz, .null, .null, qz, qz, qz]), qa 120, qa 120, qa 120, qa 120, qa 120, qa 9, qa 120]) rfl) rfl rfl ?_
  refine aw_putF clsAll (pc' := 60) dX2_init_57 rfl fl_RX2_30 rfl rfl (gA_ hL (j := 0) rfl) (Nat.le_of_ble_eq_true rfl) rfl (gA_set hL (j := 0) (r' := [.inr (2, [qr L 1, qr L 2, qr L 3, qr L 4, qz, qr L 5, qr L 6, qz, qr L 7, .null, qz, qz, qz]), qa 120, qa 120, qa 120, qa 120, qa 120, qa 9, qa 120]) rfl) ?_
  refine aw_aload_n (pc' := 61) dX2_init_60 rfl rfl rfl ?_
  refine aw_bipush (v := 120) (pc' := 63) dX2_init_61 rfl (by decide) ?_
  refine aw_newi (N := 120) (r := L + 8 + 8) (nc' := 8) (ns' := 849) (pc' := 65) dX2_init_63 rfl (by decide) (by decide) (by decide) (by decide) (by decide) (gA_len hL rfl) (gA_push (r' := [.inr (2, [qr L 1, qr L 2, qr L 3, qr L 4, qz, qr L 5, qr L 6, qz, qr L 7, .null, qz, qz, qz]), qa 120, qa 120, qa 120, qa 120, qa 120, qa 9, qa 120, qa 120]) rfl) rfl rfl ?_
  refine aw_putF clsAll (pc' := 68) dX2_init_65 rfl fl_RX2_33 rfl rfl (gA_ hL (j := 0) rfl) (Nat.le_of_ble_eq_true rfl) rfl (gA_set hL (j := 0) (r' := [.inr (2, [qr L 1, qr L 2, qr L 3, qr L 4, qz, qr L 5, qr L 6, qz, qr L 7, qr L 8, qz, qz, qz]), qa 120, qa 120, qa 120, qa 120, qa 120, qa 9, qa 120, qa 120]) rfl) ?_
  exact aw_rv dX2_init_68 rfl (Nat.le_of_ble_eq_true rfl) (Nat.le_of_ble_eq_true rfl) rfl
theorem ci_X2_init (pre r0 : List aE) (L : Nat)  (hL : pre.length + r0.length = L) : AM mX2_init 1 [.ref (L + 8)] (pre ++ (r0 ++ [.inr (2, [.null, .null, .null, .null, qz, .null, .null, qz, .null, .null, qz, qz, qz])])) 8 849 (PV fun h' => h' = pre ++ (r0 ++ [.inr (2, [qr L 1, qr L 2, qr L 3, qr L 4, qz, qr L 5, qr L 6, qz, qr L 7, qr L 8, qz, qz, qz]), qa 120, qa 120, qa 120, qa 120, qa 120, qa 9, qa 120, qa 120])) := by
  have q := ci0_X2_init (pre ++ r0) L  (by rw [List.length_append]; exact hL)
  simp only [List.append_assoc] at q
  exact q
set_option maxRecDepth 4000 in
theorem ci0_X0_init (pre : List aE) (L : Nat) (cr : Nat) (hL : pre.length = L) : AM mX0_init 1 [.ref (L + 8), .ref (cr + 8)] (pre ++ [.inr (0, [.null, .null, .null, qz, qz, qz, qz, qz, qz, qz, .null, qz])]) 3 264 (PV fun h' => h' = pre ++ [.inr (0, [qr L 1, qr L 2, .ref (cr + 8), qz, qz, qn, qz, qz, qz, qz, qr L 3, qz]), qa 120, .inl (4, 120, .inr (.inr (.inr (.inr (fun _ => none))))), qa 24]) := by
  refine am_of (lv := [some (.ref (L + 8)), some (.ref (cr + 8))]) rfl (Nat.le_of_ble_eq_true rfl) rfl ?_
  refine aw_aload_n (pc' := 1) dX0_init_0 rfl rfl rfl ?_
  refine aw_objInit (pc' := 4) dX0_init_1 rfl ml_RX0_3 oi_i oi_c (Nat.le_of_ble_eq_true rfl) (by decide) (by decide) ?_
  refine aw_aload_n (pc' := 5) dX0_init_4 rfl rfl rfl ?_
  refine aw_bipush (v := 120) (pc' := 7) dX0_init_5 rfl (by decide) ?_
  refine aw_newi (N := 120) (r := L + 1 + 8) (nc' := 1) (ns' := 120) (pc' := 9) dX0_init_7 rfl (by decide) (by decide) (by decide) (by decide) (by decide) (gA_len hL rfl) (gA_push (r' := [.inr (0, [.null, .null, .null, qz, qz, qz, qz, qz, qz, qz, .null, qz]), qa 120]) rfl) rfl rfl ?_
  refine aw_putF clsAll (pc' := 12) dX0_init_9 rfl fl_RX0_9 rfl rfl (gA_ hL (j := 0) rfl) (Nat.le_of_ble_eq_true rfl) rfl (gA_set hL (j := 0) (r' := [.inr (0, [qr L 1, .null, .null, qz, qz, qz, qz, qz, qz, qz, .null, qz]), qa 120]) rfl) ?_
  refine aw_aload_n (pc' := 13) dX0_init_12 rfl rfl rfl ?_
  refine aw_bipush (v := 120) (pc' := 15) dX0_init_13 rfl (by decide) ?_
  refine aw_anew (t := 4) (N := 120) (r := L + 2 + 8) (E := RX3) (pc' := 18) dX0_init_15 rfl (by decide) rfl cl_RX0_15 (by decide) (by decide) (by decide) (by decide) (by decide) (by decide) (gA_len hL rfl) (gA_push (r' := [.inr (0, [qr L 1, .null, .null, qz, qz, qz, qz, qz, qz, qz, .null, qz]), qa 120, .inl (4, 120, .inr (.inr (.inr (.inr (fun _ => none)))))]) rfl) (AW.toN (nc' := 2) (ns' := 240) rfl rfl ?_)
  refine aw_putF clsAll (pc' := 21) dX0_init_18 rfl fl_RX0_17 rfl rfl (gA_ hL (j := 0) rfl) (Nat.le_of_ble_eq_true rfl) rfl (gA_set hL (j := 0) (r' := [.inr (0, [qr L 1, qr L 2, .null, qz, qz, qz, qz, qz, qz, qz, .null, qz]), qa 120, .inl (4, 120, .inr (.inr (.inr (.inr (fun _ => none)))))]) rfl) ?_
  refine aw_aload_n (pc' := 22) dX0_init_21 rfl rfl rfl ?_
  refine aw_iconst (v := (-1)) (pc' := 23) dX0_init_22 rfl (by decide) ?_
  refine aw_put clsAll (pc' := 26) dX0_init_23 rfl fl_RX0_21 (gA_ hL (j := 0) rfl) (Nat.le_of_ble_eq_true rfl) rfl (gA_set hL (j := 0) (r' := [.inr (0, [qr L 1, qr L 2, .null, qz, qz, qn, qz, qz, qz, qz, .null, qz]), qa 120, .inl (4, 120, .inr (.inr (.inr (.inr (fun _ => none)))))]) rfl) ?_
  refine aw_aload_n (pc' := 27) dX0_init_26 rfl rfl rfl ?_
  refine aw_bipush (v := 24) (pc' := 29) dX0_init_27 rfl (by decide) ?_
  refine aw_newi (N := 24) (r := L + 3 + 8) (nc' := 3) (ns' := 264) (pc' := 31) dX0_init_29 rfl (by decide) (by decide) (by decide) (by decide) (by decide) (gA_len hL rfl) (gA_push (r' := [.inr (0, [qr L 1, qr L 2, .null, qz, qz, qn, qz, qz, qz, qz, .null, qz]), qa 120, .inl (4, 120, .inr (.inr (.inr (.inr (fun _ => none))))), qa 24]) rfl) rfl rfl ?_
  refine aw_putF clsAll (pc' := 34) dX0_init_31 rfl fl_RX0_25 rfl rfl (gA_ hL (j := 0) rfl) (Nat.le_of_ble_eq_true rfl) rfl (gA_set hL (j := 0) (r' := [.inr (0, [qr L 1, qr L 2, .null, qz, qz, qn, qz, qz, qz, qz, qr L 3, qz]), qa 120, .inl (4, 120, .inr (.inr (.inr (.inr (fun _ => none))))), qa 24]) rfl) ?_
  refine aw_aload_n (pc' := 35) dX0_init_34 rfl rfl rfl ?_
  refine aw_aload_n (pc' := 36) dX0_init_35 rfl rfl rfl ?_
  refine aw_putF clsAll (pc' := 39) dX0_init_36 rfl fl_RX0_28 rfl rfl (gA_ hL (j := 0) rfl) (Nat.le_of_ble_eq_true rfl) rfl (gA_set hL (j := 0) (r' := [.inr (0, [qr L 1, qr L 2, .ref (cr + 8), qz, qz, qn, qz, qz, qz, qz, qr L 3, qz]), qa 120, .inl (4, 120, .inr (.inr (.inr (.inr (fun _ => none))))), qa 24]) rfl) ?_
  exact aw_rv dX0_init_39 rfl (Nat.le_of_ble_eq_true rfl) (Nat.le_of_ble_eq_true rfl) rfl
theorem ci_X0_init (pre r0 : List aE) (L : Nat) (cr : Nat) (hL : pre.length + r0.length = L) : AM mX0_init 1 [.ref (L + 8), .ref (cr + 8)] (pre ++ (r0 ++ [.inr (0, [.null, .null, .null, qz, qz, qz, qz, qz, qz, qz, .null, qz])])) 3 264 (PV fun h' => h' = pre ++ (r0 ++ [.inr (0, [qr L 1, qr L 2, .ref (cr + 8), qz, qz, qn, qz, qz, qz, qz, qr L 3, qz]), qa 120, .inl (4, 120, .inr (.inr (.inr (.inr (fun _ => none))))), qa 24])) := by
  have q := ci0_X0_init (pre ++ r0) L cr (by rw [List.length_append]; exact hL)
  simp only [List.append_assoc] at q
  exact q
set_option maxRecDepth 4000 in
theorem ci0_X4_init (pre : List aE) (L : Nat)  (hL : pre.length = L) : AM mX4_init 1 [.ref (L + 8)] (pre ++ [.inr (4, [qz, qz, qz])]) 0 0 (PV fun h' => h' = pre ++ [.inr (4, [.int 20, qn, qn])]) := by
  refine am_of (lv := [some (.ref (L + 8))]) rfl (Nat.le_of_ble_eq_true rfl) rfl ?_
  refine aw_aload_n (pc' := 1) dX4_init_0 rfl rfl rfl ?_
  refine aw_objInit (pc' := 4) dX4_init_1 rfl ml_RX4_1 oi_i oi_c (Nat.le_of_ble_eq_true rfl) (by decide) (by decide) ?_
  refine aw_aload_n (pc' := 5) dX4_init_4 rfl rfl rfl ?_
  refine aw_bipush (v := 20) (pc' := 7) dX4_init_5 rfl (by decide) ?_
  refine aw_put clsAll (pc' := 10) dX4_init_7 rfl fl_RX4_7 (gA_ hL (j := 0) rfl) (Nat.le_of_ble_eq_true rfl) rfl (gA_set hL (j := 0) (r' := [.inr (4, [.int 20, qz, qz])]) rfl) ?_
  refine aw_aload_n (pc' := 11) dX4_init_10 rfl rfl rfl ?_
  refine aw_iconst (v := (-1)) (pc' := 12) dX4_init_11 rfl (by decide) ?_
  refine aw_put clsAll (pc' := 15) dX4_init_12 rfl fl_RX4_13 (gA_ hL (j := 0) rfl) (Nat.le_of_ble_eq_true rfl) rfl (gA_set hL (j := 0) (r' := [.inr (4, [.int 20, qn, qz])]) rfl) ?_
  refine aw_aload_n (pc' := 16) dX4_init_15 rfl rfl rfl ?_
  refine aw_iconst (v := (-1)) (pc' := 17) dX4_init_16 rfl (by decide) ?_
  refine aw_put clsAll (pc' := 20) dX4_init_17 rfl fl_RX4_16 (gA_ hL (j := 0) rfl) (Nat.le_of_ble_eq_true rfl) rfl (gA_set hL (j := 0) (r' := [.inr (4, [.int 20, qn, qn])]) rfl) ?_
  exact aw_rv dX4_init_20 rfl (Nat.le_of_ble_eq_true rfl) (Nat.le_of_ble_eq_true rfl) rfl
theorem ci_X4_init (pre r0 : List aE) (L : Nat)  (hL : pre.length + r0.length = L) : AM mX4_init 1 [.ref (L + 8)] (pre ++ (r0 ++ [.inr (4, [qz, qz, qz])])) 0 0 (PV fun h' => h' = pre ++ (r0 ++ [.inr (4, [.int 20, qn, qn])])) := by
  have q := ci0_X4_init (pre ++ r0) L  (by rw [List.length_append]; exact hL)
  simp only [List.append_assoc] at q
  exact q
set_option maxRecDepth 4000 in
theorem ci0_X7_init (pre : List aE) (L : Nat)  (hL : pre.length = L) : AM mX7_init 1 [.ref (L + 8)] (pre ++ [.inr (7, [.null, qz, .null, qz, qz, qz])]) 2 321 (PV fun h' => h' = pre ++ [.inr (7, [qr L 1, qz, qr L 2, qz, qz, qz]), qa 160, qa 161]) := by
  refine am_of (lv := [some (.ref (L + 8))]) rfl (Nat.le_of_ble_eq_true rfl) rfl ?_
  refine aw_aload_n (pc' := 1) dX7_init_0 rfl rfl rfl ?_
  refine aw_objInit (pc' := 4) dX7_init_1 rfl ml_RX7_3 oi_i oi_c (Nat.le_of_ble_eq_true rfl) (by decide) (by decide) ?_
  refine aw_aload_n (pc' := 5) dX7_init_4 rfl rfl rfl ?_
  refine aw_sipush (v := 160) (pc' := 8) dX7_init_5 rfl (by decide) ?_
  refine aw_newi (N := 160) (r := L + 1 + 8) (nc' := 1) (ns' := 160) (pc' := 10) dX7_init_8 rfl (by decide) (by decide) (by decide) (by decide) (by decide) (gA_len hL rfl) (gA_push (r' := [.inr (7, [.null, qz, .null, qz, qz, qz]), qa 160]) rfl) rfl rfl ?_
  refine aw_putF clsAll (pc' := 13) dX7_init_10 rfl fl_RX7_11 rfl rfl (gA_ hL (j := 0) rfl) (Nat.le_of_ble_eq_true rfl) rfl (gA_set hL (j := 0) (r' := [.inr (7, [qr L 1, qz, .null, qz, qz, qz]), qa 160]) rfl) ?_
  refine aw_aload_n (pc' := 14) dX7_init_13 rfl rfl rfl ?_
  refine aw_sipush (v := 161) (pc' := 17) dX7_init_14 rfl (by decide) ?_
  refine aw_newi (N := 161) (r := L + 2 + 8) (nc' := 2) (ns' := 321) (pc' := 19) dX7_init_17 rfl (by decide) (by decide) (by decide) (by decide) (by decide) (gA_len hL rfl) (gA_push (r' := [.inr (7, [qr L 1, qz, .null, qz, qz, qz]), qa 160, qa 161]) rfl) rfl rfl ?_
  refine aw_putF clsAll (pc' := 22) dX7_init_19 rfl fl_RX7_15 rfl rfl (gA_ hL (j := 0) rfl) (Nat.le_of_ble_eq_true rfl) rfl (gA_set hL (j := 0) (r' := [.inr (7, [qr L 1, qz, qr L 2, qz, qz, qz]), qa 160, qa 161]) rfl) ?_
  exact aw_rv dX7_init_22 rfl (Nat.le_of_ble_eq_true rfl) (Nat.le_of_ble_eq_true rfl) rfl
theorem ci_X7_init (pre r0 : List aE) (L : Nat)  (hL : pre.length + r0.length = L) : AM mX7_init 1 [.ref (L + 8)] (pre ++ (r0 ++ [.inr (7, [.null, qz, .null, qz, qz, qz])])) 2 321 (PV fun h' => h' = pre ++ (r0 ++ [.inr (7, [qr L 1, qz, qr L 2, qz, qz, qz]), qa 160, qa 161])) := by
  have q := ci0_X7_init (pre ++ r0) L  (by rw [List.length_append]; exact hL)
  simp only [List.append_assoc] at q
  exact q
set_option maxRecDepth 4000 in
theorem ci0_X9_init (pre : List aE) (L : Nat)  (hL : pre.length = L) : AM mX9_init 1 [.ref (L + 8)] (pre ++ [.inr (9, [qz, qz, .null, .null, .null, qz])]) 3 90 (PV fun h' => h' = pre ++ [.inr (9, [qz, qz, qr L 1, qr L 2, qr L 3, qz]), qa 10, qa 40, qa 40]) := by
  refine am_of (lv := [some (.ref (L + 8))]) rfl (Nat.le_of_ble_eq_true rfl) rfl ?_
  refine aw_aload_n (pc' := 1) dX9_init_0 rfl rfl rfl ?_
  refine aw_objInit (pc' := 4) dX9_init_1 rfl ml_RX9_1 oi_i oi_c (Nat.le_of_ble_eq_true rfl) (by decide) (by decide) ?_
  refine aw_aload_n (pc' := 5) dX9_init_4 rfl rfl rfl ?_
  refine aw_bipush (v := 10) (pc' := 7) dX9_init_5 rfl (by decide) ?_
  refine aw_newi (N := 10) (r := L + 1 + 8) (nc' := 1) (ns' := 10) (pc' := 9) dX9_init_7 rfl (by decide) (by decide) (by decide) (by decide) (by decide) (gA_len hL rfl) (gA_push (r' := [.inr (9, [qz, qz, .null, .null, .null, qz]), qa 10]) rfl) rfl rfl ?_
  refine aw_putF clsAll (pc' := 12) dX9_init_9 rfl fl_RX9_7 rfl rfl (gA_ hL (j := 0) rfl) (Nat.le_of_ble_eq_true rfl) rfl (gA_set hL (j := 0) (r' := [.inr (9, [qz, qz, qr L 1, .null, .null, qz]), qa 10]) rfl) ?_
  refine aw_aload_n (pc' := 13) dX9_init_12 rfl rfl rfl ?_
  refine aw_bipush (v := 40) (pc' := 15) dX9_init_13 rfl (by decide) ?_
  refine aw_newi (N := 40) (r := L + 2 + 8) (nc' := 2) (ns' := 50) (pc' := 17) dX9_init_15 rfl (by decide) (by decide) (by decide) (by decide) (by decide) (gA_len hL rfl) (gA_push (r' := [.inr (9, [qz, qz, qr L 1, .null, .null, qz]), qa 10, qa 40]) rfl) rfl rfl ?_
  refine aw_putF clsAll (pc' := 20) dX9_init_17 rfl fl_RX9_13 rfl rfl (gA_ hL (j := 0) rfl) (Nat.le_of_ble_eq_true rfl) rfl (gA_set hL (j := 0) (r' := [.inr (9, [qz, qz, qr L 1, qr L 2, .null, qz]), qa 10, qa 40]) rfl) ?_
  refine aw_aload_n (pc' := 21) dX9_init_20 rfl rfl rfl ?_
  refine aw_bipush (v := 40) (pc' := 23) dX9_init_21 rfl (by decide) ?_
  refine aw_newi (N := 40) (r := L + 3 + 8) (nc' := 3) (ns' := 90) (pc' := 25) dX9_init_23 rfl (by decide) (by decide) (by decide) (by decide) (by decide) (gA_len hL rfl) (gA_push (r' := [.inr (9, [qz, qz, qr L 1, qr L 2, .null, qz]), qa 10, qa 40, qa 40]) rfl) rfl rfl ?_
  refine aw_putF clsAll (pc' := 28) dX9_init_25 rfl fl_RX9_16 rfl rfl (gA_ hL (j := 0) rfl) (Nat.le_of_ble_eq_true rfl) rfl (gA_set hL (j := 0) (r' := [.inr (9, [qz, qz, qr L 1, qr L 2, qr L 3, qz]), qa 10, qa 40, qa 40]) rfl) ?_
  exact aw_rv dX9_init_28 rfl (Nat.le_of_ble_eq_true rfl) (Nat.le_of_ble_eq_true rfl) rfl
theorem ci_X9_init (pre r0 : List aE) (L : Nat)  (hL : pre.length + r0.length = L) : AM mX9_init 1 [.ref (L + 8)] (pre ++ (r0 ++ [.inr (9, [qz, qz, .null, .null, .null, qz])])) 3 90 (PV fun h' => h' = pre ++ (r0 ++ [.inr (9, [qz, qz, qr L 1, qr L 2, qr L 3, qz]), qa 10, qa 40, qa 40])) := by
  have q := ci0_X9_init (pre ++ r0) L  (by rw [List.length_append]; exact hL)
  simp only [List.append_assoc] at q
  exact q
set_option maxRecDepth 4000 in
theorem ci0_X6_init (pre : List aE) (L : Nat)  (hL : pre.length = L) : AM mX6_init 2 [.ref (L + 8)] (pre ++ [.inr (6, [.null, .null, .null, qz, .null, .null, .null, qz, .null, qz, .null, .null, .null, .null, qz])]) 11 2128 (PV fun h' => h' = pre ++ [.inr (6, [qr L 1, qr L 2, qr L 3, qz, qr L 4, qr L 5, qr L 6, qz, qr L 7, qz, qr L 8, qr L 9, qr L 10, qr L 11, qz]), qa 10, qa 10, qa 10, qa 1024, qa 1024, qa 10, qa 6, .inl (0, 24, .inl (fun _ => 1)), qa 6, qa 2, qa 2]) := by
  refine am_of (lv := [some (.ref (L + 8))]) rfl (Nat.le_of_ble_eq_true rfl) rfl ?_
  refine aw_aload_n (pc' := 1) dX6_init_0 rfl rfl rfl ?_
  refine aw_objInit (pc' := 4) dX6_init_1 rfl ml_RX6_3 oi_i oi_c (Nat.le_of_ble_eq_true rfl) (by decide) (by decide) ?_
  refine aw_aload_n (pc' := 5) dX6_init_4 rfl rfl rfl ?_
  refine aw_bipush (v := 10) (pc' := 7) dX6_init_5 rfl (by decide) ?_
  refine aw_newi (N := 10) (r := L + 1 + 8) (nc' := 1) (ns' := 10) (pc' := 9) dX6_init_7 rfl (by decide) (by decide) (by decide) (by decide) (by decide) (gA_len hL rfl) (gA_push (r' := [.inr (6, [.null, .null, .null, qz, .null, .null, .null, qz, .null, qz, .null, .null, .null, .null, qz]), qa 10]) rfl) rfl rfl ?_
  refine aw_putF clsAll (pc' := 12) dX6_init_9 rfl fl_RX6_11 rfl rfl (gA_ hL (j := 0) rfl) (Nat.le_of_ble_eq_true rfl) rfl (gA_set hL (j := 0) (r' := [.inr (6, [qr L 1, .null, .null, qz, .null, .null, .null, qz, .null, qz, .null, .null, .null, .null, qz]), qa 10]) rfl) ?_
  refine aw_aload_n (pc' := 13) dX6_init_12 rfl rfl rfl ?_
  refine aw_bipush (v := 10) (pc' := 15) dX6_init_13 rfl (by decide) ?_
  refine aw_newi (N := 10) (r := L + 2 + 8) (nc' := 2) (ns' := 20) (pc' := 17) dX6_init_15 rfl (by decide) (by decide) (by decide) (by decide) (by decide) (gA_len hL rfl) (gA_push (r' := [.inr (6, [qr L 1, .null, .null, qz, .null, .null, .null, qz, .null, qz, .null, .null, .null, .null, qz]), qa 10, qa 10]) rfl) rfl rfl ?_
  refine aw_putF clsAll (pc' := 20) dX6_init_17 rfl fl_RX6_15 rfl rfl (gA_ hL (j := 0) rfl) (Nat.le_of_ble_eq_true rfl) rfl (gA_set hL (j := 0) (r' := [.inr (6, [qr L 1, qr L 2, .null, qz, .null, .null, .null, qz, .null, qz, .null, .null, .null, .null, qz]), qa 10, qa 10]) rfl) ?_
  refine aw_aload_n (pc' := 21) dX6_init_20 rfl rfl rfl ?_
  refine aw_bipush (v := 10) (pc' := 23) dX6_init_21 rfl (by decide) ?_
  refine aw_newi (N := 10) (r := L + 3 + 8) (nc' := 3) (ns' := 30) (pc' := 25) dX6_init_23 rfl (by decide) (by decide) (by decide) (by decide) (by decide) (gA_len hL rfl) (gA_push (r' := [.inr (6, [qr L 1, qr L 2, .null, qz, .null, .null, .null, qz, .null, qz, .null, .null, .null, .null, qz]), qa 10, qa 10, qa 10]) rfl) rfl rfl ?_
  refine aw_putF clsAll (pc' := 28) dX6_init_25 rfl fl_RX6_18 rfl rfl (gA_ hL (j := 0) rfl) (Nat.le_of_ble_eq_true rfl) rfl (gA_set hL (j := 0) (r' := [.inr (6, [qr L 1, qr L 2, qr L 3, qz, .null, .null, .null, qz, .null, qz, .null, .null, .null, .null, qz]), qa 10, qa 10, qa 10]) rfl) ?_
  refine aw_aload_n (pc' := 29) dX6_init_28 rfl rfl rfl ?_
  refine aw_sipush (v := 1024) (pc' := 32) dX6_init_29 rfl (by decide) ?_
  refine aw_newi (N := 1024) (r := L + 4 + 8) (nc' := 4) (ns' := 1054) (pc' := 34) dX6_init_32 rfl (by decide) (by decide) (by decide) (by decide) (by decide) (gA_len hL rfl) (gA_push (r' := [.inr (6, [qr L 1, qr L 2, qr L 3, qz, .null, .null, .null, qz, .null, qz, .null, .null, .null, .null, qz]), qa 10, qa 10, qa 10, qa 1024]) rfl) rfl rfl ?_
  refine aw_putF clsAll (pc' := 37) dX6_init_34 rfl fl_RX6_21 rfl rfl (gA_ hL (j := 0) rfl) (Nat.le_of_ble_eq_true rfl) rfl (gA_set hL (j := 0) (r' := [.inr (6, [qr L 1, qr L 2, qr L 3, qz, qr L 4, .null, .null, qz, .null, qz, .null, .null, .null, .null, qz]), qa 10, qa 10, qa 10, qa 1024]) rfl) ?_
  refine aw_aload_n (pc' := 38) dX6_init_37 rfl rfl rfl ?_
  refine aw_sipush (v := 1024) (pc' := 41) dX6_init_38 rfl (by decide) ?_
  refine aw_newi (N := 1024) (r := L + 5 + 8) (nc' := 5) (ns' := 2078) (pc' := 43) dX6_init_41 rfl (by decide) (by decide) (by decide) (by decide) (by decide) (gA_len hL rfl) (gA_push (r' := [.inr (6, [qr L 1, qr L 2, qr L 3, qz, qr L 4, .null, .null, qz, .null, qz, .null, .null, .null, .null, qz]), qa 10, qa 10, qa 10, qa 1024, qa 1024]) rfl) rfl rfl ?_
  refine aw_putF clsAll (pc' := 46) dX6_init_43 rfl fl_RX6_24 rfl rfl (gA_ hL (j := 0) rfl) (Nat.le_of_ble_eq_true rfl) rfl (gA_set hL (j := 0) (r' := [.inr (6, [qr L 1, qr L 2, qr L 3, qz, qr L 4, qr L 5, .null, qz, .null, qz, .null, .null, .null, .null, qz]), qa 10, qa 10, qa 10, qa 1024, qa 1024]) rfl) ?_
  refine aw_aload_n (pc' := 47) dX6_init_46 rfl rfl rfl ?_
  refine aw_bipush (v := 10) (pc' := 49) dX6_init_47 rfl (by decide) ?_
  refine aw_newi (N := 10) (r := L + 6 + 8) (nc' := 6) (ns' := 2088) (pc' := 51) dX6_init_49 rfl (by decide) (by decide) (by decide) (by decide) (by decide) (gA_len hL rfl) (gA_push (r' := [.inr (6, [qr L 1, qr L 2, qr L 3, qz, qr L 4, qr L 5, .null, qz, .null, qz, .null, .null, .null, .null, qz]), qa 10, qa 10, qa 10, qa 1024, qa 1024, qa 10]) rfl) rfl rfl ?_
  refine aw_putF clsAll (pc' := 54) dX6_init_51 rfl fl_RX6_27 rfl rfl (gA_ hL (j := 0) rfl) (Nat.le_of_ble_eq_true rfl) rfl (gA_set hL (j := 0) (r' := [.inr (6, [qr L 1, qr L 2, qr L 3, qz, qr L 4, qr L 5, qr L 6, qz, .null, qz, .null, .null, .null, .null, qz]), qa 10, qa 10, qa 10, qa 1024, qa 1024, qa 10]) rfl) ?_
  refine aw_aload_n (pc' := 55) dX6_init_54 rfl rfl rfl ?_
  refine aw_bipush (v := 6) (pc' := 57) dX6_init_55 rfl (by decide) ?_
  refine aw_newi (N := 6) (r := L + 7 + 8) (nc' := 7) (ns' := 2094) (pc' := 59) dX6_init_57 rfl (by decide) (by decide) (by decide) (by decide) (by decide) (gA_len hL rfl) (gA_push (r' := [.inr (6, [qr L 1, qr L 2, qr L 3, qz, qr L 4, qr L 5, qr L 6, qz, .null, qz, .null, .null, .null, .null, qz]), qa 10, qa 10, qa 10, qa 1024, qa 1024, qa 10, qa 6]) rfl) rfl rfl ?_
  refine aw_putF clsAll (pc' := 62) dX6_init_59 rfl fl_RX6_30 rfl rfl (gA_ hL (j := 0) rfl) (Nat.le_of_ble_eq_true rfl) rfl (gA_set hL (j := 0) (r' := [.inr (6, [qr L 1, qr L 2, qr L 3, qz, qr L 4, qr L 5, qr L 6, qz, qr L 7, qz, .null, .null, .null, .null, qz]), qa 10, qa 10, qa 10, qa 1024, qa 1024, qa 10, qa 6]) rfl) ?_
  refine aw_aload_n (pc' := 63) dX6_init_62 rfl rfl rfl ?_
  refine aw_bipush (v := 24) (pc' := 65) dX6_init_63 rfl (by decide) ?_
  refine aw_newi (N := 24) (r := L + 8 + 8) (nc' := 8) (ns' := 2118) (pc' := 67) dX6_init_65 rfl (by decide) (by decide) (by decide) (by decide) (by decide) (gA_len hL rfl) (gA_push (r' := [.inr (6, [qr L 1, qr L 2, qr L 3, qz, qr L 4, qr L 5, qr L 6, qz, qr L 7, qz, .null, .null, .null, .null, qz]), qa 10, qa 10, qa 10, qa 1024, qa 1024, qa 10, qa 6, qa 24]) rfl) rfl rfl ?_
  refine aw_putF clsAll (pc' := 70) dX6_init_67 rfl fl_RX6_33 rfl rfl (gA_ hL (j := 0) rfl) (Nat.le_of_ble_eq_true rfl) rfl (gA_set hL (j := 0) (r' := [.inr (6, [qr L 1, qr L 2, qr L 3, qz, qr L 4, qr L 5, qr L 6, qz, qr L 7, qz, qr L 8, .null, .null, .null, qz]), qa 10, qa 10, qa 10, qa 1024, qa 1024, qa 10, qa 6, qa 24]) rfl) ?_
  refine aw_aload_n (pc' := 71) dX6_init_70 rfl rfl rfl ?_
  refine aw_bipush (v := 6) (pc' := 73) dX6_init_71 rfl (by decide) ?_
  refine aw_newi (N := 6) (r := L + 9 + 8) (nc' := 9) (ns' := 2124) (pc' := 75) dX6_init_73 rfl (by decide) (by decide) (by decide) (by decide) (by decide) (gA_len hL rfl) (gA_push (r' := [.inr (6, [qr L 1, qr L 2, qr L 3, qz, qr L 4, qr L 5, qr L 6, qz, qr L 7, qz, qr L 8, .null, .null, .null, qz]), qa 10, qa 10, qa 10, qa 1024, qa 1024, qa 10, qa 6, qa 24, qa 6]) rfl) rfl rfl ?_
  refine aw_putF clsAll (pc' := 78) dX6_init_75 rfl fl_RX6_36 rfl rfl (gA_ hL (j := 0) rfl) (Nat.le_of_ble_eq_true rfl) rfl (gA_set hL (j := 0) (r' := [.inr (6, [qr L 1, qr L 2, qr L 3, qz, qr L 4, qr L 5, qr L 6, qz, qr L 7, qz, qr L 8, qr L 9, .null, .null, qz]), qa 10, qa 10, qa 10, qa 1024, qa 1024, qa 10, qa 6, qa 24, qa 6]) rfl) ?_
  refine aw_aload_n (pc' := 79) dX6_init_78 rfl rfl rfl ?_
  refine aw_iconst (v := 2) (pc' := 80) dX6_init_79 rfl (by decide) ?_
  refine aw_newi (N := 2) (r := L + 10 + 8) (nc' := 10) (ns' := 2126) (pc' := 82) dX6_init_80 rfl (by decide) (by decide) (by decide) (by decide) (by decide) (gA_len hL rfl) (gA_push (r' := [.inr (6, [qr L 1, qr L 2, qr L 3, qz, qr L 4, qr L 5, qr L 6, qz, qr L 7, qz, qr L 8, qr L 9, .null, .null, qz]), qa 10, qa 10, qa 10, qa 1024, qa 1024, qa 10, qa 6, qa 24, qa 6, qa 2]) rfl) rfl rfl ?_
  refine aw_putF clsAll (pc' := 85) dX6_init_82 rfl fl_RX6_39 rfl rfl (gA_ hL (j := 0) rfl) (Nat.le_of_ble_eq_true rfl) rfl (gA_set hL (j := 0) (r' := [.inr (6, [qr L 1, qr L 2, qr L 3, qz, qr L 4, qr L 5, qr L 6, qz, qr L 7, qz, qr L 8, qr L 9, qr L 10, .null, qz]), qa 10, qa 10, qa 10, qa 1024, qa 1024, qa 10, qa 6, qa 24, qa 6, qa 2]) rfl) ?_
  refine aw_aload_n (pc' := 86) dX6_init_85 rfl rfl rfl ?_
  refine aw_iconst (v := 2) (pc' := 87) dX6_init_86 rfl (by decide) ?_
  refine aw_newi (N := 2) (r := L + 11 + 8) (nc' := 11) (ns' := 2128) (pc' := 89) dX6_init_87 rfl (by decide) (by decide) (by decide) (by decide) (by decide) (gA_len hL rfl) (gA_push (r' := [.inr (6, [qr L 1, qr L 2, qr L 3, qz, qr L 4, qr L 5, qr L 6, qz, qr L 7, qz, qr L 8, qr L 9, qr L 10, .null, qz]), qa 10, qa 10, qa 10, qa 1024, qa 1024, qa 10, qa 6, qa 24, qa 6, qa 2, qa 2]) rfl) rfl rfl ?_
  refine aw_putF clsAll (pc' := 92) dX6_init_89 rfl fl_RX6_42 rfl rfl (gA_ hL (j := 0) rfl) (Nat.le_of_ble_eq_true rfl) rfl (gA_set hL (j := 0) (r' := [.inr (6, [qr L 1, qr L 2, qr L 3, qz, qr L 4, qr L 5, qr L 6, qz, qr L 7, qz, qr L 8, qr L 9, qr L 10, qr L 11, qz]), qa 10, qa 10, qa 10, qa 1024, qa 1024, qa 10, qa 6, qa 24, qa 6, qa 2, qa 2]) rfl) ?_
  refine aw_aload_n (pc' := 93) dX6_init_92 rfl rfl rfl ?_
  refine aw_get clsAll (pc' := 96) dX6_init_93 rfl fl_RX6_33 (gA_ hL (j := 0) rfl) rfl ?_
  refine aw_iconst (v := 1) (pc' := 97) dX6_init_96 rfl (by decide) ?_
  refine aw_callSv (M' := mJ7_fill_53178) (nc' := 11) (ns' := 2128) (pc' := 100) dX6_init_97 rfl ml_RX6_45 kJ7_fill_53178 (c_fill 1 (gA_ hL (j := 8) rfl) (by decide)) rfl rfl (Nat.le_of_ble_eq_true rfl) (rok rfl) rfl rfl (fun h1 q1 => ?_)
  obtain rfl : h1 = pre ++ [.inr (6, [qr L 1, qr L 2, qr L 3, qz, qr L 4, qr L 5, qr L 6, qz, qr L 7, qz, qr L 8, qr L 9, qr L 10, qr L 11, qz]), qa 10, qa 10, qa 10, qa 1024, qa 1024, qa 10, qa 6, .inl (0, 24, .inl (fun _ => 1)), qa 6, qa 2, qa 2] := q1.symm.trans (gA_set hL (j := 8) rfl)
  exact aw_rv dX6_init_100 rfl (Nat.le_of_ble_eq_true rfl) (Nat.le_of_ble_eq_true rfl) rfl
theorem ci_X6_init (pre r0 : List aE) (L : Nat)  (hL : pre.length + r0.length = L) : AM mX6_init 2 [.ref (L + 8)] (pre ++ (r0 ++ [.inr (6, [.null, .null, .null, qz, .null, .null, .null, qz, .null, qz, .null, .null, .null, .null, qz])])) 11 2128 (PV fun h' => h' = pre ++ (r0 ++ [.inr (6, [qr L 1, qr L 2, qr L 3, qz, qr L 4, qr L 5, qr L 6, qz, qr L 7, qz, qr L 8, qr L 9, qr L 10, qr L 11, qz]), qa 10, qa 10, qa 10, qa 1024, qa 1024, qa 10, qa 6, .inl (0, 24, .inl (fun _ => 1)), qa 6, qa 2, qa 2])) := by
  have q := ci0_X6_init (pre ++ r0) L  (by rw [List.length_append]; exact hL)
  simp only [List.append_assoc] at q
  exact q
set_option maxRecDepth 4000 in
theorem ci0_X8_init (pre : List aE) (L : Nat)  (hL : pre.length = L) : AM mX8_init 1 [.ref (L + 8)] (pre ++ [.inr (8, [qz, qz, qz, qz, .null])]) 1 60 (PV fun h' => h' = pre ++ [.inr (8, [qz, qz, qz, qz, qr L 1]), .inl (3, 60, .inr (.inl (fun _ => 0)))]) := by
  refine am_of (lv := [some (.ref (L + 8))]) rfl (Nat.le_of_ble_eq_true rfl) rfl ?_
  refine aw_aload_n (pc' := 1) dX8_init_0 rfl rfl rfl ?_
  refine aw_objInit (pc' := 4) dX8_init_1 rfl ml_RX8_5 oi_i oi_c (Nat.le_of_ble_eq_true rfl) (by decide) (by decide) ?_
  refine aw_aload_n (pc' := 5) dX8_init_4 rfl rfl rfl ?_
  refine aw_bipush (v := 60) (pc' := 7) dX8_init_5 rfl (by decide) ?_
  refine aw_newl (N := 60) (r := L + 1 + 8) (nc' := 1) (ns' := 60) (pc' := 9) dX8_init_7 rfl (by decide) (by decide) (by decide) (by decide) (by decide) (gA_len hL rfl) (gA_push (r' := [.inr (8, [qz, qz, qz, qz, .null]), .inl (3, 60, .inr (.inl (fun _ => 0)))]) rfl) rfl rfl ?_
  refine aw_putF clsAll (pc' := 12) dX8_init_9 rfl fl_RX8_11 rfl rfl (gA_ hL (j := 0) rfl) (Nat.le_of_ble_eq_true rfl) rfl (gA_set hL (j := 0) (r' := [.inr (8, [qz, qz, qz, qz, qr L 1]), .inl (3, 60, .inr (.inl (fun _ => 0)))]) rfl) ?_
  exact aw_rv dX8_init_12 rfl (Nat.le_of_ble_eq_true rfl) (Nat.le_of_ble_eq_true rfl) rfl
theorem ci_X8_init (pre r0 : List aE) (L : Nat)  (hL : pre.length + r0.length = L) : AM mX8_init 1 [.ref (L + 8)] (pre ++ (r0 ++ [.inr (8, [qz, qz, qz, qz, .null])])) 1 60 (PV fun h' => h' = pre ++ (r0 ++ [.inr (8, [qz, qz, qz, qz, qr L 1]), .inl (3, 60, .inr (.inl (fun _ => 0)))])) := by
  have q := ci0_X8_init (pre ++ r0) L  (by rw [List.length_append]; exact hL)
  simp only [List.append_assoc] at q
  exact q
