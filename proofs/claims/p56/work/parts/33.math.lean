theorem mth : plainFor yJ9_max_7cf53 = true ∧ plainFor yJ9_min_7cf53 = true ∧ plainFor yJ9_floorDiv_7cf53 = true := by decide +kernel
def f_J9_max_7cf53 (a0 : Int32) (a1 : Int32) : Option Int32 := (if a0 < a1 then some a1 else some a0)
set_option maxRecDepth 4000 in
theorem t_J9_max_7cf53 {r9 : Int32} {h0 : List aE} {a0 : Int32} {a1 : Int32}  (hf : f_J9_max_7cf53 a0 a1 = some r9) : AM mJ9_max_7cf53 (0) [.int a0, .int a1] h0 0 0 (PI fun r' h' => r9 = r' ∧ h0 = h') := by
  unfold f_J9_max_7cf53 at hf
  refine am_ofF (lv := [some (.int a0), some (.int a1)]) mth.1 (Nat.le_of_ble_eq_true rfl) rfl ?_
  refine aw_iload_n (pc' := 1) dJ9_max_7cf53_0 rfl rfl ?_
  refine aw_iload_n (pc' := 2) dJ9_max_7cf53_1 rfl rfl ?_
  refine aw_clt (tgt := 9) (pc' := 5) dJ9_max_7cf53_2 (by decide) rfl (fun c1 => ?_) (fun c1 => ?_)
  · replace hf := ifp c1 hf
    refine aw_iload_n (pc' := 10) dJ9_max_7cf53_9 rfl rfl ?_
    obtain rfl := Option.some.inj hf
    exact aw_ri dJ9_max_7cf53_10 rfl rfl (Nat.le_of_ble_eq_true rfl) (Nat.le_of_ble_eq_true rfl) ⟨rfl, rfl⟩
  · replace hf := ifn c1 hf
    refine aw_iload_n (pc' := 6) dJ9_max_7cf53_5 rfl rfl ?_
    refine aw_goto (tgt := 10) dJ9_max_7cf53_6 (by decide) ?_
    obtain rfl := Option.some.inj hf
    exact aw_ri dJ9_max_7cf53_10 rfl rfl (Nat.le_of_ble_eq_true rfl) (Nat.le_of_ble_eq_true rfl) ⟨rfl, rfl⟩
def f_J9_min_7cf53 (a0 : Int32) (a1 : Int32) : Option Int32 := (if a1 < a0 then some a1 else some a0)
set_option maxRecDepth 4000 in
theorem t_J9_min_7cf53 {r9 : Int32} {h0 : List aE} {a0 : Int32} {a1 : Int32}  (hf : f_J9_min_7cf53 a0 a1 = some r9) : AM mJ9_min_7cf53 (0) [.int a0, .int a1] h0 0 0 (PI fun r' h' => r9 = r' ∧ h0 = h') := by
  unfold f_J9_min_7cf53 at hf
  refine am_ofF (lv := [some (.int a0), some (.int a1)]) mth.2.1 (Nat.le_of_ble_eq_true rfl) rfl ?_
  refine aw_iload_n (pc' := 1) dJ9_min_7cf53_0 rfl rfl ?_
  refine aw_iload_n (pc' := 2) dJ9_min_7cf53_1 rfl rfl ?_
  refine aw_cgt (tgt := 9) (pc' := 5) dJ9_min_7cf53_2 (by decide) rfl (fun c1 => ?_) (fun c1 => ?_)
  · replace hf := ifp c1 hf
    refine aw_iload_n (pc' := 10) dJ9_min_7cf53_9 rfl rfl ?_
    obtain rfl := Option.some.inj hf
    exact aw_ri dJ9_min_7cf53_10 rfl rfl (Nat.le_of_ble_eq_true rfl) (Nat.le_of_ble_eq_true rfl) ⟨rfl, rfl⟩
  · replace hf := ifn c1 hf
    refine aw_iload_n (pc' := 6) dJ9_min_7cf53_5 rfl rfl ?_
    refine aw_goto (tgt := 10) dJ9_min_7cf53_6 (by decide) ?_
    obtain rfl := Option.some.inj hf
    exact aw_ri dJ9_min_7cf53_10 rfl rfl (Nat.le_of_ble_eq_true rfl) (Nat.le_of_ble_eq_true rfl) ⟨rfl, rfl⟩
def f_J9_floorDiv_7cf53 (a0 : Int32) (a1 : Int32) : Option Int32 := (gd (¬ a1 = 0) (vl ((a0 / a1)) fun v2 => (if (a0 ^^^ a1) < (0 : Int32) then (if (v2 * a1) = a0 then some v2 else some (v2 - (1 : Int32))) else some v2)))
set_option maxRecDepth 4000 in
theorem t_J9_floorDiv_7cf53 {r9 : Int32} {h0 : List aE} {a0 : Int32} {a1 : Int32}  (hf : f_J9_floorDiv_7cf53 a0 a1 = some r9) : AM mJ9_floorDiv_7cf53 (0) [.int a0, .int a1] h0 0 0 (PI fun r' h' => r9 = r' ∧ h0 = h') := by
  unfold f_J9_floorDiv_7cf53 at hf
  refine am_ofF (lv := [some (.int a0), some (.int a1), none]) mth.2.2 (Nat.le_of_ble_eq_true rfl) rfl ?_
  refine aw_iload_n (pc' := 1) dJ9_floorDiv_7cf53_0 rfl rfl ?_
  refine aw_iload_n (pc' := 2) dJ9_floorDiv_7cf53_1 rfl rfl ?_
  obtain ⟨g1, hf⟩ := gd_e hf
  refine aw_idiv (pc' := 3) dJ9_floorDiv_7cf53_2 rfl g1 ?_
  obtain ⟨v2, ev2, hf⟩ := vl_e hf
  refine aw_topi ev2 ?_
  refine aw_istore_n (lv' := [_, _, _]) (pc' := 4) dJ9_floorDiv_7cf53_3 rfl (Nat.le_of_ble_eq_true rfl) rfl ?_
  refine aw_iload_n (pc' := 5) dJ9_floorDiv_7cf53_4 rfl rfl ?_
  refine aw_iload_n (pc' := 6) dJ9_floorDiv_7cf53_5 rfl rfl ?_
  refine aw_ixor (pc' := 7) dJ9_floorDiv_7cf53_6 rfl ?_
  refine aw_zge (tgt := 21) (pc' := 10) dJ9_floorDiv_7cf53_7 (by decide) rfl (fun c3 => ?_) (fun c3 => ?_)
  · replace hf := ifn c3 hf
    refine aw_iload_n (pc' := 22) dJ9_floorDiv_7cf53_21 rfl rfl ?_
    obtain rfl := Option.some.inj hf
    exact aw_ri dJ9_floorDiv_7cf53_22 rfl rfl (Nat.le_of_ble_eq_true rfl) (Nat.le_of_ble_eq_true rfl) ⟨rfl, rfl⟩
  · replace hf := ifp c3 hf
    refine aw_iload_n (pc' := 11) dJ9_floorDiv_7cf53_10 rfl rfl ?_
    refine aw_iload_n (pc' := 12) dJ9_floorDiv_7cf53_11 rfl rfl ?_
    refine aw_imul (pc' := 13) dJ9_floorDiv_7cf53_12 rfl ?_
    refine aw_iload_n (pc' := 14) dJ9_floorDiv_7cf53_13 rfl rfl ?_
    refine aw_icmp_eq (tgt := 21) (pc' := 17) dJ9_floorDiv_7cf53_14 (by decide) rfl (fun c4 => ?_) (fun c4 => ?_)
    · replace hf := ifp c4 hf
      refine aw_iload_n (pc' := 22) dJ9_floorDiv_7cf53_21 rfl rfl ?_
      obtain rfl := Option.some.inj hf
      exact aw_ri dJ9_floorDiv_7cf53_22 rfl rfl (Nat.le_of_ble_eq_true rfl) (Nat.le_of_ble_eq_true rfl) ⟨rfl, rfl⟩
    · replace hf := ifn c4 hf
      refine aw_iload_n (pc' := 18) dJ9_floorDiv_7cf53_17 rfl rfl ?_
      refine aw_iconst (v := 1) (pc' := 19) dJ9_floorDiv_7cf53_18 rfl (by decide) ?_
      refine aw_isub (pc' := 20) dJ9_floorDiv_7cf53_19 rfl ?_
      obtain rfl := Option.some.inj hf
      exact aw_ri dJ9_floorDiv_7cf53_20 rfl rfl (Nat.le_of_ble_eq_true rfl) (Nat.le_of_ble_eq_true rfl) ⟨rfl, rfl⟩
