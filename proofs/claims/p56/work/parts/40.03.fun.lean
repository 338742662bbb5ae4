/-! ThirtyThreeBelow$Reader.compiled -/
noncomputable def f_X7_compiled_L21_b (q0 : SS → Option (Int32 × SS)) (rc : SS → Int32 → Option (Int32 × SS)) (s : SS) (x1 : Int32) : Option (Int32 × SS) := (if x1 < (160 : Int32) then (bd (f_X7_takes s 59) fun r6 s6 => (if r6 = (0 : Int32) then (q0 s6) else (b1 (f_X7_line s6) fun s8 => (vl (x1 + 1) fun v10 => (rc s8 v10))))) else (q0 s))
noncomputable def f_X7_compiled_L21 (q0 : SS → Option (Int32 × SS)) : Nat → SS → Int32 → Option (Int32 × SS)
  | 0, _, _ => none
  | n + 1, s, x1 => f_X7_compiled_L21_b q0 (f_X7_compiled_L21 q0 n) s x1
set_option maxRecDepth 4000 in
theorem t_X7_compiled_L21 {r9 : Int32} {s0 sb s9 : SS} {q0 : SS → Option (Int32 × SS)} (mb : Mo s0 sb) (hq0 : ∀ (s : SS) (h : List aE), HH s h → Mo sb s → q0 s = some (r9, s9) → AW mX7_compiled (rmD (92) 0 0) (fin (PI fun r' h' => r9 = r' ∧ HH s9 h' ∧ Mo s0 s9) 0 0) 47 [some (.ref 32), none] [] h 0 0) : ∀ (n : Nat) (s : SS) (h : List aE) (x1 : Int32), HH s h → Mo sb s → f_X7_compiled_L21 q0 n s x1 = some (r9, s9) → AW mX7_compiled (rmD (92) 0 0) (fin (PI fun r' h' => r9 = r' ∧ HH s9 h' ∧ Mo s0 s9) 0 0) 21 [some (.ref 32), some (.int x1)] [] h 0 0 := by
  intro n
  induction n with
  | zero =>
    intro s h x1 H ms hf
    cases hf
  | succ n ih =>
    intro s h x1 H ms hf
    replace hf : f_X7_compiled_L21_b q0 (f_X7_compiled_L21 q0 n) s x1 = some (r9, s9) := hf
    unfold f_X7_compiled_L21_b at hf
    refine aw_iload_n (pc' := 22) dX7_compiled_21 rfl rfl ?_
    refine aw_sipush (v := 160) (pc' := 25) dX7_compiled_22 rfl sp_160 ?_
    refine aw_cge (tgt := 47) (pc' := 28) dX7_compiled_25 rfl rfl (fun c5 => ?_) (fun c5 => ?_)
    · replace hf := ifn c5 hf
      refine AW.lv_le (lz_k (lz_d lz_0)) ?_
      exact hq0 _ _ H ms hf
    · replace hf := ifp c5 hf
      refine aw_aload_n (pc' := 29) dX7_compiled_28 rfl rfl rfl ?_
      refine aw_bipush (v := 59) (pc' := 31) dX7_compiled_29 rfl bp_59 ?_
      obtain ⟨r6, s6, ec6, hf⟩ := bd_e hf
      refine aw_callVi (M' := mX7_takes) (nc' := 0) (ns' := 0) (pc' := 34) dX7_compiled_31 rfl ml_RX7_40 kX7_takes (t_X7_takes H ec6) (H.ob (H.fo rfl rfl) (by decide)) rfl rfl rfl (Nat.le_of_ble_eq_true rfl) (rokD (by omega) (Nat.le_of_ble_eq_true rfl) (Nat.le_of_ble_eq_true rfl) (Nat.le_of_ble_eq_true rfl)) rfl rfl (fun _ h6 q6 => ?_)
      obtain ⟨rfl, H6, m6, zb6⟩ := q6
      refine aw_if_eq (tgt := 47) (pc' := 37) dX7_compiled_34 rfl rfl (fun c7 => ?_) (fun c7 => ?_)
      · replace hf := ifp c7 hf
        refine AW.lv_le (lz_k (lz_d lz_0)) ?_
        exact hq0 _ _ H6 (ms.tr m6) hf
      · replace hf := ifn c7 hf
        refine aw_aload_n (pc' := 38) dX7_compiled_37 rfl rfl rfl ?_
        obtain ⟨s8, ec8, hf⟩ := b1_e hf
        refine aw_callVv (M' := mX7_line) (nc' := 0) (ns' := 0) (pc' := 41) dX7_compiled_38 rfl ml_RX7_37 kX7_line (t_X7_line H6 ec8) (H6.ob (H6.fo rfl rfl) (by decide)) rfl rfl rfl (Nat.le_of_ble_eq_true rfl) (rokD (by omega) (Nat.le_of_ble_eq_true rfl) (Nat.le_of_ble_eq_true rfl) (Nat.le_of_ble_eq_true rfl)) rfl rfl (fun h8 q8 => ?_)
        obtain ⟨H8, m8⟩ := q8
        obtain ⟨v10, ev10, hf⟩ := vl_e hf
        refine aw_iincV (y := v10) (lv' := [_, _]) (pc' := 44) dX7_compiled_41 rfl rfl (Nat.le_of_ble_eq_true rfl) ev10 rfl ?_
        refine aw_goto (tgt := 21) dX7_compiled_44 rfl ?_
        exact ih _ _ _ H8 ((ms.tr m6).tr m8) hf
noncomputable def f_X7_compiled (s0 : SS)  : Option (Int32 × SS) := (st (pS s0 24 3 0) fun s1 => (st (pS s1 24 4 0) fun s2 => (st (pS s2 24 5 (-1)) fun s3 => (b1 (f_X7_line s3) fun s4 => (f_X7_compiled_L21 (fun (s11 : SS)  => (if (zS s11 24 5) < (0 : Int32) then (if (zS s11 24 4) < (zS s11 24 1) then (vl ((zS s11 24 4)) fun v14 => (st (pS s11 24 5 v14) fun s15 => some ((zS s15 24 5), s15))) else some ((zS s11 24 5), s11)) else some ((zS s11 24 5), s11))) 4000 s4 0)))))
set_option maxRecDepth 4000 in
theorem t_X7_compiled {r9 : Int32} {s0 s9 : SS} {h0 : List aE}  (H0 : HH s0 h0) (hf : f_X7_compiled s0 = some (r9, s9)) : AM mX7_compiled (92) [.ref 32] h0 0 0 (PI fun r' h' => r9 = r' ∧ HH s9 h' ∧ Mo s0 s9) := by
  unfold f_X7_compiled at hf
  refine am_of (lv := [some (.ref 32), none]) rfl (Nat.le_of_ble_eq_true rfl) rfl ?_
  refine aw_aload_n (pc' := 1) dX7_compiled_0 rfl rfl rfl ?_
  refine aw_iconst (v := 0) (pc' := 2) dX7_compiled_1 rfl ic_0 ?_
  obtain ⟨s1, es1, hf⟩ := st_e hf
  refine aw_pi (q := 24) (pc' := 5) es1 H0 (H0.fo rfl rfl) (by decide) rfl dX7_compiled_2 rfl fl_RX7_22 rfl (fun h1 H1 => ?_)
  have m1 := Mo.ofS es1
  refine aw_aload_n (pc' := 6) dX7_compiled_5 rfl rfl rfl ?_
  refine aw_iconst (v := 0) (pc' := 7) dX7_compiled_6 rfl ic_0 ?_
  obtain ⟨s2, es2, hf⟩ := st_e hf
  refine aw_pi (q := 24) (pc' := 10) es2 H1 (H1.fo rfl rfl) (by decide) rfl dX7_compiled_7 rfl fl_RX7_31 rfl (fun h2 H2 => ?_)
  have m2 := Mo.ofS es2
  refine aw_aload_n (pc' := 11) dX7_compiled_10 rfl rfl rfl ?_
  refine aw_iconst (v := (-1)) (pc' := 12) dX7_compiled_11 rfl ic_m1 ?_
  obtain ⟨s3, es3, hf⟩ := st_e hf
  refine aw_pi (q := 24) (pc' := 15) es3 H2 (H2.fo rfl rfl) (by decide) rfl dX7_compiled_12 rfl fl_RX7_34 rfl (fun h3 H3 => ?_)
  have m3 := Mo.ofS es3
  refine aw_aload_n (pc' := 16) dX7_compiled_15 rfl rfl rfl ?_
  obtain ⟨s4, ec4, hf⟩ := b1_e hf
  refine aw_callVv (M' := mX7_line) (nc' := 0) (ns' := 0) (pc' := 19) dX7_compiled_16 rfl ml_RX7_37 kX7_line (t_X7_line H3 ec4) (H3.ob (H3.fo rfl rfl) (by decide)) rfl rfl rfl (Nat.le_of_ble_eq_true rfl) (rokD (by omega) (Nat.le_of_ble_eq_true rfl) (Nat.le_of_ble_eq_true rfl) (Nat.le_of_ble_eq_true rfl)) rfl rfl (fun h4 q4 => ?_)
  obtain ⟨H4, m4⟩ := q4
  refine aw_iconst (v := 0) (pc' := 20) dX7_compiled_19 rfl ic_0 ?_
  refine aw_istore_n (lv' := [_, _]) (pc' := 21) dX7_compiled_20 rfl (Nat.le_of_ble_eq_true rfl) rfl ?_
  refine t_X7_compiled_L21 (((m1.tr m2).tr m3).tr m4) (fun s11 h11 H11 m11 hf => ?_) 4000 _ _ _ H4 (Mo.rf _) hf
  refine aw_aload_n (pc' := 48) dX7_compiled_47 rfl rfl rfl ?_
  refine aw_gi (q := 24) (pc' := 51) H11 (H11.fo rfl rfl) (l13 rfl) rfl dX7_compiled_48 rfl fl_RX7_34 ?_
  refine aw_zge (tgt := 73) (pc' := 54) dX7_compiled_51 rfl rfl (fun c12 => ?_) (fun c12 => ?_)
  · replace hf := ifn c12 hf
    refine aw_aload_n (pc' := 74) dX7_compiled_73 rfl rfl rfl ?_
    refine aw_gi (q := 24) (pc' := 77) H11 (H11.fo rfl rfl) (l13 rfl) rfl dX7_compiled_74 rfl fl_RX7_34 ?_
    obtain ⟨rfl, rfl⟩ := so2 hf
    exact aw_ri dX7_compiled_77 rfl rfl (Nat.le_of_ble_eq_true rfl) (Nat.le_of_ble_eq_true rfl) ⟨rfl, H11, ((((m1.tr m2).tr m3).tr m4).tr m11)⟩
  · replace hf := ifp c12 hf
    refine aw_aload_n (pc' := 55) dX7_compiled_54 rfl rfl rfl ?_
    refine aw_gi (q := 24) (pc' := 58) H11 (H11.fo rfl rfl) (l13 rfl) rfl dX7_compiled_55 rfl fl_RX7_31 ?_
    refine aw_aload_n (pc' := 59) dX7_compiled_58 rfl rfl rfl ?_
    refine aw_gi (q := 24) (pc' := 62) H11 (H11.fo rfl rfl) (l13 rfl) rfl dX7_compiled_59 rfl fl_RX7_18 ?_
    refine aw_cge (tgt := 73) (pc' := 65) dX7_compiled_62 rfl rfl (fun c13 => ?_) (fun c13 => ?_)
    · replace hf := ifn c13 hf
      refine aw_aload_n (pc' := 74) dX7_compiled_73 rfl rfl rfl ?_
      refine aw_gi (q := 24) (pc' := 77) H11 (H11.fo rfl rfl) (l13 rfl) rfl dX7_compiled_74 rfl fl_RX7_34 ?_
      obtain ⟨rfl, rfl⟩ := so2 hf
      exact aw_ri dX7_compiled_77 rfl rfl (Nat.le_of_ble_eq_true rfl) (Nat.le_of_ble_eq_true rfl) ⟨rfl, H11, ((((m1.tr m2).tr m3).tr m4).tr m11)⟩
    · replace hf := ifp c13 hf
      refine aw_aload_n (pc' := 66) dX7_compiled_65 rfl rfl rfl ?_
      refine aw_aload_n (pc' := 67) dX7_compiled_66 rfl rfl rfl ?_
      refine aw_gi (q := 24) (pc' := 70) H11 (H11.fo rfl rfl) (l13 rfl) rfl dX7_compiled_67 rfl fl_RX7_31 ?_
      obtain ⟨v14, ev14, hf⟩ := vl_e hf
      refine aw_topi ev14 ?_
      obtain ⟨s15, es15, hf⟩ := st_e hf
      refine aw_pi (q := 24) (pc' := 73) es15 H11 (H11.fo rfl rfl) (by decide) rfl dX7_compiled_70 rfl fl_RX7_34 rfl (fun h15 H15 => ?_)
      have m15 := Mo.ofS es15
      refine aw_aload_n (pc' := 74) dX7_compiled_73 rfl rfl rfl ?_
      refine aw_gi (q := 24) (pc' := 77) H15 (H15.fo rfl rfl) (l13 rfl) rfl dX7_compiled_74 rfl fl_RX7_34 ?_
      obtain ⟨rfl, rfl⟩ := so2 hf
      exact aw_ri dX7_compiled_77 rfl rfl (Nat.le_of_ble_eq_true rfl) (Nat.le_of_ble_eq_true rfl) ⟨rfl, H15, (((((m1.tr m2).tr m3).tr m4).tr m11).tr m15)⟩
/-! ThirtyThreeBelow$Shelf.isReal -/
noncomputable def f_X8_isReal (s0 : SS) (pt : Nat) : Option Int32 := (if (zS s0 pt 0) = (2 : Int32) then (if (zS s0 pt 2) = (3 : Int32) then some 1 else (if (zS s0 pt 2) = (4 : Int32) then some 1 else some 0)) else some 0)
set_option maxRecDepth 4000 in
theorem t_X8_isReal {r9 : Int32} {s0 : SS} {h0 : List aE} {pt : Nat} (H0 : HH s0 h0) (o_pt : okV pt) (hf : f_X8_isReal s0 pt = some r9) : AM mX8_isReal (0) [.ref (pt + 8)] h0 0 0 (PI fun r' h' => r9 = r' ∧ h0 = h' ∧ (r9 = 0 ∨ r9 = 1)) := by
  unfold f_X8_isReal at hf
  refine am_of (lv := [some (.ref (pt + 8))]) rfl (Nat.le_of_ble_eq_true rfl) rfl ?_
  refine aw_aload_n (pc' := 1) dX8_isReal_0 rfl rfl rfl ?_
  refine aw_gi (q := pt) (pc' := 4) H0 (okV.ob o_pt H0) (by decide) rfl dX8_isReal_1 rfl fl_RX8_15 ?_
  refine aw_iconst (v := 2) (pc' := 5) dX8_isReal_4 rfl ic_2 ?_
  refine aw_icmp_ne (tgt := 28) (pc' := 8) dX8_isReal_5 rfl rfl (fun c1 => ?_) (fun c1 => ?_)
  · replace hf := ifn c1 hf
    refine aw_iconst (v := 0) (pc' := 29) dX8_isReal_28 rfl ic_0 ?_
    obtain rfl := Option.some.inj hf
    exact aw_ri dX8_isReal_29 rfl (by decide) (Nat.le_of_ble_eq_true rfl) (Nat.le_of_ble_eq_true rfl) ⟨rfl, rfl, Or.inl rfl⟩
  · replace hf := ifp c1 hf
    refine aw_aload_n (pc' := 9) dX8_isReal_8 rfl rfl rfl ?_
    refine aw_gi (q := pt) (pc' := 12) H0 (okV.ob o_pt H0) (by decide) rfl dX8_isReal_9 rfl fl_RX8_19 ?_
    refine aw_iconst (v := 3) (pc' := 13) dX8_isReal_12 rfl ic_3 ?_
    refine aw_icmp_eq (tgt := 24) (pc' := 16) dX8_isReal_13 rfl rfl (fun c2 => ?_) (fun c2 => ?_)
    · replace hf := ifp c2 hf
      refine aw_iconst (v := 1) (pc' := 25) dX8_isReal_24 rfl ic_1 ?_
      refine aw_goto (tgt := 29) dX8_isReal_25 rfl ?_
      obtain rfl := Option.some.inj hf
      exact aw_ri dX8_isReal_29 rfl (by decide) (Nat.le_of_ble_eq_true rfl) (Nat.le_of_ble_eq_true rfl) ⟨rfl, rfl, Or.inr rfl⟩
    · replace hf := ifn c2 hf
      refine aw_aload_n (pc' := 17) dX8_isReal_16 rfl rfl rfl ?_
      refine aw_gi (q := pt) (pc' := 20) H0 (okV.ob o_pt H0) (by decide) rfl dX8_isReal_17 rfl fl_RX8_19 ?_
      refine aw_iconst (v := 4) (pc' := 21) dX8_isReal_20 rfl ic_4 ?_
      refine aw_icmp_ne (tgt := 28) (pc' := 24) dX8_isReal_21 rfl rfl (fun c3 => ?_) (fun c3 => ?_)
      · replace hf := ifn c3 hf
        refine aw_iconst (v := 0) (pc' := 29) dX8_isReal_28 rfl ic_0 ?_
        obtain rfl := Option.some.inj hf
        exact aw_ri dX8_isReal_29 rfl (by decide) (Nat.le_of_ble_eq_true rfl) (Nat.le_of_ble_eq_true rfl) ⟨rfl, rfl, Or.inl rfl⟩
      · replace hf := ifp c3 hf
        refine aw_iconst (v := 1) (pc' := 25) dX8_isReal_24 rfl ic_1 ?_
        refine aw_goto (tgt := 29) dX8_isReal_25 rfl ?_
        obtain rfl := Option.some.inj hf
        exact aw_ri dX8_isReal_29 rfl (by decide) (Nat.le_of_ble_eq_true rfl) (Nat.le_of_ble_eq_true rfl) ⟨rfl, rfl, Or.inr rfl⟩
/-! ThirtyThreeBelow$Shelf.becomesRow -/
noncomputable def f_X8_becomesRow (s0 : SS) (pt : Nat) (a0 : Int32) (a1 : Int32) : Option SS := (st (pS s0 pt 0 2) fun s1 => (st (pS s1 pt 2 a0) fun s2 => (st (pS s2 pt 3 a1) fun s3 => (st (pG s3 (pt + 1) 0) fun s4 => some s4))))
set_option maxRecDepth 4000 in
theorem t_X8_becomesRow {s0 s9 : SS} {h0 : List aE} {pt : Nat} {a0 : Int32} {a1 : Int32} (H0 : HH s0 h0) (o_pt : okV pt) (hf : f_X8_becomesRow s0 pt a0 a1 = some s9) : AM mX8_becomesRow (1) [.ref (pt + 8), .int a0, .int a1] h0 0 0 (PV fun h' => HH s9 h' ∧ Mo s0 s9) := by
  unfold f_X8_becomesRow at hf
  refine am_of (lv := [some (.ref (pt + 8)), some (.int a0), some (.int a1)]) rfl (Nat.le_of_ble_eq_true rfl) rfl ?_
  refine aw_aload_n (pc' := 1) dX8_becomesRow_0 rfl rfl rfl ?_
  refine aw_iconst (v := 2) (pc' := 2) dX8_becomesRow_1 rfl ic_2 ?_
  obtain ⟨s1, es1, hf⟩ := st_e hf
  refine aw_pi (q := pt) (pc' := 5) es1 H0 (okV.ob o_pt H0) (by decide) rfl dX8_becomesRow_2 rfl fl_RX8_15 rfl (fun h1 H1 => ?_)
  have m1 := Mo.ofS es1
  refine aw_aload_n (pc' := 6) dX8_becomesRow_5 rfl rfl rfl ?_
  refine aw_iload_n (pc' := 7) dX8_becomesRow_6 rfl rfl ?_
  obtain ⟨s2, es2, hf⟩ := st_e hf
  refine aw_pi (q := pt) (pc' := 10) es2 H1 (okV.ob o_pt H1) (by decide) rfl dX8_becomesRow_7 rfl fl_RX8_19 rfl (fun h2 H2 => ?_)
  have m2 := Mo.ofS es2
  refine aw_aload_n (pc' := 11) dX8_becomesRow_10 rfl rfl rfl ?_
  refine aw_iload_n (pc' := 12) dX8_becomesRow_11 rfl rfl ?_
  obtain ⟨s3, es3, hf⟩ := st_e hf
  refine aw_pi (q := pt) (pc' := 15) es3 H2 (okV.ob o_pt H2) (by decide) rfl dX8_becomesRow_12 rfl fl_RX8_22 rfl (fun h3 H3 => ?_)
  have m3 := Mo.ofS es3
  refine aw_aload_n (pc' := 16) dX8_becomesRow_15 rfl rfl rfl ?_
  refine aw_gr (q := pt) (e := 3) (v := .ref (pt + 1 + 8)) (pc' := 19) H3 (okV.ob o_pt H3) (by decide) rfl rfl dX8_becomesRow_16 rfl fl_RX8_11 ?_
  refine aw_lconst (v := 0) (pc' := 20) dX8_becomesRow_19 rfl (by decide) ?_
  obtain ⟨s4, es4, hf⟩ := st_e hf
  refine aw_callSv (M' := mJ7_fill_d0a16) (nc' := 0) (ns' := 0) (pc' := 23) dX8_becomesRow_20 rfl ml_RX8_25 kJ7_fill_d0a16 (c_filll 0 (H3.aj (okV.a1 o_pt H3)) (by decide)) rfl rfl (Nat.le_of_ble_eq_true rfl) (rokD (by omega) (Nat.le_of_ble_eq_true rfl) (Nat.le_of_ble_eq_true rfl) (Nat.le_of_ble_eq_true rfl)) rfl rfl (fun h4 q4 => ?_)
  have H4 : HH s4 h4 := es4 ▸ (H3.putG (okV.a1 o_pt H3) _ q4)
  have m4 := Mo.ofG es4
  obtain rfl := Option.some.inj hf
  exact aw_rv dX8_becomesRow_23 rfl (Nat.le_of_ble_eq_true rfl) (Nat.le_of_ble_eq_true rfl) ⟨H4, (((m1.tr m2).tr m3).tr m4)⟩
/-! ThirtyThreeBelow$Shelf.hasPlaces -/
noncomputable def f_X8_hasPlaces (s0 : SS) (pt : Nat) (a0 : Int32) (a1 : Int32) : Option Int32 := (if a0 < (0 : Int32) then some 0 else (if a1 < (0 : Int32) then some 0 else (if (zS s0 pt 3) < a1 then some 0 else (if ((zS s0 pt 3) - a1) < a0 then some 0 else some 1))))
set_option maxRecDepth 4000 in
theorem t_X8_hasPlaces {r9 : Int32} {s0 : SS} {h0 : List aE} {pt : Nat} {a0 : Int32} {a1 : Int32} (H0 : HH s0 h0) (o_pt : okV pt) (hf : f_X8_hasPlaces s0 pt a0 a1 = some r9) : AM mX8_hasPlaces (0) [.ref (pt + 8), .int a0, .int a1] h0 0 0 (PI fun r' h' => r9 = r' ∧ h0 = h' ∧ (r9 = 0 ∨ r9 = 1)) := by
  unfold f_X8_hasPlaces at hf
  refine am_of (lv := [some (.ref (pt + 8)), some (.int a0), some (.int a1)]) rfl (Nat.le_of_ble_eq_true rfl) rfl ?_
  refine aw_iload_n (pc' := 1) dX8_hasPlaces_0 rfl rfl ?_
  refine aw_zlt (tgt := 30) (pc' := 4) dX8_hasPlaces_1 rfl rfl (fun c1 => ?_) (fun c1 => ?_)
  · replace hf := ifp c1 hf
    refine aw_iconst (v := 0) (pc' := 31) dX8_hasPlaces_30 rfl ic_0 ?_
    obtain rfl := Option.some.inj hf
    exact aw_ri dX8_hasPlaces_31 rfl (by decide) (Nat.le_of_ble_eq_true rfl) (Nat.le_of_ble_eq_true rfl) ⟨rfl, rfl, Or.inl rfl⟩
  · replace hf := ifn c1 hf
    refine aw_iload_n (pc' := 5) dX8_hasPlaces_4 rfl rfl ?_
    refine aw_zlt (tgt := 30) (pc' := 8) dX8_hasPlaces_5 rfl rfl (fun c2 => ?_) (fun c2 => ?_)
    · replace hf := ifp c2 hf
      refine aw_iconst (v := 0) (pc' := 31) dX8_hasPlaces_30 rfl ic_0 ?_
      obtain rfl := Option.some.inj hf
      exact aw_ri dX8_hasPlaces_31 rfl (by decide) (Nat.le_of_ble_eq_true rfl) (Nat.le_of_ble_eq_true rfl) ⟨rfl, rfl, Or.inl rfl⟩
    · replace hf := ifn c2 hf
      refine aw_iload_n (pc' := 9) dX8_hasPlaces_8 rfl rfl ?_
      refine aw_aload_n (pc' := 10) dX8_hasPlaces_9 rfl rfl rfl ?_
      refine aw_gi (q := pt) (pc' := 13) H0 (okV.ob o_pt H0) (by decide) rfl dX8_hasPlaces_10 rfl fl_RX8_22 ?_
      refine aw_cgt (tgt := 30) (pc' := 16) dX8_hasPlaces_13 rfl rfl (fun c3 => ?_) (fun c3 => ?_)
      · replace hf := ifp c3 hf
        refine aw_iconst (v := 0) (pc' := 31) dX8_hasPlaces_30 rfl ic_0 ?_
        obtain rfl := Option.some.inj hf
        exact aw_ri dX8_hasPlaces_31 rfl (by decide) (Nat.le_of_ble_eq_true rfl) (Nat.le_of_ble_eq_true rfl) ⟨rfl, rfl, Or.inl rfl⟩
      · replace hf := ifn c3 hf
        refine aw_iload_n (pc' := 17) dX8_hasPlaces_16 rfl rfl ?_
        refine aw_aload_n (pc' := 18) dX8_hasPlaces_17 rfl rfl rfl ?_
        refine aw_gi (q := pt) (pc' := 21) H0 (okV.ob o_pt H0) (by decide) rfl dX8_hasPlaces_18 rfl fl_RX8_22 ?_
        refine aw_iload_n (pc' := 22) dX8_hasPlaces_21 rfl rfl ?_
        refine aw_isub (pc' := 23) dX8_hasPlaces_22 rfl ?_
        refine aw_cgt (tgt := 30) (pc' := 26) dX8_hasPlaces_23 rfl rfl (fun c4 => ?_) (fun c4 => ?_)
        · replace hf := ifp c4 hf
          refine aw_iconst (v := 0) (pc' := 31) dX8_hasPlaces_30 rfl ic_0 ?_
          obtain rfl := Option.some.inj hf
          exact aw_ri dX8_hasPlaces_31 rfl (by decide) (Nat.le_of_ble_eq_true rfl) (Nat.le_of_ble_eq_true rfl) ⟨rfl, rfl, Or.inl rfl⟩
        · replace hf := ifn c4 hf
          refine aw_iconst (v := 1) (pc' := 27) dX8_hasPlaces_26 rfl ic_1 ?_
          refine aw_goto (tgt := 31) dX8_hasPlaces_27 rfl ?_
          obtain rfl := Option.some.inj hf
          exact aw_ri dX8_hasPlaces_31 rfl (by decide) (Nat.le_of_ble_eq_true rfl) (Nat.le_of_ble_eq_true rfl) ⟨rfl, rfl, Or.inr rfl⟩
/-! ThirtyThreeBelow$Shelf.narrowed -/
noncomputable def f_X8_narrowed (s0 : SS) (pt : Nat) (a0 : Int64) : Option Int64 := (if (zS s0 pt 2) = 0 then some a0.toInt32.toInt8.toInt32.toInt64 else (if (zS s0 pt 2) = 1 then some (((a0.toInt32.toUInt32 % 65536).toInt32).toInt64) else (if (zS s0 pt 2) = 2 then some a0.toInt32.toInt64 else some a0)))
set_option maxRecDepth 4000 in
theorem t_X8_narrowed {r9 : Int64} {s0 : SS} {h0 : List aE} {pt : Nat} {a0 : Int64} (H0 : HH s0 h0) (o_pt : okV pt) (hf : f_X8_narrowed s0 pt a0 = some r9) : AM mX8_narrowed (0) [.ref (pt + 8), .long a0] h0 0 0 (PL fun r' h' => r9 = r' ∧ h0 = h') := by
  unfold f_X8_narrowed at hf
  refine am_of (lv := [some (.ref (pt + 8)), some (.long a0), none]) rfl (Nat.le_of_ble_eq_true rfl) rfl ?_
  refine aw_aload_n (pc' := 1) dX8_narrowed_0 rfl rfl rfl ?_
  refine aw_gi (q := pt) (pc' := 4) H0 (okV.ob o_pt H0) (by decide) rfl dX8_narrowed_1 rfl fl_RX8_19 ?_
  rcases Decidable.em ((zS s0 pt 2) = 0) with c1 | c1
  · replace hf := ifp c1 hf
    refine aw_tabIn (tgt := 32) (off := 28) dX8_narrowed_4 (by rw [c1]; decide) (by rw [c1]; decide) (by rw [c1]; decide) (by decide) ?_
    refine aw_lload_n (pc' := 33) dX8_narrowed_32 rfl rfl ?_
    refine aw_l2i (pc' := 34) dX8_narrowed_33 rfl ?_
    refine aw_i2b (pc' := 35) dX8_narrowed_34 rfl ?_
    refine aw_i2l (pc' := 36) dX8_narrowed_35 rfl ?_
    obtain rfl := Option.some.inj hf
    exact aw_rl dX8_narrowed_36 rfl (Nat.le_of_ble_eq_true rfl) (Nat.le_of_ble_eq_true rfl) ⟨rfl, rfl⟩
  replace hf := ifn c1 hf
  rcases Decidable.em ((zS s0 pt 2) = 1) with c2 | c2
  · replace hf := ifp c2 hf
    refine aw_tabIn (tgt := 37) (off := 33) dX8_narrowed_4 (by rw [c2]; decide) (by rw [c2]; decide) (by rw [c2]; decide) (by decide) ?_
    refine aw_lload_n (pc' := 38) dX8_narrowed_37 rfl rfl ?_
    refine aw_l2i (pc' := 39) dX8_narrowed_38 rfl ?_
    refine aw_i2c (pc' := 40) dX8_narrowed_39 rfl ?_
    refine aw_i2l (pc' := 41) dX8_narrowed_40 rfl ?_
    obtain rfl := Option.some.inj hf
    exact aw_rl dX8_narrowed_41 rfl (Nat.le_of_ble_eq_true rfl) (Nat.le_of_ble_eq_true rfl) ⟨rfl, rfl⟩
  replace hf := ifn c2 hf
  rcases Decidable.em ((zS s0 pt 2) = 2) with c3 | c3
  · replace hf := ifp c3 hf
    refine aw_tabIn (tgt := 42) (off := 38) dX8_narrowed_4 (by rw [c3]; decide) (by rw [c3]; decide) (by rw [c3]; decide) (by decide) ?_
    refine aw_lload_n (pc' := 43) dX8_narrowed_42 rfl rfl ?_
    refine aw_l2i (pc' := 44) dX8_narrowed_43 rfl ?_
    refine aw_i2l (pc' := 45) dX8_narrowed_44 rfl ?_
    obtain rfl := Option.some.inj hf
    exact aw_rl dX8_narrowed_45 rfl (Nat.le_of_ble_eq_true rfl) (Nat.le_of_ble_eq_true rfl) ⟨rfl, rfl⟩
  replace hf := ifn c3 hf
  refine aw_tabOut (tgt := 46) dX8_narrowed_4 (by have a0 := tneK (K := 0) (by decide) c1; have a1 := tneK (K := 1) (by decide) c2; have a2 := tneK (K := 2) (by decide) c3; omega) (by decide) ?_
  refine aw_lload_n (pc' := 47) dX8_narrowed_46 rfl rfl ?_
  obtain rfl := Option.some.inj hf
  exact aw_rl dX8_narrowed_47 rfl (Nat.le_of_ble_eq_true rfl) (Nat.le_of_ble_eq_true rfl) ⟨rfl, rfl⟩
/-! ThirtyThreeBelow$Stores.sends -/
noncomputable def f_X9_sends (s0 : SS) (a0 : Int32) (a1 : Int32) : Option SS := (if (zS s0 30 5) < (40 : Int32) then (vl ((zS s0 30 5)) fun v2 => (gd (inB v2 40) (st (pI s0 32 (v2.toInt.toNat) a0) fun s4 => (vl ((zS s4 30 5)) fun v5 => (gd (inB v5 40) (st (pI s4 33 (v5.toInt.toNat) a1) fun s7 => (vl (((zS s7 30 5) + (1 : Int32))) fun v8 => (st (pS s7 30 5 v8) fun s10 => some s10)))))))) else some s0)
set_option maxRecDepth 4000 in
theorem t_X9_sends {s0 s9 : SS} {h0 : List aE} {a0 : Int32} {a1 : Int32} (H0 : HH s0 h0) (hf : f_X9_sends s0 a0 a1 = some s9) : AM mX9_sends (0) [.ref 38, .int a0, .int a1] h0 0 0 (PV fun h' => HH s9 h' ∧ Mo s0 s9) := by
  unfold f_X9_sends at hf
  refine am_of (lv := [some (.ref 38), some (.int a0), some (.int a1)]) rfl (Nat.le_of_ble_eq_true rfl) rfl ?_
  refine aw_aload_n (pc' := 1) dX9_sends_0 rfl rfl rfl ?_
  refine aw_gi (q := 30) (pc' := 4) H0 (H0.fo rfl rfl) (l13 rfl) rfl dX9_sends_1 rfl fl_RX9_19 ?_
  refine aw_bipush (v := 40) (pc' := 6) dX9_sends_4 rfl bp_40 ?_
  refine aw_cge (tgt := 39) (pc' := 9) dX9_sends_6 rfl rfl (fun c1 => ?_) (fun c1 => ?_)
  · replace hf := ifn c1 hf
    obtain rfl := Option.some.inj hf
    exact aw_rv dX9_sends_39 rfl (Nat.le_of_ble_eq_true rfl) (Nat.le_of_ble_eq_true rfl) ⟨H0, (Mo.rf _)⟩
  · replace hf := ifp c1 hf
    refine aw_aload_n (pc' := 10) dX9_sends_9 rfl rfl rfl ?_
    refine aw_gr (q := 30) (e := 5) (v := .ref 40) (pc' := 13) H0 (H0.fo rfl rfl) (l13 rfl) rfl rfl dX9_sends_10 rfl fl_RX9_13 ?_
    refine aw_aload_n (pc' := 14) dX9_sends_13 rfl rfl rfl ?_
    refine aw_gi (q := 30) (pc' := 17) H0 (H0.fo rfl rfl) (l13 rfl) rfl dX9_sends_14 rfl fl_RX9_19 ?_
    refine aw_iload_n (pc' := 18) dX9_sends_17 rfl rfl ?_
    obtain ⟨v2, ev2, hf⟩ := vl_e hf
    refine aw_sndi ev2 ?_
    obtain ⟨g3, hf⟩ := gd_e hf
    obtain ⟨s4, es4, hf⟩ := st_e hf
    refine aw_is (q := 32) (pc' := 19) es4 H0 (H0.fa rfl rfl rfl) g3 dX9_sends_18 rfl (fun h4 H4 => ?_)
    have m4 := Mo.ofI es4
    refine aw_aload_n (pc' := 20) dX9_sends_19 rfl rfl rfl ?_
    refine aw_gr (q := 30) (e := 7) (v := .ref 41) (pc' := 23) H4 (H4.fo rfl rfl) (l13 rfl) rfl rfl dX9_sends_20 rfl fl_RX9_16 ?_
    refine aw_aload_n (pc' := 24) dX9_sends_23 rfl rfl rfl ?_
    refine aw_gi (q := 30) (pc' := 27) H4 (H4.fo rfl rfl) (l13 rfl) rfl dX9_sends_24 rfl fl_RX9_19 ?_
    refine aw_iload_n (pc' := 28) dX9_sends_27 rfl rfl ?_
    obtain ⟨v5, ev5, hf⟩ := vl_e hf
    refine aw_sndi ev5 ?_
    obtain ⟨g6, hf⟩ := gd_e hf
    obtain ⟨s7, es7, hf⟩ := st_e hf
    refine aw_is (q := 33) (pc' := 29) es7 H4 (H4.fa rfl rfl rfl) g6 dX9_sends_28 rfl (fun h7 H7 => ?_)
    have m7 := Mo.ofI es7
    refine aw_aload_n (pc' := 30) dX9_sends_29 rfl rfl rfl ?_
    refine aw_dup (pc' := 31) dX9_sends_30 rfl rfl ?_
    refine aw_gi (q := 30) (pc' := 34) H7 (H7.fo rfl rfl) (l13 rfl) rfl dX9_sends_31 rfl fl_RX9_19 ?_
    refine aw_iconst (v := 1) (pc' := 35) dX9_sends_34 rfl ic_1 ?_
    refine aw_iadd (pc' := 36) dX9_sends_35 rfl ?_
    obtain ⟨v8, ev8, hf⟩ := vl_e hf
    refine aw_topi ev8 ?_
    obtain ⟨s10, es10, hf⟩ := st_e hf
    refine aw_pi (q := 30) (pc' := 39) es10 H7 (H7.fo rfl rfl) (by decide) rfl dX9_sends_36 rfl fl_RX9_19 rfl (fun h10 H10 => ?_)
    have m10 := Mo.ofS es10
    obtain rfl := Option.some.inj hf
    exact aw_rv dX9_sends_39 rfl (Nat.le_of_ble_eq_true rfl) (Nat.le_of_ble_eq_true rfl) ⟨H10, ((m4.tr m7).tr m10)⟩
/-! ThirtyThreeBelow$Stores.comesBelow -/
noncomputable def f_X9_comesBelow (s0 : SS) (a0 : Int32) : Option SS := (vl ((a0 % (10 : Int32))) fun v1 => (if v1 = (0 : Int32) then (vl (((zS s0 30 0) + (a0 / (10 : Int32)))) fun v8 => (st (pS s0 30 0 v8) fun s10 => some s10)) else (if (0 : Int32) < v1 then (gd (inB v1 10) (vl (((zI s0 31 (v1.toInt.toNat)) + (1 : Int32))) fun v5 => (gd (inB v1 10) (st (pI s0 31 (v1.toInt.toNat) v5) fun s7 => some s7)))) else some s0)))
set_option maxRecDepth 4000 in
theorem t_X9_comesBelow {s0 s9 : SS} {h0 : List aE} {a0 : Int32} (H0 : HH s0 h0) (hf : f_X9_comesBelow s0 a0 = some s9) : AM mX9_comesBelow (0) [.ref 38, .int a0] h0 0 0 (PV fun h' => HH s9 h' ∧ Mo s0 s9) := by
  unfold f_X9_comesBelow at hf
  refine am_of (lv := [some (.ref 38), some (.int a0), none]) rfl (Nat.le_of_ble_eq_true rfl) rfl ?_
  refine aw_iload_n (pc' := 1) dX9_comesBelow_0 rfl rfl ?_
  refine aw_bipush (v := 10) (pc' := 3) dX9_comesBelow_1 rfl bp_10 ?_
  refine aw_irem (pc' := 4) dX9_comesBelow_3 rfl (by decide) ?_
  obtain ⟨v1, ev1, hf⟩ := vl_e hf
  refine aw_topi ev1 ?_
  refine aw_istore_n (lv' := [_, _, _]) (pc' := 5) dX9_comesBelow_4 rfl (Nat.le_of_ble_eq_true rfl) rfl ?_
  refine aw_iload_n (pc' := 6) dX9_comesBelow_5 rfl rfl ?_
  refine aw_if_ne (tgt := 25) (pc' := 9) dX9_comesBelow_6 rfl rfl (fun c2 => ?_) (fun c2 => ?_)
  · replace hf := ifn c2 hf
    refine aw_iload_n (pc' := 26) dX9_comesBelow_25 rfl rfl ?_
    refine aw_zle (tgt := 39) (pc' := 29) dX9_comesBelow_26 rfl rfl (fun c3 => ?_) (fun c3 => ?_)
    · replace hf := ifn c3 hf
      obtain rfl := Option.some.inj hf
      exact aw_rv dX9_comesBelow_39 rfl (Nat.le_of_ble_eq_true rfl) (Nat.le_of_ble_eq_true rfl) ⟨H0, (Mo.rf _)⟩
    · replace hf := ifp c3 hf
      refine aw_aload_n (pc' := 30) dX9_comesBelow_29 rfl rfl rfl ?_
      refine aw_gr (q := 30) (e := 3) (v := .ref 39) (pc' := 33) H0 (H0.fo rfl rfl) (l13 rfl) rfl rfl dX9_comesBelow_30 rfl fl_RX9_7 ?_
      refine aw_iload_n (pc' := 34) dX9_comesBelow_33 rfl rfl ?_
      refine aw_dup2 (pc' := 35) dX9_comesBelow_34 rfl rfl rfl ?_
      obtain ⟨g4, hf⟩ := gd_e hf
      refine aw_ia (q := 31) (pc' := 36) H0 (H0.fa rfl rfl rfl) g4 dX9_comesBelow_35 rfl ?_
      refine aw_iconst (v := 1) (pc' := 37) dX9_comesBelow_36 rfl ic_1 ?_
      refine aw_iadd (pc' := 38) dX9_comesBelow_37 rfl ?_
      obtain ⟨v5, ev5, hf⟩ := vl_e hf
      refine aw_topi ev5 ?_
      obtain ⟨g6, hf⟩ := gd_e hf
      obtain ⟨s7, es7, hf⟩ := st_e hf
      refine aw_is (q := 31) (pc' := 39) es7 H0 (H0.fa rfl rfl rfl) g6 dX9_comesBelow_38 rfl (fun h7 H7 => ?_)
      have m7 := Mo.ofI es7
      obtain rfl := Option.some.inj hf
      exact aw_rv dX9_comesBelow_39 rfl (Nat.le_of_ble_eq_true rfl) (Nat.le_of_ble_eq_true rfl) ⟨H7, m7⟩
  · replace hf := ifp c2 hf
    refine aw_aload_n (pc' := 10) dX9_comesBelow_9 rfl rfl rfl ?_
    refine aw_dup (pc' := 11) dX9_comesBelow_10 rfl rfl ?_
    refine aw_gi (q := 30) (pc' := 14) H0 (H0.fo rfl rfl) (l13 rfl) rfl dX9_comesBelow_11 rfl fl_RX9_27 ?_
    refine aw_iload_n (pc' := 15) dX9_comesBelow_14 rfl rfl ?_
    refine aw_bipush (v := 10) (pc' := 17) dX9_comesBelow_15 rfl bp_10 ?_
    refine aw_idiv (pc' := 18) dX9_comesBelow_17 rfl (by decide) ?_
    refine aw_iadd (pc' := 19) dX9_comesBelow_18 rfl ?_
    obtain ⟨v8, ev8, hf⟩ := vl_e hf
    refine aw_topi ev8 ?_
    obtain ⟨s10, es10, hf⟩ := st_e hf
    refine aw_pi (q := 30) (pc' := 22) es10 H0 (H0.fo rfl rfl) (by decide) rfl dX9_comesBelow_19 rfl fl_RX9_27 rfl (fun h10 H10 => ?_)
    have m10 := Mo.ofS es10
    refine aw_goto (tgt := 39) dX9_comesBelow_22 rfl ?_
    obtain rfl := Option.some.inj hf
    exact aw_rv dX9_comesBelow_39 rfl (Nat.le_of_ble_eq_true rfl) (Nat.le_of_ble_eq_true rfl) ⟨H10, m10⟩
/-! ThirtyThreeBelow$Stores.arrivals -/
noncomputable def f_X9_arrivals_L4_b (q0 : SS → Int32 → Option SS) (y1 : Int32) (rc : SS → Int32 → Int32 → Option SS) (s : SS) (x2 : Int32) (x3 : Int32) : Option SS := (if x3 < (zS s 30 5) then (gd (inB x3 40) (jn (fun (s3 : SS) (j3_2 : Int32) => (vl (x3 + 1) fun v4 => (rc s3 j3_2 v4))) fun k3 => (if y1 < (zI s 33 (x3.toInt.toNat)) then (gd (inB x3 40) (vl ((zI s 32 (x3.toInt.toNat))) fun v7 => (gd (inB x2 40) (st (pI s 32 (x2.toInt.toNat) v7) fun s10 => (gd (inB x3 40) (vl ((zI s10 33 (x3.toInt.toNat))) fun v12 => (gd (inB x2 40) (st (pI s10 33 (x2.toInt.toNat) v12) fun s14 => (vl (x2 + 1) fun v15 => (k3 s14 v15)))))))))) else (gd (inB x3 40) (b1 (f_X9_comesBelow s (zI s 32 (x3.toInt.toNat))) fun s17 => (k3 s17 x2)))))) else (q0 s x2))
noncomputable def f_X9_arrivals_L4 (q0 : SS → Int32 → Option SS) (y1 : Int32) : Nat → SS → Int32 → Int32 → Option SS
  | 0, _, _, _ => none
  | n + 1, s, x2, x3 => f_X9_arrivals_L4_b q0 y1 (f_X9_arrivals_L4 q0 y1 n) s x2 x3
set_option maxRecDepth 4000 in
theorem t_X9_arrivals_L4 {s0 sb s9 : SS} {q0 : SS → Int32 → Option SS} {y1 : Int32} (mb : Mo s0 sb) (hq0 : ∀ (s : SS) (h : List aE) (x2 : Int32), HH s h → Mo sb s → q0 s x2 = some s9 → AW mX9_arrivals (rmD (1) 0 0) (fin (PV fun h' => HH s9 h' ∧ Mo s0 s9) 0 0) 68 [some (.ref 38), none, some (.int x2), none] [] h 0 0) : ∀ (n : Nat) (s : SS) (h : List aE) (x2 : Int32) (x3 : Int32), HH s h → Mo sb s → f_X9_arrivals_L4 q0 y1 n s x2 x3 = some s9 → AW mX9_arrivals (rmD (1) 0 0) (fin (PV fun h' => HH s9 h' ∧ Mo s0 s9) 0 0) 4 [some (.ref 38), some (.int y1), some (.int x2), some (.int x3)] [] h 0 0 := by
  intro n
  induction n with
  | zero =>
    intro s h x2 x3 H ms hf
    cases hf
  | succ n ih =>
    intro s h x2 x3 H ms hf
    replace hf : f_X9_arrivals_L4_b q0 y1 (f_X9_arrivals_L4 q0 y1 n) s x2 x3 = some s9 := hf
    unfold f_X9_arrivals_L4_b at hf
    refine aw_iload_n (pc' := 5) dX9_arrivals_4 rfl rfl ?_
    refine aw_aload_n (pc' := 6) dX9_arrivals_5 rfl rfl rfl ?_
    refine aw_gi (q := 30) (pc' := 9) H (H.fo rfl rfl) (by decide) rfl dX9_arrivals_6 rfl fl_RX9_19 ?_
    refine aw_cge (tgt := 68) (pc' := 12) dX9_arrivals_9 rfl rfl (fun c1 => ?_) (fun c1 => ?_)
    · replace hf := ifn c1 hf
      refine AW.lv_le (lz_k (lz_d (lz_k (lz_d lz_0)))) ?_
      exact hq0 _ _ _ H ms hf
    · replace hf := ifp c1 hf
      refine aw_aload_n (pc' := 13) dX9_arrivals_12 rfl rfl rfl ?_
      refine aw_gr (q := 30) (e := 7) (v := .ref 41) (pc' := 16) H (H.fo rfl rfl) (by decide) rfl rfl dX9_arrivals_13 rfl fl_RX9_16 ?_
      refine aw_iload_n (pc' := 17) dX9_arrivals_16 rfl rfl ?_
      obtain ⟨g2, hf⟩ := gd_e hf
      refine aw_ia (q := 33) (pc' := 18) H (H.fa rfl rfl rfl) g2 dX9_arrivals_17 rfl ?_
      refine aw_iload_n (pc' := 19) dX9_arrivals_18 rfl rfl ?_
      obtain ⟨k3, ek3, hf⟩ := jn_e hf
      have hk3 : ∀ (s3 : SS) (h3 : List aE) (j3_2 : Int32), HH s3 h3 → Mo s s3 → k3 s3 j3_2 = some s9 → AW mX9_arrivals (rmD (1) 0 0) (fin (PV fun h' => HH s9 h' ∧ Mo s0 s9) 0 0) 62 [some (.ref 38), some (.int y1), some (.int j3_2), some (.int x3)] [] h3 0 0 := by
        intro s3 h3 j3_2 H3 m3 hf
        subst ek3
        obtain ⟨v4, ev4, hf⟩ := vl_e hf
        refine aw_iincV (y := v4) (lv' := [_, _, _, _]) (pc' := 65) dX9_arrivals_62 rfl rfl (Nat.le_of_ble_eq_true rfl) ev4 rfl ?_
        refine aw_goto (tgt := 4) dX9_arrivals_65 rfl ?_
        exact ih _ _ _ _ H3 (ms.tr m3) hf
      clear ek3
      refine aw_cgt (tgt := 35) (pc' := 22) dX9_arrivals_19 rfl rfl (fun c5 => ?_) (fun c5 => ?_)
      · replace hf := ifp c5 hf
        refine aw_aload_n (pc' := 36) dX9_arrivals_35 rfl rfl rfl ?_
        refine aw_gr (q := 30) (e := 5) (v := .ref 40) (pc' := 39) H (H.fo rfl rfl) (by decide) rfl rfl dX9_arrivals_36 rfl fl_RX9_13 ?_
        refine aw_iload_n (pc' := 40) dX9_arrivals_39 rfl rfl ?_
        refine aw_aload_n (pc' := 41) dX9_arrivals_40 rfl rfl rfl ?_
        refine aw_gr (q := 30) (e := 5) (v := .ref 40) (pc' := 44) H (H.fo rfl rfl) (by decide) rfl rfl dX9_arrivals_41 rfl fl_RX9_13 ?_
        refine aw_iload_n (pc' := 45) dX9_arrivals_44 rfl rfl ?_
        obtain ⟨g6, hf⟩ := gd_e hf
        refine aw_ia (q := 32) (pc' := 46) H (H.fa rfl rfl rfl) g6 dX9_arrivals_45 rfl ?_
        obtain ⟨v7, ev7, hf⟩ := vl_e hf
        refine aw_topi ev7 ?_
        obtain ⟨g8, hf⟩ := gd_e hf
        obtain ⟨s10, es10, hf⟩ := st_e hf
        refine aw_is (q := 32) (pc' := 47) es10 H (H.fa rfl rfl rfl) g8 dX9_arrivals_46 rfl (fun h10 H10 => ?_)
        have m10 := Mo.ofI es10
        refine aw_aload_n (pc' := 48) dX9_arrivals_47 rfl rfl rfl ?_
        refine aw_gr (q := 30) (e := 7) (v := .ref 41) (pc' := 51) H10 (H10.fo rfl rfl) (l13 rfl) rfl rfl dX9_arrivals_48 rfl fl_RX9_16 ?_
        refine aw_iload_n (pc' := 52) dX9_arrivals_51 rfl rfl ?_
        refine aw_aload_n (pc' := 53) dX9_arrivals_52 rfl rfl rfl ?_
        refine aw_gr (q := 30) (e := 7) (v := .ref 41) (pc' := 56) H10 (H10.fo rfl rfl) (l13 rfl) rfl rfl dX9_arrivals_53 rfl fl_RX9_16 ?_
        refine aw_iload_n (pc' := 57) dX9_arrivals_56 rfl rfl ?_
        obtain ⟨g11, hf⟩ := gd_e hf
        refine aw_ia (q := 33) (pc' := 58) H10 (H10.fa rfl rfl rfl) g11 dX9_arrivals_57 rfl ?_
        obtain ⟨v12, ev12, hf⟩ := vl_e hf
        refine aw_topi ev12 ?_
        obtain ⟨g13, hf⟩ := gd_e hf
        obtain ⟨s14, es14, hf⟩ := st_e hf
        refine aw_is (q := 33) (pc' := 59) es14 H10 (H10.fa rfl rfl rfl) g13 dX9_arrivals_58 rfl (fun h14 H14 => ?_)
        have m14 := Mo.ofI es14
        obtain ⟨v15, ev15, hf⟩ := vl_e hf
        refine aw_iincV (y := v15) (lv' := [_, _, _, _]) (pc' := 62) dX9_arrivals_59 rfl rfl (Nat.le_of_ble_eq_true rfl) ev15 rfl ?_
        exact hk3 _ _ _ H14 (m10.tr m14) hf
      · replace hf := ifn c5 hf
        refine aw_aload_n (pc' := 23) dX9_arrivals_22 rfl rfl rfl ?_
        refine aw_aload_n (pc' := 24) dX9_arrivals_23 rfl rfl rfl ?_
        refine aw_gr (q := 30) (e := 5) (v := .ref 40) (pc' := 27) H (H.fo rfl rfl) (by decide) rfl rfl dX9_arrivals_24 rfl fl_RX9_13 ?_
        refine aw_iload_n (pc' := 28) dX9_arrivals_27 rfl rfl ?_
        obtain ⟨g16, hf⟩ := gd_e hf
        refine aw_ia (q := 32) (pc' := 29) H (H.fa rfl rfl rfl) g16 dX9_arrivals_28 rfl ?_
        obtain ⟨s17, ec17, hf⟩ := b1_e hf
        refine aw_callVv (M' := mX9_comesBelow) (nc' := 0) (ns' := 0) (pc' := 32) dX9_arrivals_29 rfl ml_RX9_23 kX9_comesBelow (t_X9_comesBelow H ec17) (H.ob (H.fo rfl rfl) (by decide)) rfl rfl rfl (Nat.le_of_ble_eq_true rfl) (rokD (by omega) (Nat.le_of_ble_eq_true rfl) (Nat.le_of_ble_eq_true rfl) (Nat.le_of_ble_eq_true rfl)) rfl rfl (fun h17 q17 => ?_)
        obtain ⟨H17, m17⟩ := q17
        refine aw_goto (tgt := 62) dX9_arrivals_32 rfl ?_
        exact hk3 _ _ _ H17 m17 hf
noncomputable def f_X9_arrivals (s0 : SS) (a0 : Int32) : Option SS := (f_X9_arrivals_L4 (fun (s18 : SS) (x18_2 : Int32) => (st (pS s18 30 5 x18_2) fun s19 => some s19)) a0 4000 s0 0 0)
set_option maxRecDepth 4000 in
theorem t_X9_arrivals {s0 s9 : SS} {h0 : List aE} {a0 : Int32} (H0 : HH s0 h0) (hf : f_X9_arrivals s0 a0 = some s9) : AM mX9_arrivals (1) [.ref 38, .int a0] h0 0 0 (PV fun h' => HH s9 h' ∧ Mo s0 s9) := by
  unfold f_X9_arrivals at hf
  refine am_of (lv := [some (.ref 38), some (.int a0), none, none]) rfl (Nat.le_of_ble_eq_true rfl) rfl ?_
  refine aw_iconst (v := 0) (pc' := 1) dX9_arrivals_0 rfl ic_0 ?_
  refine aw_istore_n (lv' := [_, _, _, _]) (pc' := 2) dX9_arrivals_1 rfl (Nat.le_of_ble_eq_true rfl) rfl ?_
  refine aw_iconst (v := 0) (pc' := 3) dX9_arrivals_2 rfl ic_0 ?_
  refine aw_istore_n (lv' := [_, _, _, _]) (pc' := 4) dX9_arrivals_3 rfl (Nat.le_of_ble_eq_true rfl) rfl ?_
  refine t_X9_arrivals_L4 (Mo.rf _) (fun s18 h18 x18_2 H18 m18 hf => ?_) 4000 _ _ _ _ H0 (Mo.rf _) hf
  refine aw_aload_n (pc' := 69) dX9_arrivals_68 rfl rfl rfl ?_
  refine aw_iload_n (pc' := 70) dX9_arrivals_69 rfl rfl ?_
  obtain ⟨s19, es19, hf⟩ := st_e hf
  refine aw_pi (q := 30) (pc' := 73) es19 H18 (H18.fo rfl rfl) (by decide) rfl dX9_arrivals_70 rfl fl_RX9_19 rfl (fun h19 H19 => ?_)
  have m19 := Mo.ofS es19
  obtain rfl := Option.some.inj hf
  exact aw_rv dX9_arrivals_73 rfl (Nat.le_of_ble_eq_true rfl) (Nat.le_of_ble_eq_true rfl) ⟨H19, (m18.tr m19)⟩
/-! ThirtyThreeBelow$Stores.eats -/
noncomputable def f_X9_eats (s0 : SS) (a0 : Int32) : Option (Int32 × SS) := (b1 (f_J9_min_7cf53 a0 (zS s0 30 0)) fun r1 => (vl (((zS s0 30 0) - r1)) fun v2 => (st (pS s0 30 0 v2) fun s3 => (vl (((zS s3 30 1) + r1)) fun v4 => (st (pS s3 30 1 v4) fun s5 => some (r1, s5))))))
set_option maxRecDepth 4000 in
theorem t_X9_eats {r9 : Int32} {s0 s9 : SS} {h0 : List aE} {a0 : Int32} (H0 : HH s0 h0) (hf : f_X9_eats s0 a0 = some (r9, s9)) : AM mX9_eats (1) [.ref 38, .int a0] h0 0 0 (PI fun r' h' => r9 = r' ∧ HH s9 h' ∧ Mo s0 s9) := by
  unfold f_X9_eats at hf
  refine am_of (lv := [some (.ref 38), some (.int a0), none]) rfl (Nat.le_of_ble_eq_true rfl) rfl ?_
  refine aw_iload_n (pc' := 1) dX9_eats_0 rfl rfl ?_
  refine aw_aload_n (pc' := 2) dX9_eats_1 rfl rfl rfl ?_
  refine aw_gi (q := 30) (pc' := 5) H0 (H0.fo rfl rfl) (l13 rfl) rfl dX9_eats_2 rfl fl_RX9_27 ?_
  obtain ⟨r1, ec1, hf⟩ := b1_e hf
  refine aw_callSi (M' := mJ9_min_7cf53) (nc' := 0) (ns' := 0) (pc' := 8) dX9_eats_5 rfl ml_RX9_30 kJ9_min_7cf53 (t_J9_min_7cf53 ec1) rfl rfl (Nat.le_of_ble_eq_true rfl) (rokD (by omega) (Nat.le_of_ble_eq_true rfl) (Nat.le_of_ble_eq_true rfl) (Nat.le_of_ble_eq_true rfl)) rfl rfl (fun _ h1 q1 => ?_)
  obtain ⟨rfl, rfl⟩ := q1
  refine aw_istore_n (lv' := [_, _, _]) (pc' := 9) dX9_eats_8 rfl (Nat.le_of_ble_eq_true rfl) rfl ?_
  refine aw_aload_n (pc' := 10) dX9_eats_9 rfl rfl rfl ?_
  refine aw_dup (pc' := 11) dX9_eats_10 rfl rfl ?_
  refine aw_gi (q := 30) (pc' := 14) H0 (H0.fo rfl rfl) (l13 rfl) rfl dX9_eats_11 rfl fl_RX9_27 ?_
  refine aw_iload_n (pc' := 15) dX9_eats_14 rfl rfl ?_
  refine aw_isub (pc' := 16) dX9_eats_15 rfl ?_
  obtain ⟨v2, ev2, hf⟩ := vl_e hf
  refine aw_topi ev2 ?_
  obtain ⟨s3, es3, hf⟩ := st_e hf
  refine aw_pi (q := 30) (pc' := 19) es3 H0 (H0.fo rfl rfl) (by decide) rfl dX9_eats_16 rfl fl_RX9_27 rfl (fun h3 H3 => ?_)
  have m3 := Mo.ofS es3
  refine aw_aload_n (pc' := 20) dX9_eats_19 rfl rfl rfl ?_
  refine aw_dup (pc' := 21) dX9_eats_20 rfl rfl ?_
  refine aw_gi (q := 30) (pc' := 24) H3 (H3.fo rfl rfl) (l13 rfl) rfl dX9_eats_21 rfl fl_RX9_36 ?_
  refine aw_iload_n (pc' := 25) dX9_eats_24 rfl rfl ?_
  refine aw_iadd (pc' := 26) dX9_eats_25 rfl ?_
  obtain ⟨v4, ev4, hf⟩ := vl_e hf
  refine aw_topi ev4 ?_
  obtain ⟨s5, es5, hf⟩ := st_e hf
  refine aw_pi (q := 30) (pc' := 29) es5 H3 (H3.fo rfl rfl) (by decide) rfl dX9_eats_26 rfl fl_RX9_36 rfl (fun h5 H5 => ?_)
  have m5 := Mo.ofS es5
  refine aw_iload_n (pc' := 30) dX9_eats_29 rfl rfl ?_
  obtain ⟨rfl, rfl⟩ := so2 hf
  exact aw_ri dX9_eats_30 rfl rfl (Nat.le_of_ble_eq_true rfl) (Nat.le_of_ble_eq_true rfl) ⟨rfl, H5, (m3.tr m5)⟩
/-! ThirtyThreeBelow$Text.joined -/
noncomputable def f_X10_joined (a0 : Int32) (a1 : Int32) (a2 : Int32) : Option Int32 := (if a0 = (-20) then (if a2 = (0 : Int32) then some 0 else (gd (¬ a2 = 0) (some (a1 % a2)))) else (if a0 = (-19) then (if a2 = (0 : Int32) then some 0 else (gd (¬ a2 = 0) (some (a1 / a2)))) else (if a0 = (-18) then some (a1 * a2) else (if a0 = (-17) then some (a1 - a2) else (if a0 = (-16) then some (a1 + a2) else (if a0 = (-15) then (if a2 < a1 then some 1 else some 0) else (if a0 = (-14) then (if a1 = a2 then some 1 else some 0) else (if a0 = (-13) then (if a1 < a2 then some 1 else some 0) else (if a0 = (-12) then (if a1 = (0 : Int32) then some 0 else (if a2 = (0 : Int32) then some 0 else some 1)) else (if a0 = (-11) then (if a1 = (0 : Int32) then (if a2 = (0 : Int32) then some 0 else some 1) else some 1) else some 0))))))))))
set_option maxRecDepth 4000 in
theorem t_X10_joined {r9 : Int32} {h0 : List aE} {a0 : Int32} {a1 : Int32} {a2 : Int32}  (hf : f_X10_joined a0 a1 a2 = some r9) : AM mX10_joined (0) [.int a0, .int a1, .int a2] h0 0 0 (PI fun r' h' => r9 = r' ∧ h0 = h') := by
  unfold f_X10_joined at hf
  refine am_of (lv := [some (.int a0), some (.int a1), some (.int a2)]) rfl (Nat.le_of_ble_eq_true rfl) rfl ?_
  refine aw_iload_n (pc' := 1) dX10_joined_0 rfl rfl ?_
  rcases Decidable.em (a0 = (-20)) with c1 | c1
  · replace hf := ifp c1 hf
    refine aw_tabIn (tgt := 141) (off := 140) dX10_joined_1 (by rw [c1]; decide) (by rw [c1]; decide) (by rw [c1]; decide) (by decide) ?_
    refine aw_iload_n (pc' := 142) dX10_joined_141 rfl rfl ?_
    refine aw_if_ne (tgt := 149) (pc' := 145) dX10_joined_142 rfl rfl (fun c2 => ?_) (fun c2 => ?_)
    · replace hf := ifn c2 hf
      refine aw_iload_n (pc' := 150) dX10_joined_149 rfl rfl ?_
      refine aw_iload_n (pc' := 151) dX10_joined_150 rfl rfl ?_
      obtain ⟨g3, hf⟩ := gd_e hf
      refine aw_irem (pc' := 152) dX10_joined_151 rfl g3 ?_
      obtain rfl := Option.some.inj hf
      exact aw_ri dX10_joined_152 rfl rfl (Nat.le_of_ble_eq_true rfl) (Nat.le_of_ble_eq_true rfl) ⟨rfl, rfl⟩
    · replace hf := ifp c2 hf
      refine aw_iconst (v := 0) (pc' := 146) dX10_joined_145 rfl ic_0 ?_
      refine aw_goto (tgt := 152) dX10_joined_146 rfl ?_
      obtain rfl := Option.some.inj hf
      exact aw_ri dX10_joined_152 rfl rfl (Nat.le_of_ble_eq_true rfl) (Nat.le_of_ble_eq_true rfl) ⟨rfl, rfl⟩
  replace hf := ifn c1 hf
  rcases Decidable.em (a0 = (-19)) with c4 | c4
  · replace hf := ifp c4 hf
    refine aw_tabIn (tgt := 129) (off := 128) dX10_joined_1 (by rw [c4]; decide) (by rw [c4]; decide) (by rw [c4]; decide) (by decide) ?_
    refine aw_iload_n (pc' := 130) dX10_joined_129 rfl rfl ?_
    refine aw_if_ne (tgt := 137) (pc' := 133) dX10_joined_130 rfl rfl (fun c5 => ?_) (fun c5 => ?_)
    · replace hf := ifn c5 hf
      refine aw_iload_n (pc' := 138) dX10_joined_137 rfl rfl ?_
      refine aw_iload_n (pc' := 139) dX10_joined_138 rfl rfl ?_
      obtain ⟨g6, hf⟩ := gd_e hf
      refine aw_idiv (pc' := 140) dX10_joined_139 rfl g6 ?_
      obtain rfl := Option.some.inj hf
      exact aw_ri dX10_joined_140 rfl rfl (Nat.le_of_ble_eq_true rfl) (Nat.le_of_ble_eq_true rfl) ⟨rfl, rfl⟩
    · replace hf := ifp c5 hf
      refine aw_iconst (v := 0) (pc' := 134) dX10_joined_133 rfl ic_0 ?_
      refine aw_goto (tgt := 140) dX10_joined_134 rfl ?_
      obtain rfl := Option.some.inj hf
      exact aw_ri dX10_joined_140 rfl rfl (Nat.le_of_ble_eq_true rfl) (Nat.le_of_ble_eq_true rfl) ⟨rfl, rfl⟩
  replace hf := ifn c4 hf
  rcases Decidable.em (a0 = (-18)) with c7 | c7
  · replace hf := ifp c7 hf
    refine aw_tabIn (tgt := 125) (off := 124) dX10_joined_1 (by rw [c7]; decide) (by rw [c7]; decide) (by rw [c7]; decide) (by decide) ?_
    refine aw_iload_n (pc' := 126) dX10_joined_125 rfl rfl ?_
    refine aw_iload_n (pc' := 127) dX10_joined_126 rfl rfl ?_
    refine aw_imul (pc' := 128) dX10_joined_127 rfl ?_
    obtain rfl := Option.some.inj hf
    exact aw_ri dX10_joined_128 rfl rfl (Nat.le_of_ble_eq_true rfl) (Nat.le_of_ble_eq_true rfl) ⟨rfl, rfl⟩
  replace hf := ifn c7 hf
  rcases Decidable.em (a0 = (-17)) with c8 | c8
  · replace hf := ifp c8 hf
    refine aw_tabIn (tgt := 121) (off := 120) dX10_joined_1 (by rw [c8]; decide) (by rw [c8]; decide) (by rw [c8]; decide) (by decide) ?_
    refine aw_iload_n (pc' := 122) dX10_joined_121 rfl rfl ?_
    refine aw_iload_n (pc' := 123) dX10_joined_122 rfl rfl ?_
    refine aw_isub (pc' := 124) dX10_joined_123 rfl ?_
    obtain rfl := Option.some.inj hf
    exact aw_ri dX10_joined_124 rfl rfl (Nat.le_of_ble_eq_true rfl) (Nat.le_of_ble_eq_true rfl) ⟨rfl, rfl⟩
  replace hf := ifn c8 hf
  rcases Decidable.em (a0 = (-16)) with c10 | c10
  · replace hf := ifp c10 hf
    refine aw_tabIn (tgt := 117) (off := 116) dX10_joined_1 (by rw [c10]; decide) (by rw [c10]; decide) (by rw [c10]; decide) (by decide) ?_
    refine aw_iload_n (pc' := 118) dX10_joined_117 rfl rfl ?_
    refine aw_iload_n (pc' := 119) dX10_joined_118 rfl rfl ?_
    refine aw_iadd (pc' := 120) dX10_joined_119 rfl ?_
    obtain rfl := Option.some.inj hf
    exact aw_ri dX10_joined_120 rfl rfl (Nat.le_of_ble_eq_true rfl) (Nat.le_of_ble_eq_true rfl) ⟨rfl, rfl⟩
  replace hf := ifn c10 hf
  rcases Decidable.em (a0 = (-15)) with c11 | c11
  · replace hf := ifp c11 hf
    refine aw_tabIn (tgt := 106) (off := 105) dX10_joined_1 (by rw [c11]; decide) (by rw [c11]; decide) (by rw [c11]; decide) (by decide) ?_
    refine aw_iload_n (pc' := 107) dX10_joined_106 rfl rfl ?_
    refine aw_iload_n (pc' := 108) dX10_joined_107 rfl rfl ?_
    refine aw_cle (tgt := 115) (pc' := 111) dX10_joined_108 rfl rfl (fun c12 => ?_) (fun c12 => ?_)
    · replace hf := ifn c12 hf
      refine aw_iconst (v := 0) (pc' := 116) dX10_joined_115 rfl ic_0 ?_
      obtain rfl := Option.some.inj hf
      exact aw_ri dX10_joined_116 rfl rfl (Nat.le_of_ble_eq_true rfl) (Nat.le_of_ble_eq_true rfl) ⟨rfl, rfl⟩
    · replace hf := ifp c12 hf
      refine aw_iconst (v := 1) (pc' := 112) dX10_joined_111 rfl ic_1 ?_
      refine aw_goto (tgt := 116) dX10_joined_112 rfl ?_
      obtain rfl := Option.some.inj hf
      exact aw_ri dX10_joined_116 rfl rfl (Nat.le_of_ble_eq_true rfl) (Nat.le_of_ble_eq_true rfl) ⟨rfl, rfl⟩
  replace hf := ifn c11 hf
  rcases Decidable.em (a0 = (-14)) with c13 | c13
  · replace hf := ifp c13 hf
    refine aw_tabIn (tgt := 95) (off := 94) dX10_joined_1 (by rw [c13]; decide) (by rw [c13]; decide) (by rw [c13]; decide) (by decide) ?_
    refine aw_iload_n (pc' := 96) dX10_joined_95 rfl rfl ?_
    refine aw_iload_n (pc' := 97) dX10_joined_96 rfl rfl ?_
    refine aw_icmp_ne (tgt := 104) (pc' := 100) dX10_joined_97 rfl rfl (fun c14 => ?_) (fun c14 => ?_)
    · replace hf := ifn c14 hf
      refine aw_iconst (v := 0) (pc' := 105) dX10_joined_104 rfl ic_0 ?_
      obtain rfl := Option.some.inj hf
      exact aw_ri dX10_joined_105 rfl rfl (Nat.le_of_ble_eq_true rfl) (Nat.le_of_ble_eq_true rfl) ⟨rfl, rfl⟩
    · replace hf := ifp c14 hf
      refine aw_iconst (v := 1) (pc' := 101) dX10_joined_100 rfl ic_1 ?_
      refine aw_goto (tgt := 105) dX10_joined_101 rfl ?_
      obtain rfl := Option.some.inj hf
      exact aw_ri dX10_joined_105 rfl rfl (Nat.le_of_ble_eq_true rfl) (Nat.le_of_ble_eq_true rfl) ⟨rfl, rfl⟩
  replace hf := ifn c13 hf
  rcases Decidable.em (a0 = (-13)) with c15 | c15
  · replace hf := ifp c15 hf
    refine aw_tabIn (tgt := 84) (off := 83) dX10_joined_1 (by rw [c15]; decide) (by rw [c15]; decide) (by rw [c15]; decide) (by decide) ?_
    refine aw_iload_n (pc' := 85) dX10_joined_84 rfl rfl ?_
    refine aw_iload_n (pc' := 86) dX10_joined_85 rfl rfl ?_
    refine aw_cge (tgt := 93) (pc' := 89) dX10_joined_86 rfl rfl (fun c16 => ?_) (fun c16 => ?_)
    · replace hf := ifn c16 hf
      refine aw_iconst (v := 0) (pc' := 94) dX10_joined_93 rfl ic_0 ?_
      obtain rfl := Option.some.inj hf
      exact aw_ri dX10_joined_94 rfl rfl (Nat.le_of_ble_eq_true rfl) (Nat.le_of_ble_eq_true rfl) ⟨rfl, rfl⟩
    · replace hf := ifp c16 hf
      refine aw_iconst (v := 1) (pc' := 90) dX10_joined_89 rfl ic_1 ?_
      refine aw_goto (tgt := 94) dX10_joined_90 rfl ?_
      obtain rfl := Option.some.inj hf
      exact aw_ri dX10_joined_94 rfl rfl (Nat.le_of_ble_eq_true rfl) (Nat.le_of_ble_eq_true rfl) ⟨rfl, rfl⟩
  replace hf := ifn c15 hf
  rcases Decidable.em (a0 = (-12)) with c17 | c17
  · replace hf := ifp c17 hf
    refine aw_tabIn (tgt := 70) (off := 69) dX10_joined_1 (by rw [c17]; decide) (by rw [c17]; decide) (by rw [c17]; decide) (by decide) ?_
    refine aw_iload_n (pc' := 71) dX10_joined_70 rfl rfl ?_
    refine aw_if_eq (tgt := 82) (pc' := 74) dX10_joined_71 rfl rfl (fun c18 => ?_) (fun c18 => ?_)
    · replace hf := ifp c18 hf
      refine aw_iconst (v := 0) (pc' := 83) dX10_joined_82 rfl ic_0 ?_
      obtain rfl := Option.some.inj hf
      exact aw_ri dX10_joined_83 rfl rfl (Nat.le_of_ble_eq_true rfl) (Nat.le_of_ble_eq_true rfl) ⟨rfl, rfl⟩
    · replace hf := ifn c18 hf
      refine aw_iload_n (pc' := 75) dX10_joined_74 rfl rfl ?_
      refine aw_if_eq (tgt := 82) (pc' := 78) dX10_joined_75 rfl rfl (fun c19 => ?_) (fun c19 => ?_)
      · replace hf := ifp c19 hf
        refine aw_iconst (v := 0) (pc' := 83) dX10_joined_82 rfl ic_0 ?_
        obtain rfl := Option.some.inj hf
        exact aw_ri dX10_joined_83 rfl rfl (Nat.le_of_ble_eq_true rfl) (Nat.le_of_ble_eq_true rfl) ⟨rfl, rfl⟩
      · replace hf := ifn c19 hf
        refine aw_iconst (v := 1) (pc' := 79) dX10_joined_78 rfl ic_1 ?_
        refine aw_goto (tgt := 83) dX10_joined_79 rfl ?_
        obtain rfl := Option.some.inj hf
        exact aw_ri dX10_joined_83 rfl rfl (Nat.le_of_ble_eq_true rfl) (Nat.le_of_ble_eq_true rfl) ⟨rfl, rfl⟩
  replace hf := ifn c17 hf
  rcases Decidable.em (a0 = (-11)) with c20 | c20
  · replace hf := ifp c20 hf
    refine aw_tabIn (tgt := 56) (off := 55) dX10_joined_1 (by rw [c20]; decide) (by rw [c20]; decide) (by rw [c20]; decide) (by decide) ?_
    refine aw_iload_n (pc' := 57) dX10_joined_56 rfl rfl ?_
    refine aw_if_ne (tgt := 64) (pc' := 60) dX10_joined_57 rfl rfl (fun c21 => ?_) (fun c21 => ?_)
    · replace hf := ifn c21 hf
      refine aw_iconst (v := 1) (pc' := 65) dX10_joined_64 rfl ic_1 ?_
      refine aw_goto (tgt := 69) dX10_joined_65 rfl ?_
      obtain rfl := Option.some.inj hf
      exact aw_ri dX10_joined_69 rfl rfl (Nat.le_of_ble_eq_true rfl) (Nat.le_of_ble_eq_true rfl) ⟨rfl, rfl⟩
    · replace hf := ifp c21 hf
      refine aw_iload_n (pc' := 61) dX10_joined_60 rfl rfl ?_
      refine aw_if_eq (tgt := 68) (pc' := 64) dX10_joined_61 rfl rfl (fun c22 => ?_) (fun c22 => ?_)
      · replace hf := ifp c22 hf
        refine aw_iconst (v := 0) (pc' := 69) dX10_joined_68 rfl ic_0 ?_
        obtain rfl := Option.some.inj hf
        exact aw_ri dX10_joined_69 rfl rfl (Nat.le_of_ble_eq_true rfl) (Nat.le_of_ble_eq_true rfl) ⟨rfl, rfl⟩
      · replace hf := ifn c22 hf
        refine aw_iconst (v := 1) (pc' := 65) dX10_joined_64 rfl ic_1 ?_
        refine aw_goto (tgt := 69) dX10_joined_65 rfl ?_
        obtain rfl := Option.some.inj hf
        exact aw_ri dX10_joined_69 rfl rfl (Nat.le_of_ble_eq_true rfl) (Nat.le_of_ble_eq_true rfl) ⟨rfl, rfl⟩
  replace hf := ifn c20 hf
  refine aw_tabOut (tgt := 153) dX10_joined_1 (by have a0 := tneK (K := (-20)) (by decide) c1; have a1 := tneK (K := (-19)) (by decide) c4; have a2 := tneK (K := (-18)) (by decide) c7; have a3 := tneK (K := (-17)) (by decide) c8; have a4 := tneK (K := (-16)) (by decide) c10; have a5 := tneK (K := (-15)) (by decide) c11; have a6 := tneK (K := (-14)) (by decide) c13; have a7 := tneK (K := (-13)) (by decide) c15; have a8 := tneK (K := (-12)) (by decide) c17; have a9 := tneK (K := (-11)) (by decide) c20; omega) (by decide) ?_
  refine aw_iconst (v := 0) (pc' := 154) dX10_joined_153 rfl ic_0 ?_
  obtain rfl := Option.some.inj hf
  exact aw_ri dX10_joined_154 rfl rfl (Nat.le_of_ble_eq_true rfl) (Nat.le_of_ble_eq_true rfl) ⟨rfl, rfl⟩
/-! ThirtyThreeBelow$Text.nameAt -/
noncomputable def f_X10_nameAt (s0 : SS) (a1 : Int32) : Option Int32 := (if a1 < (0 : Int32) then some 0 else (if a1 < (8 : Int32) then (gd (inB a1 8) (some (zI s0 28 (a1.toInt.toNat)))) else some 0))
set_option maxRecDepth 4000 in
theorem t_X10_nameAt {r9 : Int32} {s0 : SS} {h0 : List aE} {a1 : Int32} (H0 : HH s0 h0) (hf : f_X10_nameAt s0 a1 = some r9) : AM mX10_nameAt (0) [.ref 36, .int a1] h0 0 0 (PI fun r' h' => r9 = r' ∧ h0 = h') := by
  unfold f_X10_nameAt at hf
  refine am_of (lv := [some (.ref 36), some (.int a1)]) rfl (Nat.le_of_ble_eq_true rfl) rfl ?_
  refine aw_iload_n (pc' := 1) dX10_nameAt_0 rfl rfl ?_
  refine aw_zlt (tgt := 10) (pc' := 4) dX10_nameAt_1 rfl rfl (fun c1 => ?_) (fun c1 => ?_)
  · replace hf := ifp c1 hf
    refine aw_iconst (v := 0) (pc' := 11) dX10_nameAt_10 rfl ic_0 ?_
    refine aw_goto (tgt := 17) dX10_nameAt_11 rfl ?_
    obtain rfl := Option.some.inj hf
    exact aw_ri dX10_nameAt_17 rfl rfl (Nat.le_of_ble_eq_true rfl) (Nat.le_of_ble_eq_true rfl) ⟨rfl, rfl⟩
  · replace hf := ifn c1 hf
    refine aw_iload_n (pc' := 5) dX10_nameAt_4 rfl rfl ?_
    refine aw_aload_n (pc' := 6) dX10_nameAt_5 rfl rfl rfl ?_
    refine aw_al (q := 28) (t := 0) (v := 8) (pc' := 7) H0 (H0.fa rfl rfl rfl) (by decide) (by decide) dX10_nameAt_6 rfl ?_
    refine aw_clt (tgt := 14) (pc' := 10) dX10_nameAt_7 rfl rfl (fun c2 => ?_) (fun c2 => ?_)
    · replace hf := ifp c2 hf
      refine aw_aload_n (pc' := 15) dX10_nameAt_14 rfl rfl rfl ?_
      refine aw_iload_n (pc' := 16) dX10_nameAt_15 rfl rfl ?_
      obtain ⟨g3, hf⟩ := gd_e hf
      refine aw_ia (q := 28) (pc' := 17) H0 (H0.fa rfl rfl rfl) g3 dX10_nameAt_16 rfl ?_
      obtain rfl := Option.some.inj hf
      exact aw_ri dX10_nameAt_17 rfl rfl (Nat.le_of_ble_eq_true rfl) (Nat.le_of_ble_eq_true rfl) ⟨rfl, rfl⟩
    · replace hf := ifn c2 hf
      refine aw_iconst (v := 0) (pc' := 11) dX10_nameAt_10 rfl ic_0 ?_
      refine aw_goto (tgt := 17) dX10_nameAt_11 rfl ?_
      obtain rfl := Option.some.inj hf
      exact aw_ri dX10_nameAt_17 rfl rfl (Nat.le_of_ble_eq_true rfl) (Nat.le_of_ble_eq_true rfl) ⟨rfl, rfl⟩
/-! ThirtyThreeBelow$Text.worth -/
noncomputable def f_X10_worth_L8_b (q0 : SS → Int32 → Option (Int32 × SS)) (p0 : Nat) (rc : SS → Int32 → Int32 → Int32 → Option (Int32 × SS)) (s : SS) (x3 : Int32) (x4 : Int32) (x5 : Int32) : Option (Int32 × SS) := (if x5 < (Int32.ofNat (zN s (p0 + 1))) then (gd (inB x5 (zN s (p0 + 1))) (vl ((zI s (p0 + 1) (x5.toInt.toNat))) fun v3 => (jn (fun (s4 : SS) (j4_3 : Int32) (j4_4 : Int32) => (vl (x5 + 1) fun v5 => (rc s4 j4_3 j4_4 v5))) fun k4 => (if ((-11) : Int32) < v3 then (b1 (f_J9_min_7cf53 (x3 + (1 : Int32)) (63 : Int32)) fun r36 => (jn (fun (t37_0 : Int32) => (gd (inB r36 64) (st (pI s 29 (r36.toInt.toNat) t37_0) fun s39 => (k4 s39 r36 x4)))) fun k37 => (if v3 < (0 : Int32) then (b1 (f_X10_nameAt s (((-1) : Int32) - v3)) fun r41 => (k37 r41)) else (k37 v3)))) else (if x3 < (0 : Int32) then some (0, s) else (if v3 = ((-24) : Int32) then (if x4 = (0 : Int32) then (vl (x3 + (-1)) fun v35 => (k4 s v35 1)) else (q0 s x3)) else (if v3 = ((-23) : Int32) then (gd (inB x3 64) (jn (fun (t31_0 : Int32) => (vl (x3 + (-1)) fun v32 => (k4 s v32 t31_0))) fun k31 => (if (zI s 29 (x3.toInt.toNat)) = (0 : Int32) then (k31 0) else (k31 1)))) else (if v3 = ((-21) : Int32) then (gd (inB x3 64) (jn (fun (t26_0 : Int32) => (gd (inB x3 64) (st (pI s 29 (x3.toInt.toNat) t26_0) fun s28 => (k4 s28 x3 x4)))) fun k26 => (if (zI s 29 (x3.toInt.toNat)) = (0 : Int32) then (k26 1) else (k26 0)))) else (if v3 = ((-22) : Int32) then (gd (inB x3 64) (vl ((-(zI s 29 (x3.toInt.toNat)))) fun v22 => (gd (inB x3 64) (st (pI s 29 (x3.toInt.toNat) v22) fun s24 => (k4 s24 x3 x4))))) else (if (0 : Int32) < x3 then (vl (x3 + (-1)) fun v14 => (gd (inB v14 64) (vl ((v14 + (1 : Int32))) fun v16 => (gd (inB v16 64) (b1 (f_X10_joined v3 (zI s 29 (v14.toInt.toNat)) (zI s 29 (v16.toInt.toNat))) fun r18 => (gd (inB v14 64) (st (pI s 29 (v14.toInt.toNat) r18) fun s20 => (k4 s20 v14 x4)))))))) else (k4 s x3 x4))))))))))) else some (0, s))
noncomputable def f_X10_worth_L8 (q0 : SS → Int32 → Option (Int32 × SS)) (p0 : Nat) : Nat → SS → Int32 → Int32 → Int32 → Option (Int32 × SS)
  | 0, _, _, _, _ => none
  | n + 1, s, x3, x4, x5 => f_X10_worth_L8_b q0 p0 (f_X10_worth_L8 q0 p0 n) s x3 x4 x5
set_option maxRecDepth 4000 in
theorem t_X10_worth_L8 {r9 : Int32} {s0 sb s9 : SS} {q0 : SS → Int32 → Option (Int32 × SS)} {p0 : Nat} (mb : Mo s0 sb) (o_p0 : okT sb p0) (hq0 : ∀ (s : SS) (h : List aE) (x3 : Int32), HH s h → Mo sb s → q0 s x3 = some (r9, s9) → AW mX10_worth (rmD (1) 0 0) (fin (PI fun r' h' => r9 = r' ∧ HH s9 h' ∧ Mo s0 s9) 0 0) 87 [none, none, some (.ref 37), some (.int x3), none, none, none] [] h 0 0) : ∀ (n : Nat) (s : SS) (h : List aE) (x3 : Int32) (x4 : Int32) (x5 : Int32), HH s h → Mo sb s → f_X10_worth_L8 q0 p0 n s x3 x4 x5 = some (r9, s9) → AW mX10_worth (rmD (1) 0 0) (fin (PI fun r' h' => r9 = r' ∧ HH s9 h' ∧ Mo s0 s9) 0 0) 8 [some (.ref (p0 + 8)), some (.ref 36), some (.ref 37), some (.int x3), some (.int x4), some (.int x5), none] [] h 0 0 := by
  intro n
  induction n with
  | zero =>
    intro s h x3 x4 x5 H ms hf
    cases hf
  | succ n ih =>
    intro s h x3 x4 x5 H ms hf
    replace hf : f_X10_worth_L8_b q0 p0 (f_X10_worth_L8 q0 p0 n) s x3 x4 x5 = some (r9, s9) := hf
    unfold f_X10_worth_L8_b at hf
    refine aw_iload (pc' := 10) dX10_worth_8 rfl rfl ?_
    refine aw_aload_n (pc' := 11) dX10_worth_10 rfl rfl rfl ?_
    refine aw_gr (q := p0) (e := 3) (v := .ref (p0 + 1 + 8)) (pc' := 14) H (okT.ob (okT.mo o_p0 ms)) (by decide) rfl rfl dX10_worth_11 rfl fl_RX10_22 ?_
    refine aw_al (q := (p0 + 1)) (t := 0) (pc' := 15) H (okT.a1 (okT.mo o_p0 ms)) (by decide) rfl dX10_worth_14 rfl ?_
    refine aw_cge (tgt := 196) (pc' := 18) dX10_worth_15 rfl rfl (fun c1 => ?_) (fun c1 => ?_)
    · replace hf := ifn c1 hf
      refine aw_iconst (v := 0) (pc' := 197) dX10_worth_196 rfl ic_0 ?_
      obtain ⟨rfl, rfl⟩ := so2 hf
      exact aw_ri dX10_worth_197 rfl rfl (Nat.le_of_ble_eq_true rfl) (Nat.le_of_ble_eq_true rfl) ⟨rfl, H, (mb.tr ms)⟩
    · replace hf := ifp c1 hf
      refine aw_aload_n (pc' := 19) dX10_worth_18 rfl rfl rfl ?_
      refine aw_gr (q := p0) (e := 3) (v := .ref (p0 + 1 + 8)) (pc' := 22) H (okT.ob (okT.mo o_p0 ms)) (by decide) rfl rfl dX10_worth_19 rfl fl_RX10_22 ?_
      refine aw_iload (pc' := 24) dX10_worth_22 rfl rfl ?_
      obtain ⟨g2, hf⟩ := gd_e hf
      refine aw_ia (q := (p0 + 1)) (pc' := 25) H (okT.a1 (okT.mo o_p0 ms)) g2 dX10_worth_24 rfl ?_
      obtain ⟨v3, ev3, hf⟩ := vl_e hf
      refine aw_topi ev3 ?_
      refine aw_istore (lv' := [_, _, _, _, _, _, _]) (pc' := 27) dX10_worth_25 rfl (Nat.le_of_ble_eq_true rfl) rfl ?_
      refine aw_iload (pc' := 29) dX10_worth_27 rfl rfl ?_
      refine aw_bipush (v := (-11)) (pc' := 31) dX10_worth_29 rfl bp_m11 ?_
      obtain ⟨k4, ek4, hf⟩ := jn_e hf
      have hk4 : ∀ (s4 : SS) (h4 : List aE) (j4_3 : Int32) (j4_4 : Int32), HH s4 h4 → Mo s s4 → k4 s4 j4_3 j4_4 = some (r9, s9) → AW mX10_worth (rmD (1) 0 0) (fin (PI fun r' h' => r9 = r' ∧ HH s9 h' ∧ Mo s0 s9) 0 0) 190 [some (.ref (p0 + 8)), some (.ref 36), some (.ref 37), some (.int j4_3), some (.int j4_4), some (.int x5), none] [] h4 0 0 := by
        intro s4 h4 j4_3 j4_4 H4 m4 hf
        subst ek4
        obtain ⟨v5, ev5, hf⟩ := vl_e hf
        refine aw_iincV (y := v5) (lv' := [_, _, _, _, _, _, _]) (pc' := 193) dX10_worth_190 rfl rfl (Nat.le_of_ble_eq_true rfl) ev5 rfl ?_
        refine aw_goto (tgt := 8) dX10_worth_193 rfl ?_
        exact ih _ _ _ _ _ H4 (ms.tr m4) hf
      clear ek4
      refine aw_cle (tgt := 69) (pc' := 34) dX10_worth_31 rfl rfl (fun c6 => ?_) (fun c6 => ?_)
      · replace hf := ifn c6 hf
        refine aw_iload_n (pc' := 70) dX10_worth_69 rfl rfl ?_
        refine aw_zge (tgt := 75) (pc' := 73) dX10_worth_70 rfl rfl (fun c7 => ?_) (fun c7 => ?_)
        · replace hf := ifn c7 hf
          refine aw_iload (pc' := 77) dX10_worth_75 rfl rfl ?_
          refine aw_bipush (v := (-24)) (pc' := 79) dX10_worth_77 rfl bp_m24 ?_
          refine aw_icmp_ne (tgt := 100) (pc' := 82) dX10_worth_79 rfl rfl (fun c8 => ?_) (fun c8 => ?_)
          · replace hf := ifn c8 hf
            refine aw_iload (pc' := 102) dX10_worth_100 rfl rfl ?_
            refine aw_bipush (v := (-23)) (pc' := 104) dX10_worth_102 rfl bp_m23 ?_
            refine aw_icmp_ne (tgt := 126) (pc' := 107) dX10_worth_104 rfl rfl (fun c10 => ?_) (fun c10 => ?_)
            · replace hf := ifn c10 hf
              refine aw_iload (pc' := 128) dX10_worth_126 rfl rfl ?_
              refine aw_bipush (v := (-21)) (pc' := 130) dX10_worth_128 rfl bp_m21 ?_
              refine aw_icmp_ne (tgt := 150) (pc' := 133) dX10_worth_130 rfl rfl (fun c11 => ?_) (fun c11 => ?_)
              · replace hf := ifn c11 hf
                refine aw_iload (pc' := 152) dX10_worth_150 rfl rfl ?_
                refine aw_bipush (v := (-22)) (pc' := 154) dX10_worth_152 rfl bp_m22 ?_
                refine aw_icmp_ne (tgt := 167) (pc' := 157) dX10_worth_154 rfl rfl (fun c12 => ?_) (fun c12 => ?_)
                · replace hf := ifn c12 hf
                  refine aw_iload_n (pc' := 168) dX10_worth_167 rfl rfl ?_
                  refine aw_zle (tgt := 190) (pc' := 171) dX10_worth_168 rfl rfl (fun c13 => ?_) (fun c13 => ?_)
                  · replace hf := ifn c13 hf
                    refine AW.lv_le (lz_k (lz_k (lz_k (lz_k (lz_k (lz_k (lz_d lz_0))))))) ?_
                    exact hk4 _ _ _ _ H (Mo.rf _) hf
                  · replace hf := ifp c13 hf
                    obtain ⟨v14, ev14, hf⟩ := vl_e hf
                    refine aw_iincV (y := v14) (lv' := [_, _, _, _, _, _, _]) (pc' := 174) dX10_worth_171 rfl rfl (Nat.le_of_ble_eq_true rfl) ev14 rfl ?_
                    refine aw_aload_n (pc' := 175) dX10_worth_174 rfl rfl rfl ?_
                    refine aw_iload_n (pc' := 176) dX10_worth_175 rfl rfl ?_
                    refine aw_iload (pc' := 178) dX10_worth_176 rfl rfl ?_
                    refine aw_aload_n (pc' := 179) dX10_worth_178 rfl rfl rfl ?_
                    refine aw_iload_n (pc' := 180) dX10_worth_179 rfl rfl ?_
                    obtain ⟨g15, hf⟩ := gd_e hf
                    refine aw_ia (q := 29) (pc' := 181) H (H.fa rfl rfl rfl) g15 dX10_worth_180 rfl ?_
                    refine aw_aload_n (pc' := 182) dX10_worth_181 rfl rfl rfl ?_
                    refine aw_iload_n (pc' := 183) dX10_worth_182 rfl rfl ?_
                    refine aw_iconst (v := 1) (pc' := 184) dX10_worth_183 rfl ic_1 ?_
                    refine aw_iadd (pc' := 185) dX10_worth_184 rfl ?_
                    obtain ⟨v16, ev16, hf⟩ := vl_e hf
                    refine aw_topi ev16 ?_
                    obtain ⟨g17, hf⟩ := gd_e hf
                    refine aw_ia (q := 29) (pc' := 186) H (H.fa rfl rfl rfl) g17 dX10_worth_185 rfl ?_
                    obtain ⟨r18, ec18, hf⟩ := b1_e hf
                    refine aw_callSi (M' := mX10_joined) (nc' := 0) (ns' := 0) (pc' := 189) dX10_worth_186 rfl ml_RX10_36 kX10_joined (t_X10_joined ec18) rfl rfl (Nat.le_of_ble_eq_true rfl) (rokD (by omega) (Nat.le_of_ble_eq_true rfl) (Nat.le_of_ble_eq_true rfl) (Nat.le_of_ble_eq_true rfl)) rfl rfl (fun _ h18 q18 => ?_)
                    obtain ⟨rfl, rfl⟩ := q18
                    obtain ⟨g19, hf⟩ := gd_e hf
                    obtain ⟨s20, es20, hf⟩ := st_e hf
                    refine aw_is (q := 29) (pc' := 190) es20 H (H.fa rfl rfl rfl) g19 dX10_worth_189 rfl (fun h20 H20 => ?_)
                    have m20 := Mo.ofI es20
                    refine AW.lv_le (lz_k (lz_k (lz_k (lz_k (lz_k (lz_k (lz_d lz_0))))))) ?_
                    exact hk4 _ _ _ _ H20 m20 hf
                · replace hf := ifp c12 hf
                  refine aw_aload_n (pc' := 158) dX10_worth_157 rfl rfl rfl ?_
                  refine aw_iload_n (pc' := 159) dX10_worth_158 rfl rfl ?_
                  refine aw_aload_n (pc' := 160) dX10_worth_159 rfl rfl rfl ?_
                  refine aw_iload_n (pc' := 161) dX10_worth_160 rfl rfl ?_
                  obtain ⟨g21, hf⟩ := gd_e hf
                  refine aw_ia (q := 29) (pc' := 162) H (H.fa rfl rfl rfl) g21 dX10_worth_161 rfl ?_
                  refine aw_ineg (pc' := 163) dX10_worth_162 rfl ?_
                  obtain ⟨v22, ev22, hf⟩ := vl_e hf
                  refine aw_topi ev22 ?_
                  obtain ⟨g23, hf⟩ := gd_e hf
                  obtain ⟨s24, es24, hf⟩ := st_e hf
                  refine aw_is (q := 29) (pc' := 164) es24 H (H.fa rfl rfl rfl) g23 dX10_worth_163 rfl (fun h24 H24 => ?_)
                  have m24 := Mo.ofI es24
                  refine aw_goto (tgt := 190) dX10_worth_164 rfl ?_
                  refine AW.lv_le (lz_k (lz_k (lz_k (lz_k (lz_k (lz_k (lz_d lz_0))))))) ?_
                  exact hk4 _ _ _ _ H24 m24 hf
              · replace hf := ifp c11 hf
                refine aw_aload_n (pc' := 134) dX10_worth_133 rfl rfl rfl ?_
                refine aw_iload_n (pc' := 135) dX10_worth_134 rfl rfl ?_
                refine aw_aload_n (pc' := 136) dX10_worth_135 rfl rfl rfl ?_
                refine aw_iload_n (pc' := 137) dX10_worth_136 rfl rfl ?_
                obtain ⟨g25, hf⟩ := gd_e hf
                refine aw_ia (q := 29) (pc' := 138) H (H.fa rfl rfl rfl) g25 dX10_worth_137 rfl ?_
                obtain ⟨k26, ek26, hf⟩ := jn_e hf
                have hk26 : ∀ (t26_0 : Int32), k26 t26_0 = some (r9, s9) → AW mX10_worth (rmD (1) 0 0) (fin (PI fun r' h' => r9 = r' ∧ HH s9 h' ∧ Mo s0 s9) 0 0) 146 [some (.ref (p0 + 8)), some (.ref 36), some (.ref 37), some (.int x3), some (.int x4), some (.int x5), none] [.int t26_0, .int x3, .ref 37] h 0 0 := by
                  intro t26_0 hf
                  subst ek26
                  obtain ⟨g27, hf⟩ := gd_e hf
                  obtain ⟨s28, es28, hf⟩ := st_e hf
                  refine aw_is (q := 29) (pc' := 147) es28 H (H.fa rfl rfl rfl) g27 dX10_worth_146 rfl (fun h28 H28 => ?_)
                  have m28 := Mo.ofI es28
                  refine aw_goto (tgt := 190) dX10_worth_147 rfl ?_
                  exact hk4 _ _ _ _ H28 m28 hf
                clear ek26
                refine aw_if_ne (tgt := 145) (pc' := 141) dX10_worth_138 rfl rfl (fun c29 => ?_) (fun c29 => ?_)
                · replace hf := ifn c29 hf
                  refine aw_iconst (v := 0) (pc' := 146) dX10_worth_145 rfl ic_0 ?_
                  refine AW.lv_le (lz_k (lz_k (lz_k (lz_k (lz_k (lz_k (lz_d lz_0))))))) ?_
                  exact hk26 _ hf
                · replace hf := ifp c29 hf
                  refine aw_iconst (v := 1) (pc' := 142) dX10_worth_141 rfl ic_1 ?_
                  refine aw_goto (tgt := 146) dX10_worth_142 rfl ?_
                  refine AW.lv_le (lz_k (lz_k (lz_k (lz_k (lz_k (lz_k (lz_d lz_0))))))) ?_
                  exact hk26 _ hf
            · replace hf := ifp c10 hf
              refine aw_aload_n (pc' := 108) dX10_worth_107 rfl rfl rfl ?_
              refine aw_iload_n (pc' := 109) dX10_worth_108 rfl rfl ?_
              obtain ⟨g30, hf⟩ := gd_e hf
              refine aw_ia (q := 29) (pc' := 110) H (H.fa rfl rfl rfl) g30 dX10_worth_109 rfl ?_
              obtain ⟨k31, ek31, hf⟩ := jn_e hf
              have hk31 : ∀ (t31_0 : Int32), k31 t31_0 = some (r9, s9) → AW mX10_worth (rmD (1) 0 0) (fin (PI fun r' h' => r9 = r' ∧ HH s9 h' ∧ Mo s0 s9) 0 0) 118 [some (.ref (p0 + 8)), some (.ref 36), some (.ref 37), some (.int x3), none, some (.int x5), none] [.int t31_0] h 0 0 := by
                intro t31_0 hf
                subst ek31
                refine aw_istore (lv' := [_, _, _, _, _, _, _]) (pc' := 120) dX10_worth_118 rfl (Nat.le_of_ble_eq_true rfl) rfl ?_
                obtain ⟨v32, ev32, hf⟩ := vl_e hf
                refine aw_iincV (y := v32) (lv' := [_, _, _, _, _, _, _]) (pc' := 123) dX10_worth_120 rfl rfl (Nat.le_of_ble_eq_true rfl) ev32 rfl ?_
                refine aw_goto (tgt := 190) dX10_worth_123 rfl ?_
                exact hk4 _ _ _ _ H (Mo.rf _) hf
              clear ek31
              refine aw_if_eq (tgt := 117) (pc' := 113) dX10_worth_110 rfl rfl (fun c33 => ?_) (fun c33 => ?_)
              · replace hf := ifp c33 hf
                refine aw_iconst (v := 0) (pc' := 118) dX10_worth_117 rfl ic_0 ?_
                refine AW.lv_le (lz_k (lz_k (lz_k (lz_k (lz_d (lz_k (lz_d lz_0))))))) ?_
                exact hk31 _ hf
              · replace hf := ifn c33 hf
                refine aw_iconst (v := 1) (pc' := 114) dX10_worth_113 rfl ic_1 ?_
                refine aw_goto (tgt := 118) dX10_worth_114 rfl ?_
                refine AW.lv_le (lz_k (lz_k (lz_k (lz_k (lz_d (lz_k (lz_d lz_0))))))) ?_
                exact hk31 _ hf
          · replace hf := ifp c8 hf
            refine aw_iload (pc' := 84) dX10_worth_82 rfl rfl ?_
            refine aw_if_eq (tgt := 91) (pc' := 87) dX10_worth_84 rfl rfl (fun c34 => ?_) (fun c34 => ?_)
            · replace hf := ifp c34 hf
              refine aw_iconst (v := 1) (pc' := 92) dX10_worth_91 rfl ic_1 ?_
              refine aw_istore (lv' := [_, _, _, _, _, _, _]) (pc' := 94) dX10_worth_92 rfl (Nat.le_of_ble_eq_true rfl) rfl ?_
              obtain ⟨v35, ev35, hf⟩ := vl_e hf
              refine aw_iincV (y := v35) (lv' := [_, _, _, _, _, _, _]) (pc' := 97) dX10_worth_94 rfl rfl (Nat.le_of_ble_eq_true rfl) ev35 rfl ?_
              refine aw_goto (tgt := 190) dX10_worth_97 rfl ?_
              refine AW.lv_le (lz_k (lz_k (lz_k (lz_k (lz_k (lz_k (lz_d lz_0))))))) ?_
              exact hk4 _ _ _ _ H (Mo.rf _) hf
            · replace hf := ifn c34 hf
              refine AW.lv_le (lz_d (lz_d (lz_k (lz_k (lz_d (lz_d (lz_d lz_0))))))) ?_
              exact hq0 _ _ _ H ms hf
        · replace hf := ifp c7 hf
          refine aw_iconst (v := 0) (pc' := 74) dX10_worth_73 rfl ic_0 ?_
          obtain ⟨rfl, rfl⟩ := so2 hf
          exact aw_ri dX10_worth_74 rfl rfl (Nat.le_of_ble_eq_true rfl) (Nat.le_of_ble_eq_true rfl) ⟨rfl, H, (mb.tr ms)⟩
      · replace hf := ifp c6 hf
        refine aw_iload_n (pc' := 35) dX10_worth_34 rfl rfl ?_
        refine aw_iconst (v := 1) (pc' := 36) dX10_worth_35 rfl ic_1 ?_
        refine aw_iadd (pc' := 37) dX10_worth_36 rfl ?_
        refine aw_aload_n (pc' := 38) dX10_worth_37 rfl rfl rfl ?_
        refine aw_al (q := 29) (t := 0) (v := 64) (pc' := 39) H (H.fa rfl rfl rfl) (by decide) (by decide) dX10_worth_38 rfl ?_
        refine aw_iconst (v := 1) (pc' := 40) dX10_worth_39 rfl ic_1 ?_
        refine aw_isub (pc' := 41) dX10_worth_40 rfl ?_
        refine aw_topi (v := 63) (by decide) ?_
        obtain ⟨r36, ec36, hf⟩ := b1_e hf
        refine aw_callSi (M' := mJ9_min_7cf53) (nc' := 0) (ns' := 0) (pc' := 44) dX10_worth_41 rfl ml_RX10_26 kJ9_min_7cf53 (t_J9_min_7cf53 ec36) rfl rfl (Nat.le_of_ble_eq_true rfl) (rokD (by omega) (Nat.le_of_ble_eq_true rfl) (Nat.le_of_ble_eq_true rfl) (Nat.le_of_ble_eq_true rfl)) rfl rfl (fun _ h36 q36 => ?_)
        obtain ⟨rfl, rfl⟩ := q36
        refine aw_istore_n (lv' := [_, _, _, _, _, _, _]) (pc' := 45) dX10_worth_44 rfl (Nat.le_of_ble_eq_true rfl) rfl ?_
        refine aw_aload_n (pc' := 46) dX10_worth_45 rfl rfl rfl ?_
        refine aw_iload_n (pc' := 47) dX10_worth_46 rfl rfl ?_
        refine aw_iload (pc' := 49) dX10_worth_47 rfl rfl ?_
        obtain ⟨k37, ek37, hf⟩ := jn_e hf
        have hk37 : ∀ (t37_0 : Int32), k37 t37_0 = some (r9, s9) → AW mX10_worth (rmD (1) 0 0) (fin (PI fun r' h' => r9 = r' ∧ HH s9 h' ∧ Mo s0 s9) 0 0) 65 [some (.ref (p0 + 8)), some (.ref 36), some (.ref 37), some (.int r36), some (.int x4), some (.int x5), none] [.int t37_0, .int r36, .ref 37] h 0 0 := by
          intro t37_0 hf
          subst ek37
          obtain ⟨g38, hf⟩ := gd_e hf
          obtain ⟨s39, es39, hf⟩ := st_e hf
          refine aw_is (q := 29) (pc' := 66) es39 H (H.fa rfl rfl rfl) g38 dX10_worth_65 rfl (fun h39 H39 => ?_)
          have m39 := Mo.ofI es39
          refine aw_goto (tgt := 190) dX10_worth_66 rfl ?_
          exact hk4 _ _ _ _ H39 m39 hf
        clear ek37
        refine aw_zlt (tgt := 57) (pc' := 52) dX10_worth_49 rfl rfl (fun c40 => ?_) (fun c40 => ?_)
        · replace hf := ifp c40 hf
          refine aw_aload_n (pc' := 58) dX10_worth_57 rfl rfl rfl ?_
          refine aw_iconst (v := (-1)) (pc' := 59) dX10_worth_58 rfl ic_m1 ?_
          refine aw_iload (pc' := 61) dX10_worth_59 rfl rfl ?_
          refine aw_isub (pc' := 62) dX10_worth_61 rfl ?_
          obtain ⟨r41, ec41, hf⟩ := b1_e hf
          refine aw_callSi (M' := mX10_nameAt) (nc' := 0) (ns' := 0) (pc' := 65) dX10_worth_62 rfl ml_RX10_32 kX10_nameAt (t_X10_nameAt H ec41) rfl rfl (Nat.le_of_ble_eq_true rfl) (rokD (by omega) (Nat.le_of_ble_eq_true rfl) (Nat.le_of_ble_eq_true rfl) (Nat.le_of_ble_eq_true rfl)) rfl rfl (fun _ h41 q41 => ?_)
          obtain ⟨rfl, rfl⟩ := q41
          refine AW.lv_le (lz_k (lz_k (lz_k (lz_k (lz_k (lz_k (lz_d lz_0))))))) ?_
          exact hk37 _ hf
        · replace hf := ifn c40 hf
          refine aw_iload (pc' := 54) dX10_worth_52 rfl rfl ?_
          refine aw_goto (tgt := 65) dX10_worth_54 rfl ?_
          refine AW.lv_le (lz_k (lz_k (lz_k (lz_k (lz_k (lz_k (lz_d lz_0))))))) ?_
          exact hk37 _ hf
noncomputable def f_X10_worth (s0 : SS) (pt : Nat) : Option (Int32 × SS) := (f_X10_worth_L8 (fun (s42 : SS) (x42_3 : Int32) => (gd (inB x42_3 64) (some ((zI s42 29 (x42_3.toInt.toNat)), s42)))) pt 4000 s0 (-1) 1 0)
set_option maxRecDepth 4000 in
theorem t_X10_worth {r9 : Int32} {s0 s9 : SS} {h0 : List aE} {pt : Nat} (H0 : HH s0 h0) (o_pt : okT s0 pt) (hf : f_X10_worth s0 pt = some (r9, s9)) : AM mX10_worth (1) [.ref (pt + 8), .ref 36, .ref 37] h0 0 0 (PI fun r' h' => r9 = r' ∧ HH s9 h' ∧ Mo s0 s9) := by
  unfold f_X10_worth at hf
  refine am_of (lv := [some (.ref (pt + 8)), some (.ref 36), some (.ref 37), none, none, none, none]) rfl (Nat.le_of_ble_eq_true rfl) rfl ?_
  refine aw_iconst (v := (-1)) (pc' := 1) dX10_worth_0 rfl ic_m1 ?_
  refine aw_istore_n (lv' := [_, _, _, _, _, _, _]) (pc' := 2) dX10_worth_1 rfl (Nat.le_of_ble_eq_true rfl) rfl ?_
  refine aw_iconst (v := 1) (pc' := 3) dX10_worth_2 rfl ic_1 ?_
  refine aw_istore (lv' := [_, _, _, _, _, _, _]) (pc' := 5) dX10_worth_3 rfl (Nat.le_of_ble_eq_true rfl) rfl ?_
  refine aw_iconst (v := 0) (pc' := 6) dX10_worth_5 rfl ic_0 ?_
  refine aw_istore (lv' := [_, _, _, _, _, _, _]) (pc' := 8) dX10_worth_6 rfl (Nat.le_of_ble_eq_true rfl) rfl ?_
  refine t_X10_worth_L8 (Mo.rf _) o_pt (fun s42 h42 x42_3 H42 m42 hf => ?_) 4000 _ _ _ _ _ H0 (Mo.rf _) hf
  refine aw_aload_n (pc' := 88) dX10_worth_87 rfl rfl rfl ?_
  refine aw_iload_n (pc' := 89) dX10_worth_88 rfl rfl ?_
  obtain ⟨g43, hf⟩ := gd_e hf
  refine aw_ia (q := 29) (pc' := 90) H42 (H42.fa rfl rfl rfl) g43 dX10_worth_89 rfl ?_
  obtain ⟨rfl, rfl⟩ := so2 hf
  exact aw_ri dX10_worth_90 rfl rfl (Nat.le_of_ble_eq_true rfl) (Nat.le_of_ble_eq_true rfl) ⟨rfl, H42, m42⟩
/-! ThirtyThreeBelow.placeOf -/
noncomputable def f_X11_placeOf (a0 : Int32) : Option Int32 := (if a0 < (0 : Int32) then some (-1) else (if (a0 / (100 : Int32)) < (32 : Int32) then (b1 (f_X11_isYard (a0 % (100 : Int32))) fun r3 => (if r3 = (0 : Int32) then some (-1) else some ((((a0 / (100 : Int32)) * (60 : Int32)) + (a0 % (100 : Int32))) - (1 : Int32)))) else some (-1)))
set_option maxRecDepth 4000 in
theorem t_X11_placeOf {r9 : Int32} {h0 : List aE} {a0 : Int32}  (hf : f_X11_placeOf a0 = some r9) : AM mX11_placeOf (1) [.int a0] h0 0 0 (PI fun r' h' => r9 = r' ∧ h0 = h') := by
  unfold f_X11_placeOf at hf
  refine am_of (lv := [some (.int a0)]) rfl (Nat.le_of_ble_eq_true rfl) rfl ?_
  refine aw_iload_n (pc' := 1) dX11_placeOf_0 rfl rfl ?_
  refine aw_zlt (tgt := 23) (pc' := 4) dX11_placeOf_1 rfl rfl (fun c1 => ?_) (fun c1 => ?_)
  · replace hf := ifp c1 hf
    refine aw_iconst (v := (-1)) (pc' := 24) dX11_placeOf_23 rfl ic_m1 ?_
    obtain rfl := Option.some.inj hf
    exact aw_ri dX11_placeOf_24 rfl rfl (Nat.le_of_ble_eq_true rfl) (Nat.le_of_ble_eq_true rfl) ⟨rfl, rfl⟩
  · replace hf := ifn c1 hf
    refine aw_iload_n (pc' := 5) dX11_placeOf_4 rfl rfl ?_
    refine aw_bipush (v := 100) (pc' := 7) dX11_placeOf_5 rfl bp_100 ?_
    refine aw_idiv (pc' := 8) dX11_placeOf_7 rfl (by decide) ?_
    refine aw_bipush (v := 32) (pc' := 10) dX11_placeOf_8 rfl bp_32 ?_
    refine aw_cge (tgt := 23) (pc' := 13) dX11_placeOf_10 rfl rfl (fun c2 => ?_) (fun c2 => ?_)
    · replace hf := ifn c2 hf
      refine aw_iconst (v := (-1)) (pc' := 24) dX11_placeOf_23 rfl ic_m1 ?_
      obtain rfl := Option.some.inj hf
      exact aw_ri dX11_placeOf_24 rfl rfl (Nat.le_of_ble_eq_true rfl) (Nat.le_of_ble_eq_true rfl) ⟨rfl, rfl⟩
    · replace hf := ifp c2 hf
      refine aw_iload_n (pc' := 14) dX11_placeOf_13 rfl rfl ?_
      refine aw_bipush (v := 100) (pc' := 16) dX11_placeOf_14 rfl bp_100 ?_
      refine aw_irem (pc' := 17) dX11_placeOf_16 rfl (by decide) ?_
      obtain ⟨r3, ec3, hf⟩ := b1_e hf
      refine aw_callSi (M' := mX11_isYard) (nc' := 0) (ns' := 0) (pc' := 20) dX11_placeOf_17 rfl ml_RX11_122 kX11_isYard (t_X11_isYard ec3) rfl rfl (Nat.le_of_ble_eq_true rfl) (rokD (by omega) (Nat.le_of_ble_eq_true rfl) (Nat.le_of_ble_eq_true rfl) (Nat.le_of_ble_eq_true rfl)) rfl rfl (fun _ h3 q3 => ?_)
      obtain ⟨rfl, rfl, zb3⟩ := q3
      refine aw_if_ne (tgt := 25) (pc' := 23) dX11_placeOf_20 rfl rfl (fun c4 => ?_) (fun c4 => ?_)
      · replace hf := ifn c4 hf
        refine aw_iload_n (pc' := 26) dX11_placeOf_25 rfl rfl ?_
        refine aw_bipush (v := 100) (pc' := 28) dX11_placeOf_26 rfl bp_100 ?_
        refine aw_idiv (pc' := 29) dX11_placeOf_28 rfl (by decide) ?_
        refine aw_bipush (v := 60) (pc' := 31) dX11_placeOf_29 rfl bp_60 ?_
        refine aw_imul (pc' := 32) dX11_placeOf_31 rfl ?_
        refine aw_iload_n (pc' := 33) dX11_placeOf_32 rfl rfl ?_
        refine aw_bipush (v := 100) (pc' := 35) dX11_placeOf_33 rfl bp_100 ?_
        refine aw_irem (pc' := 36) dX11_placeOf_35 rfl (by decide) ?_
        refine aw_iadd (pc' := 37) dX11_placeOf_36 rfl ?_
        refine aw_iconst (v := 1) (pc' := 38) dX11_placeOf_37 rfl ic_1 ?_
        refine aw_isub (pc' := 39) dX11_placeOf_38 rfl ?_
        obtain rfl := Option.some.inj hf
        exact aw_ri dX11_placeOf_39 rfl rfl (Nat.le_of_ble_eq_true rfl) (Nat.le_of_ble_eq_true rfl) ⟨rfl, rfl⟩
      · replace hf := ifp c4 hf
        refine aw_iconst (v := (-1)) (pc' := 24) dX11_placeOf_23 rfl ic_m1 ?_
        obtain rfl := Option.some.inj hf
        exact aw_ri dX11_placeOf_24 rfl rfl (Nat.le_of_ble_eq_true rfl) (Nat.le_of_ble_eq_true rfl) ⟨rfl, rfl⟩
/-! ThirtyThreeBelow.hard -/
noncomputable def f_X11_hard (s0 : SS) (a0 : Int32) (a1 : Int32) : Option (Int32 × SS) := (b1 (f_X11_placeOf a0) fun r1 => (if r1 < (0 : Int32) then some ((-1), s0) else (if a1 < (1 : Int32) then some ((-1), s0) else (if (9 : Int32) < a1 then some ((-1), s0) else (gd (inB r1 1920) (vl ((zI s0 2 (r1.toInt.toNat))) fun v6 => (gd (inB r1 1920) (st (pI s0 2 (r1.toInt.toNat) a1) fun s8 => some (v6, s8)))))))))
set_option maxRecDepth 4000 in
theorem t_X11_hard {r9 : Int32} {s0 s9 : SS} {h0 : List aE} {a0 : Int32} {a1 : Int32} (H0 : HH s0 h0) (hf : f_X11_hard s0 a0 a1 = some (r9, s9)) : AM mX11_hard (2) [.ref 8, .int a0, .int a1] h0 0 0 (PI fun r' h' => r9 = r' ∧ HH s9 h' ∧ Mo s0 s9) := by
  unfold f_X11_hard at hf
  refine am_of (lv := [some (.ref 8), some (.int a0), some (.int a1), none, none]) rfl (Nat.le_of_ble_eq_true rfl) rfl ?_
  refine aw_iload_n (pc' := 1) dX11_hard_0 rfl rfl ?_
  obtain ⟨r1, ec1, hf⟩ := b1_e hf
  refine aw_callSi (M' := mX11_placeOf) (nc' := 0) (ns' := 0) (pc' := 4) dX11_hard_1 rfl ml_RX11_101 kX11_placeOf (t_X11_placeOf ec1) rfl rfl (Nat.le_of_ble_eq_true rfl) (rokD (by omega) (Nat.le_of_ble_eq_true rfl) (Nat.le_of_ble_eq_true rfl) (Nat.le_of_ble_eq_true rfl)) rfl rfl (fun _ h1 q1 => ?_)
  obtain ⟨rfl, rfl⟩ := q1
  refine aw_istore_n (lv' := [_, _, _, _, _]) (pc' := 5) dX11_hard_4 rfl (Nat.le_of_ble_eq_true rfl) rfl ?_
  refine aw_iload_n (pc' := 6) dX11_hard_5 rfl rfl ?_
  refine aw_zlt (tgt := 20) (pc' := 9) dX11_hard_6 rfl rfl (fun c2 => ?_) (fun c2 => ?_)
  · replace hf := ifp c2 hf
    refine aw_iconst (v := (-1)) (pc' := 21) dX11_hard_20 rfl ic_m1 ?_
    obtain ⟨rfl, rfl⟩ := so2 hf
    exact aw_ri dX11_hard_21 rfl rfl (Nat.le_of_ble_eq_true rfl) (Nat.le_of_ble_eq_true rfl) ⟨rfl, H0, (Mo.rf _)⟩
  · replace hf := ifn c2 hf
    refine aw_iload_n (pc' := 10) dX11_hard_9 rfl rfl ?_
    refine aw_iconst (v := 1) (pc' := 11) dX11_hard_10 rfl ic_1 ?_
    refine aw_clt (tgt := 20) (pc' := 14) dX11_hard_11 rfl rfl (fun c3 => ?_) (fun c3 => ?_)
    · replace hf := ifp c3 hf
      refine aw_iconst (v := (-1)) (pc' := 21) dX11_hard_20 rfl ic_m1 ?_
      obtain ⟨rfl, rfl⟩ := so2 hf
      exact aw_ri dX11_hard_21 rfl rfl (Nat.le_of_ble_eq_true rfl) (Nat.le_of_ble_eq_true rfl) ⟨rfl, H0, (Mo.rf _)⟩
    · replace hf := ifn c3 hf
      refine aw_iload_n (pc' := 15) dX11_hard_14 rfl rfl ?_
      refine aw_bipush (v := 9) (pc' := 17) dX11_hard_15 rfl bp_9 ?_
      refine aw_cle (tgt := 22) (pc' := 20) dX11_hard_17 rfl rfl (fun c4 => ?_) (fun c4 => ?_)
      · replace hf := ifn c4 hf
        refine aw_aload_n (pc' := 23) dX11_hard_22 rfl rfl rfl ?_
        refine aw_gr (q := 0) (e := 3) (v := .ref 9) (pc' := 26) H0 (H0.fo rfl rfl) (l13 rfl) rfl rfl dX11_hard_23 rfl fl_RX11_10 ?_
        refine aw_gr (q := 1) (e := 3) (v := .ref 10) (pc' := 29) H0 (H0.fo rfl rfl) (l13 rfl) rfl rfl dX11_hard_26 rfl fl_RX11_105 ?_
        refine aw_iload_n (pc' := 30) dX11_hard_29 rfl rfl ?_
        obtain ⟨g5, hf⟩ := gd_e hf
        refine aw_ia (q := 2) (pc' := 31) H0 (H0.fa rfl rfl rfl) g5 dX11_hard_30 rfl ?_
        obtain ⟨v6, ev6, hf⟩ := vl_e hf
        refine aw_topi ev6 ?_
        refine aw_istore (lv' := [_, _, _, _, _]) (pc' := 33) dX11_hard_31 rfl (Nat.le_of_ble_eq_true rfl) rfl ?_
        refine aw_aload_n (pc' := 34) dX11_hard_33 rfl rfl rfl ?_
        refine aw_gr (q := 0) (e := 3) (v := .ref 9) (pc' := 37) H0 (H0.fo rfl rfl) (l13 rfl) rfl rfl dX11_hard_34 rfl fl_RX11_10 ?_
        refine aw_gr (q := 1) (e := 3) (v := .ref 10) (pc' := 40) H0 (H0.fo rfl rfl) (l13 rfl) rfl rfl dX11_hard_37 rfl fl_RX11_105 ?_
        refine aw_iload_n (pc' := 41) dX11_hard_40 rfl rfl ?_
        refine aw_iload_n (pc' := 42) dX11_hard_41 rfl rfl ?_
        obtain ⟨g7, hf⟩ := gd_e hf
        obtain ⟨s8, es8, hf⟩ := st_e hf
        refine aw_is (q := 2) (pc' := 43) es8 H0 (H0.fa rfl rfl rfl) g7 dX11_hard_42 rfl (fun h8 H8 => ?_)
        have m8 := Mo.ofI es8
        refine aw_iload (pc' := 45) dX11_hard_43 rfl rfl ?_
        obtain ⟨rfl, rfl⟩ := so2 hf
        exact aw_ri dX11_hard_45 rfl rfl (Nat.le_of_ble_eq_true rfl) (Nat.le_of_ble_eq_true rfl) ⟨rfl, H8, m8⟩
      · replace hf := ifp c4 hf
        refine aw_iconst (v := (-1)) (pc' := 21) dX11_hard_20 rfl ic_m1 ?_
        obtain ⟨rfl, rfl⟩ := so2 hf
        exact aw_ri dX11_hard_21 rfl rfl (Nat.le_of_ble_eq_true rfl) (Nat.le_of_ble_eq_true rfl) ⟨rfl, H0, (Mo.rf _)⟩
/-! ThirtyThreeBelow.open -/
noncomputable def f_X11_open (s0 : SS) (a0 : Int32) (a1 : Int32) : Option (Int32 × SS) := (b1 (f_X11_placeOf a0) fun r1 => (if r1 < (0 : Int32) then some ((-1), s0) else (if a1 < (0 : Int32) then some ((-1), s0) else (if (1 : Int32) < a1 then some ((-1), s0) else (gd (inB r1 1920) (vl ((zI s0 3 (r1.toInt.toNat))) fun v6 => (gd (inB r1 1920) (st (pI s0 3 (r1.toInt.toNat) a1) fun s8 => some (v6, s8)))))))))
set_option maxRecDepth 4000 in
theorem t_X11_open {r9 : Int32} {s0 s9 : SS} {h0 : List aE} {a0 : Int32} {a1 : Int32} (H0 : HH s0 h0) (hf : f_X11_open s0 a0 a1 = some (r9, s9)) : AM mX11_open (2) [.ref 8, .int a0, .int a1] h0 0 0 (PI fun r' h' => r9 = r' ∧ HH s9 h' ∧ Mo s0 s9) := by
  unfold f_X11_open at hf
  refine am_of (lv := [some (.ref 8), some (.int a0), some (.int a1), none, none]) rfl (Nat.le_of_ble_eq_true rfl) rfl ?_
  refine aw_iload_n (pc' := 1) dX11_open_0 rfl rfl ?_
  obtain ⟨r1, ec1, hf⟩ := b1_e hf
  refine aw_callSi (M' := mX11_placeOf) (nc' := 0) (ns' := 0) (pc' := 4) dX11_open_1 rfl ml_RX11_101 kX11_placeOf (t_X11_placeOf ec1) rfl rfl (Nat.le_of_ble_eq_true rfl) (rokD (by omega) (Nat.le_of_ble_eq_true rfl) (Nat.le_of_ble_eq_true rfl) (Nat.le_of_ble_eq_true rfl)) rfl rfl (fun _ h1 q1 => ?_)
  obtain ⟨rfl, rfl⟩ := q1
  refine aw_istore_n (lv' := [_, _, _, _, _]) (pc' := 5) dX11_open_4 rfl (Nat.le_of_ble_eq_true rfl) rfl ?_
  refine aw_iload_n (pc' := 6) dX11_open_5 rfl rfl ?_
  refine aw_zlt (tgt := 18) (pc' := 9) dX11_open_6 rfl rfl (fun c2 => ?_) (fun c2 => ?_)
  · replace hf := ifp c2 hf
    refine aw_iconst (v := (-1)) (pc' := 19) dX11_open_18 rfl ic_m1 ?_
    obtain ⟨rfl, rfl⟩ := so2 hf
    exact aw_ri dX11_open_19 rfl rfl (Nat.le_of_ble_eq_true rfl) (Nat.le_of_ble_eq_true rfl) ⟨rfl, H0, (Mo.rf _)⟩
  · replace hf := ifn c2 hf
    refine aw_iload_n (pc' := 10) dX11_open_9 rfl rfl ?_
    refine aw_zlt (tgt := 18) (pc' := 13) dX11_open_10 rfl rfl (fun c3 => ?_) (fun c3 => ?_)
    · replace hf := ifp c3 hf
      refine aw_iconst (v := (-1)) (pc' := 19) dX11_open_18 rfl ic_m1 ?_
      obtain ⟨rfl, rfl⟩ := so2 hf
      exact aw_ri dX11_open_19 rfl rfl (Nat.le_of_ble_eq_true rfl) (Nat.le_of_ble_eq_true rfl) ⟨rfl, H0, (Mo.rf _)⟩
    · replace hf := ifn c3 hf
      refine aw_iload_n (pc' := 14) dX11_open_13 rfl rfl ?_
      refine aw_iconst (v := 1) (pc' := 15) dX11_open_14 rfl ic_1 ?_
      refine aw_cle (tgt := 20) (pc' := 18) dX11_open_15 rfl rfl (fun c4 => ?_) (fun c4 => ?_)
      · replace hf := ifn c4 hf
        refine aw_aload_n (pc' := 21) dX11_open_20 rfl rfl rfl ?_
        refine aw_gr (q := 0) (e := 3) (v := .ref 9) (pc' := 24) H0 (H0.fo rfl rfl) (l13 rfl) rfl rfl dX11_open_21 rfl fl_RX11_10 ?_
        refine aw_gr (q := 1) (e := 5) (v := .ref 11) (pc' := 27) H0 (H0.fo rfl rfl) (l13 rfl) rfl rfl dX11_open_24 rfl fl_RX11_108 ?_
        refine aw_iload_n (pc' := 28) dX11_open_27 rfl rfl ?_
        obtain ⟨g5, hf⟩ := gd_e hf
        refine aw_ia (q := 3) (pc' := 29) H0 (H0.fa rfl rfl rfl) g5 dX11_open_28 rfl ?_
        obtain ⟨v6, ev6, hf⟩ := vl_e hf
        refine aw_topi ev6 ?_
        refine aw_istore (lv' := [_, _, _, _, _]) (pc' := 31) dX11_open_29 rfl (Nat.le_of_ble_eq_true rfl) rfl ?_
        refine aw_aload_n (pc' := 32) dX11_open_31 rfl rfl rfl ?_
        refine aw_gr (q := 0) (e := 3) (v := .ref 9) (pc' := 35) H0 (H0.fo rfl rfl) (l13 rfl) rfl rfl dX11_open_32 rfl fl_RX11_10 ?_
        refine aw_gr (q := 1) (e := 5) (v := .ref 11) (pc' := 38) H0 (H0.fo rfl rfl) (l13 rfl) rfl rfl dX11_open_35 rfl fl_RX11_108 ?_
        refine aw_iload_n (pc' := 39) dX11_open_38 rfl rfl ?_
        refine aw_iload_n (pc' := 40) dX11_open_39 rfl rfl ?_
        obtain ⟨g7, hf⟩ := gd_e hf
        obtain ⟨s8, es8, hf⟩ := st_e hf
        refine aw_is (q := 3) (pc' := 41) es8 H0 (H0.fa rfl rfl rfl) g7 dX11_open_40 rfl (fun h8 H8 => ?_)
        have m8 := Mo.ofI es8
        refine aw_iload (pc' := 43) dX11_open_41 rfl rfl ?_
        obtain ⟨rfl, rfl⟩ := so2 hf
        exact aw_ri dX11_open_43 rfl rfl (Nat.le_of_ble_eq_true rfl) (Nat.le_of_ble_eq_true rfl) ⟨rfl, H8, m8⟩
      · replace hf := ifp c4 hf
        refine aw_iconst (v := (-1)) (pc' := 19) dX11_open_18 rfl ic_m1 ?_
        obtain ⟨rfl, rfl⟩ := so2 hf
        exact aw_ri dX11_open_19 rfl rfl (Nat.le_of_ble_eq_true rfl) (Nat.le_of_ble_eq_true rfl) ⟨rfl, H0, (Mo.rf _)⟩
/-! ThirtyThreeBelow.ofCell -/
noncomputable def f_X11_ofCell (s0 : SS) (a0 : Int32) (a1 : Int32) : Option Int32 := (b1 (f_X11_placeOf a0) fun r1 => (if r1 < (0 : Int32) then some (-1) else (if a1 < (0 : Int32) then some (-1) else (if (1 : Int32) < a1 then some (-1) else (if a1 = (0 : Int32) then (gd (inB r1 1920) (some (zI s0 2 (r1.toInt.toNat)))) else (gd (inB r1 1920) (some (zI s0 3 (r1.toInt.toNat)))))))))
set_option maxRecDepth 4000 in
theorem t_X11_ofCell {r9 : Int32} {s0 : SS} {h0 : List aE} {a0 : Int32} {a1 : Int32} (H0 : HH s0 h0) (hf : f_X11_ofCell s0 a0 a1 = some r9) : AM mX11_ofCell (2) [.ref 8, .int a0, .int a1] h0 0 0 (PI fun r' h' => r9 = r' ∧ h0 = h') := by
  unfold f_X11_ofCell at hf
  refine am_of (lv := [some (.ref 8), some (.int a0), some (.int a1), none]) rfl (Nat.le_of_ble_eq_true rfl) rfl ?_
  refine aw_iload_n (pc' := 1) dX11_ofCell_0 rfl rfl ?_
  obtain ⟨r1, ec1, hf⟩ := b1_e hf
  refine aw_callSi (M' := mX11_placeOf) (nc' := 0) (ns' := 0) (pc' := 4) dX11_ofCell_1 rfl ml_RX11_101 kX11_placeOf (t_X11_placeOf ec1) rfl rfl (Nat.le_of_ble_eq_true rfl) (rokD (by omega) (Nat.le_of_ble_eq_true rfl) (Nat.le_of_ble_eq_true rfl) (Nat.le_of_ble_eq_true rfl)) rfl rfl (fun _ h1 q1 => ?_)
  obtain ⟨rfl, rfl⟩ := q1
  refine aw_istore_n (lv' := [_, _, _, _]) (pc' := 5) dX11_ofCell_4 rfl (Nat.le_of_ble_eq_true rfl) rfl ?_
  refine aw_iload_n (pc' := 6) dX11_ofCell_5 rfl rfl ?_
  refine aw_zlt (tgt := 18) (pc' := 9) dX11_ofCell_6 rfl rfl (fun c2 => ?_) (fun c2 => ?_)
  · replace hf := ifp c2 hf
    refine aw_iconst (v := (-1)) (pc' := 19) dX11_ofCell_18 rfl ic_m1 ?_
    obtain rfl := Option.some.inj hf
    exact aw_ri dX11_ofCell_19 rfl rfl (Nat.le_of_ble_eq_true rfl) (Nat.le_of_ble_eq_true rfl) ⟨rfl, rfl⟩
  · replace hf := ifn c2 hf
    refine aw_iload_n (pc' := 10) dX11_ofCell_9 rfl rfl ?_
    refine aw_zlt (tgt := 18) (pc' := 13) dX11_ofCell_10 rfl rfl (fun c3 => ?_) (fun c3 => ?_)
    · replace hf := ifp c3 hf
      refine aw_iconst (v := (-1)) (pc' := 19) dX11_ofCell_18 rfl ic_m1 ?_
      obtain rfl := Option.some.inj hf
      exact aw_ri dX11_ofCell_19 rfl rfl (Nat.le_of_ble_eq_true rfl) (Nat.le_of_ble_eq_true rfl) ⟨rfl, rfl⟩
    · replace hf := ifn c3 hf
      refine aw_iload_n (pc' := 14) dX11_ofCell_13 rfl rfl ?_
      refine aw_iconst (v := 1) (pc' := 15) dX11_ofCell_14 rfl ic_1 ?_
      refine aw_cle (tgt := 20) (pc' := 18) dX11_ofCell_15 rfl rfl (fun c4 => ?_) (fun c4 => ?_)
      · replace hf := ifn c4 hf
        refine aw_iload_n (pc' := 21) dX11_ofCell_20 rfl rfl ?_
        refine aw_if_ne (tgt := 36) (pc' := 24) dX11_ofCell_21 rfl rfl (fun c5 => ?_) (fun c5 => ?_)
        · replace hf := ifn c5 hf
          refine aw_aload_n (pc' := 37) dX11_ofCell_36 rfl rfl rfl ?_
          refine aw_gr (q := 0) (e := 3) (v := .ref 9) (pc' := 40) H0 (H0.fo rfl rfl) (l13 rfl) rfl rfl dX11_ofCell_37 rfl fl_RX11_10 ?_
          refine aw_gr (q := 1) (e := 5) (v := .ref 11) (pc' := 43) H0 (H0.fo rfl rfl) (l13 rfl) rfl rfl dX11_ofCell_40 rfl fl_RX11_108 ?_
          refine aw_iload_n (pc' := 44) dX11_ofCell_43 rfl rfl ?_
          obtain ⟨g6, hf⟩ := gd_e hf
          refine aw_ia (q := 3) (pc' := 45) H0 (H0.fa rfl rfl rfl) g6 dX11_ofCell_44 rfl ?_
          obtain rfl := Option.some.inj hf
          exact aw_ri dX11_ofCell_45 rfl rfl (Nat.le_of_ble_eq_true rfl) (Nat.le_of_ble_eq_true rfl) ⟨rfl, rfl⟩
        · replace hf := ifp c5 hf
          refine aw_aload_n (pc' := 25) dX11_ofCell_24 rfl rfl rfl ?_
          refine aw_gr (q := 0) (e := 3) (v := .ref 9) (pc' := 28) H0 (H0.fo rfl rfl) (l13 rfl) rfl rfl dX11_ofCell_25 rfl fl_RX11_10 ?_
          refine aw_gr (q := 1) (e := 3) (v := .ref 10) (pc' := 31) H0 (H0.fo rfl rfl) (l13 rfl) rfl rfl dX11_ofCell_28 rfl fl_RX11_105 ?_
          refine aw_iload_n (pc' := 32) dX11_ofCell_31 rfl rfl ?_
          obtain ⟨g7, hf⟩ := gd_e hf
          refine aw_ia (q := 2) (pc' := 33) H0 (H0.fa rfl rfl rfl) g7 dX11_ofCell_32 rfl ?_
          refine aw_goto (tgt := 45) dX11_ofCell_33 rfl ?_
          obtain rfl := Option.some.inj hf
          exact aw_ri dX11_ofCell_45 rfl rfl (Nat.le_of_ble_eq_true rfl) (Nat.le_of_ble_eq_true rfl) ⟨rfl, rfl⟩
      · replace hf := ifp c4 hf
        refine aw_iconst (v := (-1)) (pc' := 19) dX11_ofCell_18 rfl ic_m1 ?_
        obtain rfl := Option.some.inj hf
        exact aw_ri dX11_ofCell_19 rfl rfl (Nat.le_of_ble_eq_true rfl) (Nat.le_of_ble_eq_true rfl) ⟨rfl, rfl⟩
/-! ThirtyThreeBelow.body -/
noncomputable def f_X11_body (s0 : SS) (a0 : Int32) : Option (Int32 × SS) := (jn ((bd (f_X0_added s0 a0) fun r2 s2 => some (r2, s2))) fun k1 => (if a0 = (0 : Int32) then k1 else (if a0 = (1 : Int32) then k1 else some ((-1), s0))))
set_option maxRecDepth 4000 in
theorem t_X11_body {r9 : Int32} {s0 s9 : SS} {h0 : List aE} {a0 : Int32} (H0 : HH s0 h0) (hf : f_X11_body s0 a0 = some (r9, s9)) : AM mX11_body (1) [.ref 8, .int a0] h0 0 0 (PI fun r' h' => r9 = r' ∧ HH s9 h' ∧ Mo s0 s9) := by
  unfold f_X11_body at hf
  refine am_of (lv := [some (.ref 8), some (.int a0)]) rfl (Nat.le_of_ble_eq_true rfl) rfl ?_
  refine aw_iload_n (pc' := 1) dX11_body_0 rfl rfl ?_
  obtain ⟨k1, ek1, hf⟩ := jn_e hf
  have hk1 : k1 = some (r9, s9) → AW mX11_body (rmD (1) 0 0) (fin (PI fun r' h' => r9 = r' ∧ HH s9 h' ∧ Mo s0 s9) 0 0) 11 [some (.ref 8), some (.int a0)] [] h0 0 0 := by
    intro hf
    subst ek1
    refine aw_aload_n (pc' := 12) dX11_body_11 rfl rfl rfl ?_
    refine aw_gr (q := 0) (e := 31) (v := .ref 23) (pc' := 15) H0 (H0.fo rfl rfl) (l13 rfl) rfl rfl dX11_body_12 rfl fl_RX11_28 ?_
    refine aw_iload_n (pc' := 16) dX11_body_15 rfl rfl ?_
    obtain ⟨r2, s2, ec2, hf⟩ := bd_e hf
    refine aw_callVi (M' := mX0_added) (nc' := 0) (ns' := 0) (pc' := 19) dX11_body_16 rfl ml_RX11_111 kX0_added (t_X0_added H0 ec2) (H0.ob (H0.fo rfl rfl) (by decide)) rfl rfl rfl (Nat.le_of_ble_eq_true rfl) (rokD (by omega) (Nat.le_of_ble_eq_true rfl) (Nat.le_of_ble_eq_true rfl) (Nat.le_of_ble_eq_true rfl)) rfl rfl (fun _ h2 q2 => ?_)
    obtain ⟨rfl, H2, m2⟩ := q2
    obtain ⟨rfl, rfl⟩ := so2 hf
    exact aw_ri dX11_body_19 rfl rfl (Nat.le_of_ble_eq_true rfl) (Nat.le_of_ble_eq_true rfl) ⟨rfl, H2, m2⟩
  clear ek1
  refine aw_if_eq (tgt := 11) (pc' := 4) dX11_body_1 rfl rfl (fun c3 => ?_) (fun c3 => ?_)
  · replace hf := ifp c3 hf
    exact hk1  hf
  · replace hf := ifn c3 hf
    refine aw_iload_n (pc' := 5) dX11_body_4 rfl rfl ?_
    refine aw_iconst (v := 1) (pc' := 6) dX11_body_5 rfl ic_1 ?_
    refine aw_icmp_eq (tgt := 11) (pc' := 9) dX11_body_6 rfl rfl (fun c4 => ?_) (fun c4 => ?_)
    · replace hf := ifp c4 hf
      exact hk1  hf
    · replace hf := ifn c4 hf
      refine aw_iconst (v := (-1)) (pc' := 10) dX11_body_9 rfl ic_m1 ?_
      obtain ⟨rfl, rfl⟩ := so2 hf
      exact aw_ri dX11_body_10 rfl rfl (Nat.le_of_ble_eq_true rfl) (Nat.le_of_ble_eq_true rfl) ⟨rfl, H0, (Mo.rf _)⟩
/-! ThirtyThreeBelow.hole -/
noncomputable def f_X11_hole (s0 : SS) (a0 : Int32) (a1 : Int32) : Option (Int32 × SS) := (if a0 < (2 : Int32) then some ((-1), s0) else (if (5 : Int32) < a0 then some ((-1), s0) else (if a1 < (0 : Int32) then some ((-1), s0) else (vl ((a1 / (100 : Int32))) fun v4 => (vl ((a1 % (100 : Int32))) fun v5 => (if v4 < (32 : Int32) then (if v5 < (1 : Int32) then some ((-1), s0) else (bd (f_X0_addedHole s0 a0 v4 v5) fun r8 s8 => some (r8, s8))) else some ((-1), s0)))))))
set_option maxRecDepth 4000 in
theorem t_X11_hole {r9 : Int32} {s0 s9 : SS} {h0 : List aE} {a0 : Int32} {a1 : Int32} (H0 : HH s0 h0) (hf : f_X11_hole s0 a0 a1 = some (r9, s9)) : AM mX11_hole (3) [.ref 8, .int a0, .int a1] h0 4 194 (PI fun r' h' => r9 = r' ∧ HH s9 h' ∧ Mo s0 s9) := by
  unfold f_X11_hole at hf
  refine am_of (lv := [some (.ref 8), some (.int a0), some (.int a1), none, none]) rfl (Nat.le_of_ble_eq_true rfl) rfl ?_
  refine aw_iload_n (pc' := 1) dX11_hole_0 rfl rfl ?_
  refine aw_iconst (v := 2) (pc' := 2) dX11_hole_1 rfl ic_2 ?_
  refine aw_clt (tgt := 14) (pc' := 5) dX11_hole_2 rfl rfl (fun c1 => ?_) (fun c1 => ?_)
  · replace hf := ifp c1 hf
    refine aw_iconst (v := (-1)) (pc' := 15) dX11_hole_14 rfl ic_m1 ?_
    obtain ⟨rfl, rfl⟩ := so2 hf
    exact aw_ri dX11_hole_15 rfl rfl (Nat.le_of_ble_eq_true rfl) (Nat.le_of_ble_eq_true rfl) ⟨rfl, H0, (Mo.rf _)⟩
  · replace hf := ifn c1 hf
    refine aw_iload_n (pc' := 6) dX11_hole_5 rfl rfl ?_
    refine aw_iconst (v := 5) (pc' := 7) dX11_hole_6 rfl ic_5 ?_
    refine aw_cgt (tgt := 14) (pc' := 10) dX11_hole_7 rfl rfl (fun c2 => ?_) (fun c2 => ?_)
    · replace hf := ifp c2 hf
      refine aw_iconst (v := (-1)) (pc' := 15) dX11_hole_14 rfl ic_m1 ?_
      obtain ⟨rfl, rfl⟩ := so2 hf
      exact aw_ri dX11_hole_15 rfl rfl (Nat.le_of_ble_eq_true rfl) (Nat.le_of_ble_eq_true rfl) ⟨rfl, H0, (Mo.rf _)⟩
    · replace hf := ifn c2 hf
      refine aw_iload_n (pc' := 11) dX11_hole_10 rfl rfl ?_
      refine aw_zge (tgt := 16) (pc' := 14) dX11_hole_11 rfl rfl (fun c3 => ?_) (fun c3 => ?_)
      · replace hf := ifn c3 hf
        refine aw_iload_n (pc' := 17) dX11_hole_16 rfl rfl ?_
        refine aw_bipush (v := 100) (pc' := 19) dX11_hole_17 rfl bp_100 ?_
        refine aw_idiv (pc' := 20) dX11_hole_19 rfl (by decide) ?_
        obtain ⟨v4, ev4, hf⟩ := vl_e hf
        refine aw_topi ev4 ?_
        refine aw_istore_n (lv' := [_, _, _, _, _]) (pc' := 21) dX11_hole_20 rfl (Nat.le_of_ble_eq_true rfl) rfl ?_
        refine aw_iload_n (pc' := 22) dX11_hole_21 rfl rfl ?_
        refine aw_bipush (v := 100) (pc' := 24) dX11_hole_22 rfl bp_100 ?_
        refine aw_irem (pc' := 25) dX11_hole_24 rfl (by decide) ?_
        obtain ⟨v5, ev5, hf⟩ := vl_e hf
        refine aw_topi ev5 ?_
        refine aw_istore (lv' := [_, _, _, _, _]) (pc' := 27) dX11_hole_25 rfl (Nat.le_of_ble_eq_true rfl) rfl ?_
        refine aw_iload_n (pc' := 28) dX11_hole_27 rfl rfl ?_
        refine aw_bipush (v := 32) (pc' := 30) dX11_hole_28 rfl bp_32 ?_
        refine aw_cge (tgt := 39) (pc' := 33) dX11_hole_30 rfl rfl (fun c6 => ?_) (fun c6 => ?_)
        · replace hf := ifn c6 hf
          refine aw_iconst (v := (-1)) (pc' := 40) dX11_hole_39 rfl ic_m1 ?_
          obtain ⟨rfl, rfl⟩ := so2 hf
          exact aw_ri dX11_hole_40 rfl rfl (Nat.le_of_ble_eq_true rfl) (Nat.le_of_ble_eq_true rfl) ⟨rfl, H0, (Mo.rf _)⟩
        · replace hf := ifp c6 hf
          refine aw_iload (pc' := 35) dX11_hole_33 rfl rfl ?_
          refine aw_iconst (v := 1) (pc' := 36) dX11_hole_35 rfl ic_1 ?_
          refine aw_cge (tgt := 41) (pc' := 39) dX11_hole_36 rfl rfl (fun c7 => ?_) (fun c7 => ?_)
          · replace hf := ifn c7 hf
            refine aw_aload_n (pc' := 42) dX11_hole_41 rfl rfl rfl ?_
            refine aw_gr (q := 0) (e := 31) (v := .ref 23) (pc' := 45) H0 (H0.fo rfl rfl) (l13 rfl) rfl rfl dX11_hole_42 rfl fl_RX11_28 ?_
            refine aw_iload_n (pc' := 46) dX11_hole_45 rfl rfl ?_
            refine aw_iload_n (pc' := 47) dX11_hole_46 rfl rfl ?_
            refine aw_iload (pc' := 49) dX11_hole_47 rfl rfl ?_
            obtain ⟨r8, s8, ec8, hf⟩ := bd_e hf
            refine aw_callVi (M' := mX0_addedHole) (nc' := 4) (ns' := 194) (pc' := 52) dX11_hole_49 rfl ml_RX11_114 kX0_addedHole (t_X0_addedHole H0 ec8) (H0.ob (H0.fo rfl rfl) (by decide)) rfl rfl rfl (Nat.le_of_ble_eq_true rfl) (rokD (by omega) (Nat.le_of_ble_eq_true rfl) (Nat.le_of_ble_eq_true rfl) (Nat.le_of_ble_eq_true rfl)) rfl rfl (fun _ h8 q8 => ?_)
            obtain ⟨rfl, H8, m8⟩ := q8
            obtain ⟨rfl, rfl⟩ := so2 hf
            exact aw_ri dX11_hole_52 rfl rfl (Nat.le_of_ble_eq_true rfl) (Nat.le_of_ble_eq_true rfl) ⟨rfl, H8, m8⟩
          · replace hf := ifp c7 hf
            refine aw_iconst (v := (-1)) (pc' := 40) dX11_hole_39 rfl ic_m1 ?_
            obtain ⟨rfl, rfl⟩ := so2 hf
            exact aw_ri dX11_hole_40 rfl rfl (Nat.le_of_ble_eq_true rfl) (Nat.le_of_ble_eq_true rfl) ⟨rfl, H0, (Mo.rf _)⟩
      · replace hf := ifp c3 hf
        refine aw_iconst (v := (-1)) (pc' := 15) dX11_hole_14 rfl ic_m1 ?_
        obtain ⟨rfl, rfl⟩ := so2 hf
        exact aw_ri dX11_hole_15 rfl rfl (Nat.le_of_ble_eq_true rfl) (Nat.le_of_ble_eq_true rfl) ⟨rfl, H0, (Mo.rf _)⟩
/-! ThirtyThreeBelow.isSpan -/
noncomputable def f_X11_isSpan (a0 : Int32) : Option Int32 := (if a0 < (0 : Int32) then some 0 else (if (a0 % (100 : Int32)) < (a0 / (100 : Int32)) then some 0 else (if (a0 % (100 : Int32)) < (32 : Int32) then some 1 else some 0)))
set_option maxRecDepth 4000 in
theorem t_X11_isSpan {r9 : Int32} {h0 : List aE} {a0 : Int32}  (hf : f_X11_isSpan a0 = some r9) : AM mX11_isSpan (0) [.int a0] h0 0 0 (PI fun r' h' => r9 = r' ∧ h0 = h' ∧ (r9 = 0 ∨ r9 = 1)) := by
  unfold f_X11_isSpan at hf
  refine am_of (lv := [some (.int a0)]) rfl (Nat.le_of_ble_eq_true rfl) rfl ?_
  refine aw_iload_n (pc' := 1) dX11_isSpan_0 rfl rfl ?_
  refine aw_zlt (tgt := 28) (pc' := 4) dX11_isSpan_1 rfl rfl (fun c1 => ?_) (fun c1 => ?_)
  · replace hf := ifp c1 hf
    refine aw_iconst (v := 0) (pc' := 29) dX11_isSpan_28 rfl ic_0 ?_
    obtain rfl := Option.some.inj hf
    exact aw_ri dX11_isSpan_29 rfl (by decide) (Nat.le_of_ble_eq_true rfl) (Nat.le_of_ble_eq_true rfl) ⟨rfl, rfl, Or.inl rfl⟩
  · replace hf := ifn c1 hf
    refine aw_iload_n (pc' := 5) dX11_isSpan_4 rfl rfl ?_
    refine aw_bipush (v := 100) (pc' := 7) dX11_isSpan_5 rfl bp_100 ?_
    refine aw_idiv (pc' := 8) dX11_isSpan_7 rfl (by decide) ?_
    refine aw_iload_n (pc' := 9) dX11_isSpan_8 rfl rfl ?_
    refine aw_bipush (v := 100) (pc' := 11) dX11_isSpan_9 rfl bp_100 ?_
    refine aw_irem (pc' := 12) dX11_isSpan_11 rfl (by decide) ?_
    refine aw_cgt (tgt := 28) (pc' := 15) dX11_isSpan_12 rfl rfl (fun c2 => ?_) (fun c2 => ?_)
    · replace hf := ifp c2 hf
      refine aw_iconst (v := 0) (pc' := 29) dX11_isSpan_28 rfl ic_0 ?_
      obtain rfl := Option.some.inj hf
      exact aw_ri dX11_isSpan_29 rfl (by decide) (Nat.le_of_ble_eq_true rfl) (Nat.le_of_ble_eq_true rfl) ⟨rfl, rfl, Or.inl rfl⟩
    · replace hf := ifn c2 hf
      refine aw_iload_n (pc' := 16) dX11_isSpan_15 rfl rfl ?_
      refine aw_bipush (v := 100) (pc' := 18) dX11_isSpan_16 rfl bp_100 ?_
      refine aw_irem (pc' := 19) dX11_isSpan_18 rfl (by decide) ?_
      refine aw_bipush (v := 32) (pc' := 21) dX11_isSpan_19 rfl bp_32 ?_
      refine aw_cge (tgt := 28) (pc' := 24) dX11_isSpan_21 rfl rfl (fun c3 => ?_) (fun c3 => ?_)
      · replace hf := ifn c3 hf
        refine aw_iconst (v := 0) (pc' := 29) dX11_isSpan_28 rfl ic_0 ?_
        obtain rfl := Option.some.inj hf
        exact aw_ri dX11_isSpan_29 rfl (by decide) (Nat.le_of_ble_eq_true rfl) (Nat.le_of_ble_eq_true rfl) ⟨rfl, rfl, Or.inl rfl⟩
      · replace hf := ifp c3 hf
        refine aw_iconst (v := 1) (pc' := 25) dX11_isSpan_24 rfl ic_1 ?_
        refine aw_goto (tgt := 29) dX11_isSpan_25 rfl ?_
        obtain rfl := Option.some.inj hf
        exact aw_ri dX11_isSpan_29 rfl (by decide) (Nat.le_of_ble_eq_true rfl) (Nat.le_of_ble_eq_true rfl) ⟨rfl, rfl, Or.inr rfl⟩
/-! ThirtyThreeBelow.shelter -/
noncomputable def f_X11_shelter (s0 : SS) (a0 : Int32) (a1 : Int32) : Option (Int32 × SS) := (b1 (f_X11_isSpan a0) fun r1 => (if r1 = (0 : Int32) then some ((-1), s0) else (b1 (f_X11_isYard a1) fun r3 => (if r3 = (0 : Int32) then some ((-1), s0) else (if (zS s0 15 5) < (0 : Int32) then (bd (f_X0_addedRefuge s0 (a0 / (100 : Int32)) (a0 % (100 : Int32)) a1) fun r6 s6 => some (r6, s6)) else some ((-2), s0))))))
set_option maxRecDepth 4000 in
theorem t_X11_shelter {r9 : Int32} {s0 s9 : SS} {h0 : List aE} {a0 : Int32} {a1 : Int32} (H0 : HH s0 h0) (hf : f_X11_shelter s0 a0 a1 = some (r9, s9)) : AM mX11_shelter (2) [.ref 8, .int a0, .int a1] h0 0 0 (PI fun r' h' => r9 = r' ∧ HH s9 h' ∧ Mo s0 s9) := by
  unfold f_X11_shelter at hf
  refine am_of (lv := [some (.ref 8), some (.int a0), some (.int a1)]) rfl (Nat.le_of_ble_eq_true rfl) rfl ?_
  refine aw_iload_n (pc' := 1) dX11_shelter_0 rfl rfl ?_
  obtain ⟨r1, ec1, hf⟩ := b1_e hf
  refine aw_callSi (M' := mX11_isSpan) (nc' := 0) (ns' := 0) (pc' := 4) dX11_shelter_1 rfl ml_RX11_118 kX11_isSpan (t_X11_isSpan ec1) rfl rfl (Nat.le_of_ble_eq_true rfl) (rokD (by omega) (Nat.le_of_ble_eq_true rfl) (Nat.le_of_ble_eq_true rfl) (Nat.le_of_ble_eq_true rfl)) rfl rfl (fun _ h1 q1 => ?_)
  obtain ⟨rfl, rfl, zb1⟩ := q1
  refine aw_if_eq (tgt := 14) (pc' := 7) dX11_shelter_4 rfl rfl (fun c2 => ?_) (fun c2 => ?_)
  · replace hf := ifp c2 hf
    refine aw_iconst (v := (-1)) (pc' := 15) dX11_shelter_14 rfl ic_m1 ?_
    obtain ⟨rfl, rfl⟩ := so2 hf
    exact aw_ri dX11_shelter_15 rfl rfl (Nat.le_of_ble_eq_true rfl) (Nat.le_of_ble_eq_true rfl) ⟨rfl, H0, (Mo.rf _)⟩
  · replace hf := ifn c2 hf
    refine aw_iload_n (pc' := 8) dX11_shelter_7 rfl rfl ?_
    obtain ⟨r3, ec3, hf⟩ := b1_e hf
    refine aw_callSi (M' := mX11_isYard) (nc' := 0) (ns' := 0) (pc' := 11) dX11_shelter_8 rfl ml_RX11_122 kX11_isYard (t_X11_isYard ec3) rfl rfl (Nat.le_of_ble_eq_true rfl) (rokD (by omega) (Nat.le_of_ble_eq_true rfl) (Nat.le_of_ble_eq_true rfl) (Nat.le_of_ble_eq_true rfl)) rfl rfl (fun _ h3 q3 => ?_)
    obtain ⟨rfl, rfl, zb3⟩ := q3
    refine aw_if_ne (tgt := 16) (pc' := 14) dX11_shelter_11 rfl rfl (fun c4 => ?_) (fun c4 => ?_)
    · replace hf := ifn c4 hf
      refine aw_aload_n (pc' := 17) dX11_shelter_16 rfl rfl rfl ?_
      refine aw_gr (q := 0) (e := 31) (v := .ref 23) (pc' := 20) H0 (H0.fo rfl rfl) (l13 rfl) rfl rfl dX11_shelter_17 rfl fl_RX11_28 ?_
      refine aw_gi (q := 15) (pc' := 23) H0 (H0.fo rfl rfl) (l13 rfl) rfl dX11_shelter_20 rfl fl_RX11_125 ?_
      refine aw_zlt (tgt := 29) (pc' := 26) dX11_shelter_23 rfl rfl (fun c5 => ?_) (fun c5 => ?_)
      · replace hf := ifp c5 hf
        refine aw_aload_n (pc' := 30) dX11_shelter_29 rfl rfl rfl ?_
        refine aw_gr (q := 0) (e := 31) (v := .ref 23) (pc' := 33) H0 (H0.fo rfl rfl) (l13 rfl) rfl rfl dX11_shelter_30 rfl fl_RX11_28 ?_
        refine aw_iload_n (pc' := 34) dX11_shelter_33 rfl rfl ?_
        refine aw_bipush (v := 100) (pc' := 36) dX11_shelter_34 rfl bp_100 ?_
        refine aw_idiv (pc' := 37) dX11_shelter_36 rfl (by decide) ?_
        refine aw_iload_n (pc' := 38) dX11_shelter_37 rfl rfl ?_
        refine aw_bipush (v := 100) (pc' := 40) dX11_shelter_38 rfl bp_100 ?_
        refine aw_irem (pc' := 41) dX11_shelter_40 rfl (by decide) ?_
        refine aw_iload_n (pc' := 42) dX11_shelter_41 rfl rfl ?_
        obtain ⟨r6, s6, ec6, hf⟩ := bd_e hf
        refine aw_callVi (M' := mX0_addedRefuge) (nc' := 0) (ns' := 0) (pc' := 45) dX11_shelter_42 rfl ml_RX11_128 kX0_addedRefuge (t_X0_addedRefuge H0 ec6) (H0.ob (H0.fo rfl rfl) (by decide)) rfl rfl rfl (Nat.le_of_ble_eq_true rfl) (rokD (by omega) (Nat.le_of_ble_eq_true rfl) (Nat.le_of_ble_eq_true rfl) (Nat.le_of_ble_eq_true rfl)) rfl rfl (fun _ h6 q6 => ?_)
        obtain ⟨rfl, H6, m6⟩ := q6
        obtain ⟨rfl, rfl⟩ := so2 hf
        exact aw_ri dX11_shelter_45 rfl rfl (Nat.le_of_ble_eq_true rfl) (Nat.le_of_ble_eq_true rfl) ⟨rfl, H6, m6⟩
      · replace hf := ifn c5 hf
        refine aw_bipush (v := (-2)) (pc' := 28) dX11_shelter_26 rfl bp_m2 ?_
        obtain ⟨rfl, rfl⟩ := so2 hf
        exact aw_ri dX11_shelter_28 rfl rfl (Nat.le_of_ble_eq_true rfl) (Nat.le_of_ble_eq_true rfl) ⟨rfl, H0, (Mo.rf _)⟩
    · replace hf := ifp c4 hf
      refine aw_iconst (v := (-1)) (pc' := 15) dX11_shelter_14 rfl ic_m1 ?_
      obtain ⟨rfl, rfl⟩ := so2 hf
      exact aw_ri dX11_shelter_15 rfl rfl (Nat.le_of_ble_eq_true rfl) (Nat.le_of_ble_eq_true rfl) ⟨rfl, H0, (Mo.rf _)⟩
/-! ThirtyThreeBelow.man -/
noncomputable def f_X11_man (s0 : SS) (a0 : Int32) (a1 : Int32) : Option (Int32 × SS) := (if a0 < (0 : Int32) then some ((-1), s0) else (if (999 : Int32) < a0 then some ((-1), s0) else (if a1 < (0 : Int32) then some ((-1), s0) else (if (99 : Int32) < a1 then some ((-1), s0) else (bd (f_X0_added s0 7) fun r5 s5 => (if r5 < (0 : Int32) then some (r5, s5) else (b1 (f_X2_comes s5 r5 a0 (a1 / (10 : Int32)) (a1 % (10 : Int32))) fun s7 => some (r5, s7))))))))
set_option maxRecDepth 4000 in
theorem t_X11_man {r9 : Int32} {s0 s9 : SS} {h0 : List aE} {a0 : Int32} {a1 : Int32} (H0 : HH s0 h0) (hf : f_X11_man s0 a0 a1 = some (r9, s9)) : AM mX11_man (1) [.ref 8, .int a0, .int a1] h0 0 0 (PI fun r' h' => r9 = r' ∧ HH s9 h' ∧ Mo s0 s9) := by
  unfold f_X11_man at hf
  refine am_of (lv := [some (.ref 8), some (.int a0), some (.int a1), none]) rfl (Nat.le_of_ble_eq_true rfl) rfl ?_
  refine aw_iload_n (pc' := 1) dX11_man_0 rfl rfl ?_
  refine aw_zlt (tgt := 21) (pc' := 4) dX11_man_1 rfl rfl (fun c1 => ?_) (fun c1 => ?_)
  · replace hf := ifp c1 hf
    refine aw_iconst (v := (-1)) (pc' := 22) dX11_man_21 rfl ic_m1 ?_
    obtain ⟨rfl, rfl⟩ := so2 hf
    exact aw_ri dX11_man_22 rfl rfl (Nat.le_of_ble_eq_true rfl) (Nat.le_of_ble_eq_true rfl) ⟨rfl, H0, (Mo.rf _)⟩
  · replace hf := ifn c1 hf
    refine aw_iload_n (pc' := 5) dX11_man_4 rfl rfl ?_
    refine aw_sipush (v := 999) (pc' := 8) dX11_man_5 rfl sp_999 ?_
    refine aw_cgt (tgt := 21) (pc' := 11) dX11_man_8 rfl rfl (fun c2 => ?_) (fun c2 => ?_)
    · replace hf := ifp c2 hf
      refine aw_iconst (v := (-1)) (pc' := 22) dX11_man_21 rfl ic_m1 ?_
      obtain ⟨rfl, rfl⟩ := so2 hf
      exact aw_ri dX11_man_22 rfl rfl (Nat.le_of_ble_eq_true rfl) (Nat.le_of_ble_eq_true rfl) ⟨rfl, H0, (Mo.rf _)⟩
    · replace hf := ifn c2 hf
      refine aw_iload_n (pc' := 12) dX11_man_11 rfl rfl ?_
      refine aw_zlt (tgt := 21) (pc' := 15) dX11_man_12 rfl rfl (fun c3 => ?_) (fun c3 => ?_)
      · replace hf := ifp c3 hf
        refine aw_iconst (v := (-1)) (pc' := 22) dX11_man_21 rfl ic_m1 ?_
        obtain ⟨rfl, rfl⟩ := so2 hf
        exact aw_ri dX11_man_22 rfl rfl (Nat.le_of_ble_eq_true rfl) (Nat.le_of_ble_eq_true rfl) ⟨rfl, H0, (Mo.rf _)⟩
      · replace hf := ifn c3 hf
        refine aw_iload_n (pc' := 16) dX11_man_15 rfl rfl ?_
        refine aw_bipush (v := 99) (pc' := 18) dX11_man_16 rfl bp_99 ?_
        refine aw_cle (tgt := 23) (pc' := 21) dX11_man_18 rfl rfl (fun c4 => ?_) (fun c4 => ?_)
        · replace hf := ifn c4 hf
          refine aw_aload_n (pc' := 24) dX11_man_23 rfl rfl rfl ?_
          refine aw_gr (q := 0) (e := 31) (v := .ref 23) (pc' := 27) H0 (H0.fo rfl rfl) (l13 rfl) rfl rfl dX11_man_24 rfl fl_RX11_28 ?_
          refine aw_bipush (v := 7) (pc' := 29) dX11_man_27 rfl bp_7 ?_
          obtain ⟨r5, s5, ec5, hf⟩ := bd_e hf
          refine aw_callVi (M' := mX0_added) (nc' := 0) (ns' := 0) (pc' := 32) dX11_man_29 rfl ml_RX11_111 kX0_added (t_X0_added H0 ec5) (H0.ob (H0.fo rfl rfl) (by decide)) rfl rfl rfl (Nat.le_of_ble_eq_true rfl) (rokD (by omega) (Nat.le_of_ble_eq_true rfl) (Nat.le_of_ble_eq_true rfl) (Nat.le_of_ble_eq_true rfl)) rfl rfl (fun _ h5 q5 => ?_)
          obtain ⟨rfl, H5, m5⟩ := q5
          refine aw_istore_n (lv' := [_, _, _, _]) (pc' := 33) dX11_man_32 rfl (Nat.le_of_ble_eq_true rfl) rfl ?_
          refine aw_iload_n (pc' := 34) dX11_man_33 rfl rfl ?_
          refine aw_zlt (tgt := 54) (pc' := 37) dX11_man_34 rfl rfl (fun c6 => ?_) (fun c6 => ?_)
          · replace hf := ifp c6 hf
            refine aw_iload_n (pc' := 55) dX11_man_54 rfl rfl ?_
            obtain ⟨rfl, rfl⟩ := so2 hf
            exact aw_ri dX11_man_55 rfl rfl (Nat.le_of_ble_eq_true rfl) (Nat.le_of_ble_eq_true rfl) ⟨rfl, H5, m5⟩
          · replace hf := ifn c6 hf
            refine aw_aload_n (pc' := 38) dX11_man_37 rfl rfl rfl ?_
            refine aw_gr (q := 0) (e := 13) (v := .ref 14) (pc' := 41) H5 (H5.fo rfl rfl) (l13 rfl) rfl rfl dX11_man_38 rfl fl_RX11_19 ?_
            refine aw_iload_n (pc' := 42) dX11_man_41 rfl rfl ?_
            refine aw_iload_n (pc' := 43) dX11_man_42 rfl rfl ?_
            refine aw_iload_n (pc' := 44) dX11_man_43 rfl rfl ?_
            refine aw_bipush (v := 10) (pc' := 46) dX11_man_44 rfl bp_10 ?_
            refine aw_idiv (pc' := 47) dX11_man_46 rfl (by decide) ?_
            refine aw_iload_n (pc' := 48) dX11_man_47 rfl rfl ?_
            refine aw_bipush (v := 10) (pc' := 50) dX11_man_48 rfl bp_10 ?_
            refine aw_irem (pc' := 51) dX11_man_50 rfl (by decide) ?_
            obtain ⟨s7, ec7, hf⟩ := b1_e hf
            refine aw_callVv (M' := mX2_comes) (nc' := 0) (ns' := 0) (pc' := 54) dX11_man_51 rfl ml_RX11_131 kX2_comes (t_X2_comes H5 ec7) (H5.ob (H5.fo rfl rfl) (by decide)) rfl rfl rfl (Nat.le_of_ble_eq_true rfl) (rokD (by omega) (Nat.le_of_ble_eq_true rfl) (Nat.le_of_ble_eq_true rfl) (Nat.le_of_ble_eq_true rfl)) rfl rfl (fun h7 q7 => ?_)
            obtain ⟨H7, m7⟩ := q7
            refine aw_iload_n (pc' := 55) dX11_man_54 rfl rfl ?_
            obtain ⟨rfl, rfl⟩ := so2 hf
            exact aw_ri dX11_man_55 rfl rfl (Nat.le_of_ble_eq_true rfl) (Nat.le_of_ble_eq_true rfl) ⟨rfl, H7, (m5.tr m7)⟩
        · replace hf := ifp c4 hf
          refine aw_iconst (v := (-1)) (pc' := 22) dX11_man_21 rfl ic_m1 ?_
          obtain ⟨rfl, rfl⟩ := so2 hf
          exact aw_ri dX11_man_22 rfl rfl (Nat.le_of_ble_eq_true rfl) (Nat.le_of_ble_eq_true rfl) ⟨rfl, H0, (Mo.rf _)⟩
/-! ThirtyThreeBelow.ofBody -/
noncomputable def f_X11_ofBody (s0 : SS) (a0 : Int32) (a1 : Int32) : Option Int32 := (b1 (f_X0_kindOf s0 a0) fun r1 => (if r1 < (0 : Int32) then some (-2000000000) else (if a1 = (0 : Int32) then some r1 else (b1 (f_X0_holeOf s0 a0) fun r4 => (on r4 (if r1 = (6 : Int32) then (b1 (f_X0_ofRefuge s0 a1) fun r8 => some r8) else (if r1 = (7 : Int32) then (b1 (f_X2_ofMan s0 a0 a1) fun r7 => some r7) else some (-2000000000))) fun p4 => (b1 (f_X3_told s0 p4 a1) fun r10 => some r10))))))
set_option maxRecDepth 4000 in
theorem t_X11_ofBody {r9 : Int32} {s0 : SS} {h0 : List aE} {a0 : Int32} {a1 : Int32} (H0 : HH s0 h0) (hf : f_X11_ofBody s0 a0 a1 = some r9) : AM mX11_ofBody (1) [.ref 8, .int a0, .int a1] h0 0 0 (PI fun r' h' => r9 = r' ∧ h0 = h') := by
  unfold f_X11_ofBody at hf
  refine am_of (lv := [some (.ref 8), some (.int a0), some (.int a1), none, none]) rfl (Nat.le_of_ble_eq_true rfl) rfl ?_
  refine aw_aload_n (pc' := 1) dX11_ofBody_0 rfl rfl rfl ?_
  refine aw_gr (q := 0) (e := 31) (v := .ref 23) (pc' := 4) H0 (H0.fo rfl rfl) (l13 rfl) rfl rfl dX11_ofBody_1 rfl fl_RX11_28 ?_
  refine aw_iload_n (pc' := 5) dX11_ofBody_4 rfl rfl ?_
  obtain ⟨r1, ec1, hf⟩ := b1_e hf
  refine aw_callVi (M' := mX0_kindOf) (nc' := 0) (ns' := 0) (pc' := 8) dX11_ofBody_5 rfl ml_RX11_135 kX0_kindOf (t_X0_kindOf H0 ec1) (H0.ob (H0.fo rfl rfl) (by decide)) rfl rfl rfl (Nat.le_of_ble_eq_true rfl) (rokD (by omega) (Nat.le_of_ble_eq_true rfl) (Nat.le_of_ble_eq_true rfl) (Nat.le_of_ble_eq_true rfl)) rfl rfl (fun _ h1 q1 => ?_)
  obtain ⟨rfl, rfl⟩ := q1
  refine aw_istore_n (lv' := [_, _, _, _, _]) (pc' := 9) dX11_ofBody_8 rfl (Nat.le_of_ble_eq_true rfl) rfl ?_
  refine aw_iload_n (pc' := 10) dX11_ofBody_9 rfl rfl ?_
  refine aw_zge (tgt := 16) (pc' := 13) dX11_ofBody_10 rfl rfl (fun c2 => ?_) (fun c2 => ?_)
  · replace hf := ifn c2 hf
    refine aw_iload_n (pc' := 17) dX11_ofBody_16 rfl rfl ?_
    refine aw_if_ne (tgt := 22) (pc' := 20) dX11_ofBody_17 rfl rfl (fun c3 => ?_) (fun c3 => ?_)
    · replace hf := ifn c3 hf
      refine aw_aload_n (pc' := 23) dX11_ofBody_22 rfl rfl rfl ?_
      refine aw_gr (q := 0) (e := 31) (v := .ref 23) (pc' := 26) H0 (H0.fo rfl rfl) (l13 rfl) rfl rfl dX11_ofBody_23 rfl fl_RX11_28 ?_
      refine aw_iload_n (pc' := 27) dX11_ofBody_26 rfl rfl ?_
      obtain ⟨r4, ec4, hf⟩ := b1_e hf
      replace hf := on_e hf
      rcases hf with ⟨rfl, hf⟩ | ⟨p4, rfl, hf⟩
      · refine aw_callVa (M' := mX0_holeOf) (nc' := 0) (ns' := 0) (pc' := 30) dX11_ofBody_27 rfl ml_RX11_139 kX0_holeOf (t_X0_holeOf H0 ec4) (H0.ob (H0.fo rfl rfl) (by decide)) rfl rfl rfl (Nat.le_of_ble_eq_true rfl) (rokD (by omega) (Nat.le_of_ble_eq_true rfl) (Nat.le_of_ble_eq_true rfl) (Nat.le_of_ble_eq_true rfl)) rfl rfl (fun _ h4 q4 => ?_)
        obtain ⟨rfl, rfl, oo4⟩ := q4
        show AW _ _ _ _ _ (Value.null :: _) _ _ _
        refine aw_astore (lv' := [_, _, _, _, _]) (pc' := 32) dX11_ofBody_30 rfl (Nat.le_of_ble_eq_true rfl) rfl rfl ?_
        refine aw_aload (pc' := 34) dX11_ofBody_32 rfl rfl rfl ?_
        refine aw_ifnull_n (tgt := 44) dX11_ofBody_34 (by decide) ?_
        refine aw_iload_n (pc' := 45) dX11_ofBody_44 rfl rfl ?_
        refine aw_bipush (v := 6) (pc' := 47) dX11_ofBody_45 rfl bp_6 ?_
        refine aw_icmp_ne (tgt := 59) (pc' := 50) dX11_ofBody_47 rfl rfl (fun c5 => ?_) (fun c5 => ?_)
        · replace hf := ifn c5 hf
          refine aw_iload_n (pc' := 60) dX11_ofBody_59 rfl rfl ?_
          refine aw_bipush (v := 7) (pc' := 62) dX11_ofBody_60 rfl bp_7 ?_
          refine aw_icmp_ne (tgt := 77) (pc' := 65) dX11_ofBody_62 rfl rfl (fun c6 => ?_) (fun c6 => ?_)
          · replace hf := ifn c6 hf
            refine aw_ldc (pc' := 79) dX11_ofBody_77 rfl ct_RX11_138 ?_
            obtain rfl := Option.some.inj hf
            exact aw_ri dX11_ofBody_79 rfl rfl (Nat.le_of_ble_eq_true rfl) (Nat.le_of_ble_eq_true rfl) ⟨rfl, rfl⟩
          · replace hf := ifp c6 hf
            refine aw_aload_n (pc' := 66) dX11_ofBody_65 rfl rfl rfl ?_
            refine aw_gr (q := 0) (e := 13) (v := .ref 14) (pc' := 69) H0 (H0.fo rfl rfl) (l13 rfl) rfl rfl dX11_ofBody_66 rfl fl_RX11_19 ?_
            refine aw_iload_n (pc' := 70) dX11_ofBody_69 rfl rfl ?_
            refine aw_iload_n (pc' := 71) dX11_ofBody_70 rfl rfl ?_
            obtain ⟨r7, ec7, hf⟩ := b1_e hf
            refine aw_callVi (M' := mX2_ofMan) (nc' := 0) (ns' := 0) (pc' := 74) dX11_ofBody_71 rfl ml_RX11_151 kX2_ofMan (t_X2_ofMan H0 ec7) (H0.ob (H0.fo rfl rfl) (by decide)) rfl rfl rfl (Nat.le_of_ble_eq_true rfl) (rokD (by omega) (Nat.le_of_ble_eq_true rfl) (Nat.le_of_ble_eq_true rfl) (Nat.le_of_ble_eq_true rfl)) rfl rfl (fun _ h7 q7 => ?_)
            obtain ⟨rfl, rfl⟩ := q7
            refine aw_goto (tgt := 79) dX11_ofBody_74 rfl ?_
            obtain rfl := Option.some.inj hf
            exact aw_ri dX11_ofBody_79 rfl rfl (Nat.le_of_ble_eq_true rfl) (Nat.le_of_ble_eq_true rfl) ⟨rfl, rfl⟩
        · replace hf := ifp c5 hf
          refine aw_aload_n (pc' := 51) dX11_ofBody_50 rfl rfl rfl ?_
          refine aw_gr (q := 0) (e := 31) (v := .ref 23) (pc' := 54) H0 (H0.fo rfl rfl) (l13 rfl) rfl rfl dX11_ofBody_51 rfl fl_RX11_28 ?_
          refine aw_iload_n (pc' := 55) dX11_ofBody_54 rfl rfl ?_
          obtain ⟨r8, ec8, hf⟩ := b1_e hf
          refine aw_callVi (M' := mX0_ofRefuge) (nc' := 0) (ns' := 0) (pc' := 58) dX11_ofBody_55 rfl ml_RX11_148 kX0_ofRefuge (t_X0_ofRefuge H0 ec8) (H0.ob (H0.fo rfl rfl) (by decide)) rfl rfl rfl (Nat.le_of_ble_eq_true rfl) (rokD (by omega) (Nat.le_of_ble_eq_true rfl) (Nat.le_of_ble_eq_true rfl) (Nat.le_of_ble_eq_true rfl)) rfl rfl (fun _ h8 q8 => ?_)
          obtain ⟨rfl, rfl⟩ := q8
          obtain rfl := Option.some.inj hf
          exact aw_ri dX11_ofBody_58 rfl rfl (Nat.le_of_ble_eq_true rfl) (Nat.le_of_ble_eq_true rfl) ⟨rfl, rfl⟩
      · refine aw_callVa (M' := mX0_holeOf) (nc' := 0) (ns' := 0) (pc' := 30) dX11_ofBody_27 rfl ml_RX11_139 kX0_holeOf (t_X0_holeOf H0 ec4) (H0.ob (H0.fo rfl rfl) (by decide)) rfl rfl rfl (Nat.le_of_ble_eq_true rfl) (rokD (by omega) (Nat.le_of_ble_eq_true rfl) (Nat.le_of_ble_eq_true rfl) (Nat.le_of_ble_eq_true rfl)) rfl rfl (fun _ h4 q4 => ?_)
        obtain ⟨rfl, rfl, oo4⟩ := q4
        show AW _ _ _ _ _ (Value.ref (p4 + 8) :: _) _ _ _
        have o_p4 : okH s0 p4 := oo4 _ rfl
        refine aw_astore (lv' := [_, _, _, _, _]) (pc' := 32) dX11_ofBody_30 rfl (Nat.le_of_ble_eq_true rfl) rfl rfl ?_
        refine aw_aload (pc' := 34) dX11_ofBody_32 rfl rfl rfl ?_
        refine aw_ifnull_r (pc' := 37) dX11_ofBody_34 rfl ?_
        refine aw_aload (pc' := 39) dX11_ofBody_37 rfl rfl rfl ?_
        refine aw_iload_n (pc' := 40) dX11_ofBody_39 rfl rfl ?_
        obtain ⟨r10, ec10, hf⟩ := b1_e hf
        refine aw_callVi (M' := mX3_told) (nc' := 0) (ns' := 0) (pc' := 43) dX11_ofBody_40 rfl ml_RX11_143 kX3_told (t_X3_told H0 o_p4 ec10) (H0.ob (okH.ob o_p4) (by decide)) rfl rfl rfl (Nat.le_of_ble_eq_true rfl) (rokD (by omega) (Nat.le_of_ble_eq_true rfl) (Nat.le_of_ble_eq_true rfl) (Nat.le_of_ble_eq_true rfl)) rfl rfl (fun _ h10 q10 => ?_)
        obtain ⟨rfl, rfl⟩ := q10
        obtain rfl := Option.some.inj hf
        exact aw_ri dX11_ofBody_43 rfl rfl (Nat.le_of_ble_eq_true rfl) (Nat.le_of_ble_eq_true rfl) ⟨rfl, rfl⟩
    · replace hf := ifp c3 hf
      refine aw_iload_n (pc' := 21) dX11_ofBody_20 rfl rfl ?_
      obtain rfl := Option.some.inj hf
      exact aw_ri dX11_ofBody_21 rfl rfl (Nat.le_of_ble_eq_true rfl) (Nat.le_of_ble_eq_true rfl) ⟨rfl, rfl⟩
  · replace hf := ifp c2 hf
    refine aw_ldc (pc' := 15) dX11_ofBody_13 rfl ct_RX11_138 ?_
    obtain rfl := Option.some.inj hf
    exact aw_ri dX11_ofBody_15 rfl rfl (Nat.le_of_ble_eq_true rfl) (Nat.le_of_ble_eq_true rfl) ⟨rfl, rfl⟩
/-! ThirtyThreeBelow.ill -/
noncomputable def f_X11_ill (s0 : SS) (a0 : Int32) (a1 : Int32) : Option (Int32 × SS) := (b1 (f_X0_kindOf s0 a0) fun r1 => (if r1 = (7 : Int32) then (if a1 < (0 : Int32) then some ((-1), s0) else (if (9 : Int32) < a1 then some ((-1), s0) else (gd (inB a0 120) (vl ((zI s0 9 (a0.toInt.toNat))) fun v6 => (gd (inB a0 120) (st (pI s0 9 (a0.toInt.toNat) a1) fun s8 => some (v6, s8))))))) else some ((-1), s0)))
set_option maxRecDepth 4000 in
theorem t_X11_ill {r9 : Int32} {s0 s9 : SS} {h0 : List aE} {a0 : Int32} {a1 : Int32} (H0 : HH s0 h0) (hf : f_X11_ill s0 a0 a1 = some (r9, s9)) : AM mX11_ill (1) [.ref 8, .int a0, .int a1] h0 0 0 (PI fun r' h' => r9 = r' ∧ HH s9 h' ∧ Mo s0 s9) := by
  unfold f_X11_ill at hf
  refine am_of (lv := [some (.ref 8), some (.int a0), some (.int a1), none]) rfl (Nat.le_of_ble_eq_true rfl) rfl ?_
  refine aw_aload_n (pc' := 1) dX11_ill_0 rfl rfl rfl ?_
  refine aw_gr (q := 0) (e := 31) (v := .ref 23) (pc' := 4) H0 (H0.fo rfl rfl) (l13 rfl) rfl rfl dX11_ill_1 rfl fl_RX11_28 ?_
  refine aw_iload_n (pc' := 5) dX11_ill_4 rfl rfl ?_
  obtain ⟨r1, ec1, hf⟩ := b1_e hf
  refine aw_callVi (M' := mX0_kindOf) (nc' := 0) (ns' := 0) (pc' := 8) dX11_ill_5 rfl ml_RX11_135 kX0_kindOf (t_X0_kindOf H0 ec1) (H0.ob (H0.fo rfl rfl) (by decide)) rfl rfl rfl (Nat.le_of_ble_eq_true rfl) (rokD (by omega) (Nat.le_of_ble_eq_true rfl) (Nat.le_of_ble_eq_true rfl) (Nat.le_of_ble_eq_true rfl)) rfl rfl (fun _ h1 q1 => ?_)
  obtain ⟨rfl, rfl⟩ := q1
  refine aw_bipush (v := 7) (pc' := 10) dX11_ill_8 rfl bp_7 ?_
  refine aw_icmp_ne (tgt := 23) (pc' := 13) dX11_ill_10 rfl rfl (fun c2 => ?_) (fun c2 => ?_)
  · replace hf := ifn c2 hf
    refine aw_iconst (v := (-1)) (pc' := 24) dX11_ill_23 rfl ic_m1 ?_
    obtain ⟨rfl, rfl⟩ := so2 hf
    exact aw_ri dX11_ill_24 rfl rfl (Nat.le_of_ble_eq_true rfl) (Nat.le_of_ble_eq_true rfl) ⟨rfl, H0, (Mo.rf _)⟩
  · replace hf := ifp c2 hf
    refine aw_iload_n (pc' := 14) dX11_ill_13 rfl rfl ?_
    refine aw_zlt (tgt := 23) (pc' := 17) dX11_ill_14 rfl rfl (fun c3 => ?_) (fun c3 => ?_)
    · replace hf := ifp c3 hf
      refine aw_iconst (v := (-1)) (pc' := 24) dX11_ill_23 rfl ic_m1 ?_
      obtain ⟨rfl, rfl⟩ := so2 hf
      exact aw_ri dX11_ill_24 rfl rfl (Nat.le_of_ble_eq_true rfl) (Nat.le_of_ble_eq_true rfl) ⟨rfl, H0, (Mo.rf _)⟩
    · replace hf := ifn c3 hf
      refine aw_iload_n (pc' := 18) dX11_ill_17 rfl rfl ?_
      refine aw_bipush (v := 9) (pc' := 20) dX11_ill_18 rfl bp_9 ?_
      refine aw_cle (tgt := 25) (pc' := 23) dX11_ill_20 rfl rfl (fun c4 => ?_) (fun c4 => ?_)
      · replace hf := ifn c4 hf
        refine aw_aload_n (pc' := 26) dX11_ill_25 rfl rfl rfl ?_
        refine aw_gr (q := 0) (e := 13) (v := .ref 14) (pc' := 29) H0 (H0.fo rfl rfl) (l13 rfl) rfl rfl dX11_ill_26 rfl fl_RX11_19 ?_
        refine aw_gr (q := 6) (e := 7) (v := .ref 17) (pc' := 32) H0 (H0.fo rfl rfl) (l13 rfl) rfl rfl dX11_ill_29 rfl fl_RX11_155 ?_
        refine aw_iload_n (pc' := 33) dX11_ill_32 rfl rfl ?_
        obtain ⟨g5, hf⟩ := gd_e hf
        refine aw_ia (q := 9) (pc' := 34) H0 (H0.fa rfl rfl rfl) g5 dX11_ill_33 rfl ?_
        obtain ⟨v6, ev6, hf⟩ := vl_e hf
        refine aw_topi ev6 ?_
        refine aw_istore_n (lv' := [_, _, _, _]) (pc' := 35) dX11_ill_34 rfl (Nat.le_of_ble_eq_true rfl) rfl ?_
        refine aw_aload_n (pc' := 36) dX11_ill_35 rfl rfl rfl ?_
        refine aw_gr (q := 0) (e := 13) (v := .ref 14) (pc' := 39) H0 (H0.fo rfl rfl) (l13 rfl) rfl rfl dX11_ill_36 rfl fl_RX11_19 ?_
        refine aw_gr (q := 6) (e := 7) (v := .ref 17) (pc' := 42) H0 (H0.fo rfl rfl) (l13 rfl) rfl rfl dX11_ill_39 rfl fl_RX11_155 ?_
        refine aw_iload_n (pc' := 43) dX11_ill_42 rfl rfl ?_
        refine aw_iload_n (pc' := 44) dX11_ill_43 rfl rfl ?_
        obtain ⟨g7, hf⟩ := gd_e hf
        obtain ⟨s8, es8, hf⟩ := st_e hf
        refine aw_is (q := 9) (pc' := 45) es8 H0 (H0.fa rfl rfl rfl) g7 dX11_ill_44 rfl (fun h8 H8 => ?_)
        have m8 := Mo.ofI es8
        refine aw_iload_n (pc' := 46) dX11_ill_45 rfl rfl ?_
        obtain ⟨rfl, rfl⟩ := so2 hf
        exact aw_ri dX11_ill_46 rfl rfl (Nat.le_of_ble_eq_true rfl) (Nat.le_of_ble_eq_true rfl) ⟨rfl, H8, m8⟩
      · replace hf := ifp c4 hf
        refine aw_iconst (v := (-1)) (pc' := 24) dX11_ill_23 rfl ic_m1 ?_
        obtain ⟨rfl, rfl⟩ := so2 hf
        exact aw_ri dX11_ill_24 rfl rfl (Nat.le_of_ble_eq_true rfl) (Nat.le_of_ble_eq_true rfl) ⟨rfl, H0, (Mo.rf _)⟩
