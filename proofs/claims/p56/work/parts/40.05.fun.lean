/-! ThirtyThreeBelow.text -/
noncomputable def f_X11_text (s0 : SS) (a0 : Int32) (a1 : Int32) : Option (Int32 × SS) := (b1 (f_X11_isOrder a0) fun r1 => (if r1 = (0 : Int32) then some ((-1), s0) else (if a1 < (zS s0 0 14) then some ((-1), s0) else (if (1699 : Int32) < a1 then some ((-1), s0) else (if (zS s0 0 8) < (16 : Int32) then (bd (f_X7_compiled s0) fun r6 s6 => (st (pS s6 24 1 0) fun s7 => (if r6 < (0 : Int32) then (vl ((zS s7 0 8)) fun v10 => (gd (inB v10 16) (gd (¬ zS s7 24 3 < 0 ∧ ¬ 161 < zS s7 24 3) (st (pR (pText s7 (a0 / (10 : Int32)) (a0 % (10 : Int32)) (zS s7 0 14) a1 (zS s7 24 3).toNatClampNeg) 27 (v10.toInt.toNat) (some (zL s7))) fun s12 => (vl (((zS s12 0 8) + (1 : Int32))) fun v14 => (st (pS s12 0 8 v14) fun s15 => some (((zS s15 0 8) - (1 : Int32)), s15))))))) else some ((((-100) : Int32) - r6), s7)))) else some ((-3), s0))))))
set_option maxRecDepth 4000 in
theorem t_X11_text {r9 : Int32} {s0 s9 : SS} {h0 : List aE} {a0 : Int32} {a1 : Int32} (H0 : HH s0 h0) (hf : f_X11_text s0 a0 a1 = some (r9, s9)) : AM mX11_text (93) [.ref 8, .int a0, .int a1] h0 2 166 (PI fun r' h' => r9 = r' ∧ HH s9 h' ∧ Mo s0 s9) := by
  unfold f_X11_text at hf
  refine am_of (lv := [some (.ref 8), some (.int a0), some (.int a1), none]) rfl (Nat.le_of_ble_eq_true rfl) rfl ?_
  refine aw_iload_n (pc' := 1) dX11_text_0 rfl rfl ?_
  obtain ⟨r1, ec1, hf⟩ := b1_e hf
  refine aw_callSi (M' := mX11_isOrder) (nc' := 0) (ns' := 0) (pc' := 4) dX11_text_1 rfl ml_RX11_264 kX11_isOrder (t_X11_isOrder ec1) rfl rfl (Nat.le_of_ble_eq_true rfl) (rokD (by omega) (Nat.le_of_ble_eq_true rfl) (Nat.le_of_ble_eq_true rfl) (Nat.le_of_ble_eq_true rfl)) rfl rfl (fun _ h1 q1 => ?_)
  obtain ⟨rfl, rfl, zb1⟩ := q1
  refine aw_if_eq (tgt := 22) (pc' := 7) dX11_text_4 rfl rfl (fun c2 => ?_) (fun c2 => ?_)
  · replace hf := ifp c2 hf
    refine aw_iconst (v := (-1)) (pc' := 23) dX11_text_22 rfl ic_m1 ?_
    obtain ⟨rfl, rfl⟩ := so2 hf
    exact aw_ri dX11_text_23 rfl rfl (Nat.le_of_ble_eq_true rfl) (Nat.le_of_ble_eq_true rfl) ⟨rfl, H0, (Mo.rf _)⟩
  · replace hf := ifn c2 hf
    refine aw_iload_n (pc' := 8) dX11_text_7 rfl rfl ?_
    refine aw_aload_n (pc' := 9) dX11_text_8 rfl rfl rfl ?_
    refine aw_gi (q := 0) (pc' := 12) H0 (H0.fo rfl rfl) (l13 rfl) rfl dX11_text_9 rfl fl_RX11_168 ?_
    refine aw_clt (tgt := 22) (pc' := 15) dX11_text_12 rfl rfl (fun c3 => ?_) (fun c3 => ?_)
    · replace hf := ifp c3 hf
      refine aw_iconst (v := (-1)) (pc' := 23) dX11_text_22 rfl ic_m1 ?_
      obtain ⟨rfl, rfl⟩ := so2 hf
      exact aw_ri dX11_text_23 rfl rfl (Nat.le_of_ble_eq_true rfl) (Nat.le_of_ble_eq_true rfl) ⟨rfl, H0, (Mo.rf _)⟩
    · replace hf := ifn c3 hf
      refine aw_iload_n (pc' := 16) dX11_text_15 rfl rfl ?_
      refine aw_sipush (v := 1699) (pc' := 19) dX11_text_16 rfl sp_1699 ?_
      refine aw_cle (tgt := 24) (pc' := 22) dX11_text_19 rfl rfl (fun c4 => ?_) (fun c4 => ?_)
      · replace hf := ifn c4 hf
        refine aw_aload_n (pc' := 25) dX11_text_24 rfl rfl rfl ?_
        refine aw_gi (q := 0) (pc' := 28) H0 (H0.fo rfl rfl) (l13 rfl) rfl dX11_text_25 rfl fl_RX11_267 ?_
        refine aw_bipush (v := 16) (pc' := 30) dX11_text_28 rfl bp_16 ?_
        refine aw_clt (tgt := 36) (pc' := 33) dX11_text_30 rfl rfl (fun c5 => ?_) (fun c5 => ?_)
        · replace hf := ifp c5 hf
          refine aw_aload_n (pc' := 37) dX11_text_36 rfl rfl rfl ?_
          refine aw_gr (q := 0) (e := 49) (v := .ref 32) (pc' := 40) H0 (H0.fo rfl rfl) (l13 rfl) rfl rfl dX11_text_37 rfl fl_RX11_48 ?_
          obtain ⟨r6, s6, ec6, hf⟩ := bd_e hf
          refine aw_callVi (M' := mX7_compiled) (nc' := 0) (ns' := 0) (pc' := 43) dX11_text_40 rfl ml_RX11_270 kX7_compiled (t_X7_compiled H0 ec6) (H0.ob (H0.fo rfl rfl) (by decide)) rfl rfl rfl (Nat.le_of_ble_eq_true rfl) (rokD (by omega) (Nat.le_of_ble_eq_true rfl) (Nat.le_of_ble_eq_true rfl) (Nat.le_of_ble_eq_true rfl)) rfl rfl (fun _ h6 q6 => ?_)
          obtain ⟨rfl, H6, m6⟩ := q6
          refine aw_istore_n (lv' := [_, _, _, _]) (pc' := 44) dX11_text_43 rfl (Nat.le_of_ble_eq_true rfl) rfl ?_
          refine aw_aload_n (pc' := 45) dX11_text_44 rfl rfl rfl ?_
          refine aw_gr (q := 0) (e := 49) (v := .ref 32) (pc' := 48) H6 (H6.fo rfl rfl) (l13 rfl) rfl rfl dX11_text_45 rfl fl_RX11_48 ?_
          refine aw_iconst (v := 0) (pc' := 49) dX11_text_48 rfl ic_0 ?_
          obtain ⟨s7, es7, hf⟩ := st_e hf
          refine aw_pi (q := 24) (pc' := 52) es7 H6 (H6.fo rfl rfl) (by decide) rfl dX11_text_49 rfl fl_RX11_273 rfl (fun h7 H7 => ?_)
          have m7 := Mo.ofS es7
          refine aw_iload_n (pc' := 53) dX11_text_52 rfl rfl ?_
          refine aw_zlt (tgt := 61) (pc' := 56) dX11_text_53 rfl rfl (fun c8 => ?_) (fun c8 => ?_)
          · replace hf := ifp c8 hf
            refine aw_aload_n (pc' := 62) dX11_text_61 rfl rfl rfl ?_
            refine aw_gr (q := 0) (e := 55) (v := .ref 35) (pc' := 65) H7 (H7.fo rfl rfl) (l13 rfl) rfl rfl dX11_text_62 rfl fl_RX11_54 ?_
            refine aw_aload_n (pc' := 66) dX11_text_65 rfl rfl rfl ?_
            refine aw_gi (q := 0) (pc' := 69) H7 (H7.fo rfl rfl) (l13 rfl) rfl dX11_text_66 rfl fl_RX11_267 ?_
            obtain ⟨v10, ev10, hf⟩ := vl_e hf
            refine aw_topi ev10 ?_
            obtain ⟨g11, hf⟩ := gd_e hf
            obtain ⟨g13, hf⟩ := gd_e hf
            obtain ⟨s12, es12, hf⟩ := st_e hf
            refine aw_newG clsAll (ci := 10) (r := zL s7) (fs := [.int 0, .int 0, .int 0, .int 0, .null]) (nc' := 1) (ns' := 5) (pc' := 72) dX11_text_69 rfl rfl cl_RX11_52 ins_RX10 ini_RX10 tyX10_ok (by decide) (fun _ => rfl) (by decide) (by decide) H7.1 rfl rfl (fun hu12 eu12 => ?_)
            subst eu12
            have Hu12 := H7.un
            refine aw_dup (pc' := 73) dX11_text_72 rfl rfl ?_
            refine aw_iload_n (pc' := 74) dX11_text_73 rfl rfl ?_
            refine aw_bipush (v := 10) (pc' := 76) dX11_text_74 rfl bp_10 ?_
            refine aw_idiv (pc' := 77) dX11_text_76 rfl (by decide) ?_
            refine aw_iload_n (pc' := 78) dX11_text_77 rfl rfl ?_
            refine aw_bipush (v := 10) (pc' := 80) dX11_text_78 rfl bp_10 ?_
            refine aw_irem (pc' := 81) dX11_text_80 rfl (by decide) ?_
            refine aw_aload_n (pc' := 82) dX11_text_81 rfl rfl rfl ?_
            refine aw_gi (q := 0) (pc' := 85) Hu12 (Hu12.fo rfl rfl) (by decide) rfl dX11_text_82 rfl fl_RX11_168 ?_
            refine aw_topi (v := zS s7 0 14) rfl ?_
            refine aw_iload_n (pc' := 86) dX11_text_85 rfl rfl ?_
            refine aw_aload_n (pc' := 87) dX11_text_86 rfl rfl rfl ?_
            refine aw_gr (q := 0) (e := 49) (v := .ref 32) (pc' := 90) Hu12 (Hu12.fo rfl rfl) (by decide) rfl rfl dX11_text_87 rfl fl_RX11_48 ?_
            refine aw_callVa (M' := mX7_code) (nc' := 2) (ns' := 166) (pc' := 93) dX11_text_90 rfl ml_RX11_275 kX7_code (t_X7_code Hu12 g13.1 g13.2) (Hu12.ob (Hu12.fo rfl rfl) (by decide)) rfl rfl rfl (Nat.le_of_ble_eq_true rfl) (rokD (by omega) (Nat.le_of_ble_eq_true rfl) (Nat.le_of_ble_eq_true rfl) (Nat.le_of_ble_eq_true rfl)) rfl rfl (fun v12 h212 q212 => ?_)
            obtain ⟨rfl, g12, hg12, rfl⟩ := q212
            rw [show (h7 ++ ([.inr (10, [.int 0, .int 0, .int 0, .int 0, .null])] : List aE)).length = zL s7 + 1 by rw [List.length_append, H7.1]; rfl, List.append_assoc]
            refine aw_callIv (M' := mX10_init) (nc' := 2) (ns' := 166) (pc' := 96) dX11_text_93 rfl ml_RX11_279 kX10_init (c_text (q := zL s7) (k := zL s7 + 1) _ _ _ _ (gA_ (j := 0) H7.1 rfl)) rfl rfl (Nat.le_of_ble_eq_true rfl) (rokD (by omega) (Nat.le_of_ble_eq_true rfl) (Nat.le_of_ble_eq_true rfl) (Nat.le_of_ble_eq_true rfl)) rfl rfl (fun hv12 qv12 => ?_)
            have qw12 := qv12.symm.trans (gA_set (L := zL s7) (j := 0) (r' := [.inr (10, [.int (a0 / (10 : Int32)), .int (a0 % (10 : Int32)), .int (zS s7 0 14), .int a1, .ref (zL s7 + 1 + 8)]), .inl (0, (zS s7 24 3).toNatClampNeg, .inl g12)]) H7.1 rfl)
            subst qw12
            clear qv12
            refine aw_exti (q := zL s7 + 1) (t := 0) (n := (zS s7 24 3).toNatClampNeg) (f := g12) (g := s7.2.1 26) (gA_ (j := 1) H7.1 rfl) hg12 ?_
            have ex12 : (h7 ++ ([.inr (10, [.int (a0 / (10 : Int32)), .int (a0 % (10 : Int32)), .int (zS s7 0 14), .int a1, .ref (zL s7 + 1 + 8)]), .inl (0, (zS s7 24 3).toNatClampNeg, .inl g12)] : List aE)).set (zL s7 + 1) (.inl (0, (zS s7 24 3).toNatClampNeg, .inl (s7.2.1 26))) = h7 ++ ([.inr (10, [.int (a0 / (10 : Int32)), .int (a0 % (10 : Int32)), .int (zS s7 0 14), .int a1, .ref (zL s7 + 1 + 8)]), .inl (0, (zS s7 24 3).toNatClampNeg, .inl (s7.2.1 26))] : List aE) := gA_set (j := 1) H7.1 rfl
            rw [ex12]
            have HT12 := H7.text (a0 / (10 : Int32)) (a0 % (10 : Int32)) (zS s7 0 14) a1 ((zS s7 24 3).toNatClampNeg)
            have oT12 := okT.new H7 (a0 / (10 : Int32)) (a0 % (10 : Int32)) (zS s7 0 14) a1 ((zS s7 24 3).toNatClampNeg)
            refine aw_aastG (t := 7) (q0 := (RX10, TX10, 5)) (pc' := 97) dX11_text_96 rfl (HT12.arr (q := 27) (t := 7) (n := 16) (HT12.fa rfl rfl rfl) (by decide) (by decide)) (by decide) rfl (HT12.ob (okT.ob oT12) (by decide)) rfl (inB_vp g11) (fun h12 e12 => ?_)
            have H12 : HH s12 h12 := es12 ▸ (HT12.putR (t := 7) (HT12.fa rfl rfl rfl) (by decide) (by decide) _ _ (HT12.2.2.putT oT12) e12)
            have m12 : Mo s7 s12 := ((Mo.text (a0 / (10 : Int32)) (a0 % (10 : Int32)) (zS s7 0 14) a1 ((zS s7 24 3).toNatClampNeg)).tr (Mo.ofR es12))
            refine aw_aload_n (pc' := 98) dX11_text_97 rfl rfl rfl ?_
            refine aw_dup (pc' := 99) dX11_text_98 rfl rfl ?_
            refine aw_gi (q := 0) (pc' := 102) H12 (H12.fo rfl rfl) (l13 rfl) rfl dX11_text_99 rfl fl_RX11_267 ?_
            refine aw_iconst (v := 1) (pc' := 103) dX11_text_102 rfl ic_1 ?_
            refine aw_iadd (pc' := 104) dX11_text_103 rfl ?_
            obtain ⟨v14, ev14, hf⟩ := vl_e hf
            refine aw_topi ev14 ?_
            obtain ⟨s15, es15, hf⟩ := st_e hf
            refine aw_pi (q := 0) (pc' := 107) es15 H12 (H12.fo rfl rfl) (by decide) rfl dX11_text_104 rfl fl_RX11_267 rfl (fun h15 H15 => ?_)
            have m15 := Mo.ofS es15
            refine aw_aload_n (pc' := 108) dX11_text_107 rfl rfl rfl ?_
            refine aw_gi (q := 0) (pc' := 111) H15 (H15.fo rfl rfl) (l13 rfl) rfl dX11_text_108 rfl fl_RX11_267 ?_
            refine aw_iconst (v := 1) (pc' := 112) dX11_text_111 rfl ic_1 ?_
            refine aw_isub (pc' := 113) dX11_text_112 rfl ?_
            obtain ⟨rfl, rfl⟩ := so2 hf
            exact aw_ri dX11_text_113 rfl rfl (Nat.le_of_ble_eq_true rfl) (Nat.le_of_ble_eq_true rfl) ⟨rfl, H15, (((m6.tr m7).tr m12).tr m15)⟩
          · replace hf := ifn c8 hf
            refine aw_bipush (v := (-100)) (pc' := 58) dX11_text_56 rfl bp_m100 ?_
            refine aw_iload_n (pc' := 59) dX11_text_58 rfl rfl ?_
            refine aw_isub (pc' := 60) dX11_text_59 rfl ?_
            obtain ⟨rfl, rfl⟩ := so2 hf
            exact aw_ri dX11_text_60 rfl rfl (Nat.le_of_ble_eq_true rfl) (Nat.le_of_ble_eq_true rfl) ⟨rfl, H7, (m6.tr m7)⟩
        · replace hf := ifn c5 hf
          refine aw_bipush (v := (-3)) (pc' := 35) dX11_text_33 rfl bp_m3 ?_
          obtain ⟨rfl, rfl⟩ := so2 hf
          exact aw_ri dX11_text_35 rfl rfl (Nat.le_of_ble_eq_true rfl) (Nat.le_of_ble_eq_true rfl) ⟨rfl, H0, (Mo.rf _)⟩
      · replace hf := ifp c4 hf
        refine aw_iconst (v := (-1)) (pc' := 23) dX11_text_22 rfl ic_m1 ?_
        obtain ⟨rfl, rfl⟩ := so2 hf
        exact aw_ri dX11_text_23 rfl rfl (Nat.le_of_ble_eq_true rfl) (Nat.le_of_ble_eq_true rfl) ⟨rfl, H0, (Mo.rf _)⟩
/-! ThirtyThreeBelow.isHour -/
noncomputable def f_X11_isHour (a0 : Int32) : Option Int32 := (if a0 < (0 : Int32) then some 0 else (if (1699 : Int32) < a0 then some 0 else some 1))
set_option maxRecDepth 4000 in
theorem t_X11_isHour {r9 : Int32} {h0 : List aE} {a0 : Int32}  (hf : f_X11_isHour a0 = some r9) : AM mX11_isHour (0) [.int a0] h0 0 0 (PI fun r' h' => r9 = r' ∧ h0 = h' ∧ (r9 = 0 ∨ r9 = 1)) := by
  unfold f_X11_isHour at hf
  refine am_of (lv := [some (.int a0)]) rfl (Nat.le_of_ble_eq_true rfl) rfl ?_
  refine aw_iload_n (pc' := 1) dX11_isHour_0 rfl rfl ?_
  refine aw_zlt (tgt := 15) (pc' := 4) dX11_isHour_1 rfl rfl (fun c1 => ?_) (fun c1 => ?_)
  · replace hf := ifp c1 hf
    refine aw_iconst (v := 0) (pc' := 16) dX11_isHour_15 rfl ic_0 ?_
    obtain rfl := Option.some.inj hf
    exact aw_ri dX11_isHour_16 rfl (by decide) (Nat.le_of_ble_eq_true rfl) (Nat.le_of_ble_eq_true rfl) ⟨rfl, rfl, Or.inl rfl⟩
  · replace hf := ifn c1 hf
    refine aw_iload_n (pc' := 5) dX11_isHour_4 rfl rfl ?_
    refine aw_sipush (v := 1699) (pc' := 8) dX11_isHour_5 rfl sp_1699 ?_
    refine aw_cgt (tgt := 15) (pc' := 11) dX11_isHour_8 rfl rfl (fun c2 => ?_) (fun c2 => ?_)
    · replace hf := ifp c2 hf
      refine aw_iconst (v := 0) (pc' := 16) dX11_isHour_15 rfl ic_0 ?_
      obtain rfl := Option.some.inj hf
      exact aw_ri dX11_isHour_16 rfl (by decide) (Nat.le_of_ble_eq_true rfl) (Nat.le_of_ble_eq_true rfl) ⟨rfl, rfl, Or.inl rfl⟩
    · replace hf := ifn c2 hf
      refine aw_iconst (v := 1) (pc' := 12) dX11_isHour_11 rfl ic_1 ?_
      refine aw_goto (tgt := 16) dX11_isHour_12 rfl ?_
      obtain rfl := Option.some.inj hf
      exact aw_ri dX11_isHour_16 rfl (by decide) (Nat.le_of_ble_eq_true rfl) (Nat.le_of_ble_eq_true rfl) ⟨rfl, rfl, Or.inr rfl⟩
/-! ThirtyThreeBelow.latestText -/
noncomputable def f_X11_latestText_L24_b (s0 : SS) (y1 : Int32) (y2 : Int32) (y3 : Int32) (y4 : Int32) (y5 : Int32) (rc : Int32 → Option Int32) (x6 : Int32) : Option Int32 := (if x6 < (0 : Int32) then some (-2) else (gd (inB x6 16) (on (zR s0 27 (x6.toInt.toNat)) (vl (x6 + (-1)) fun v6 => (rc v6)) fun p5 => (if (zS s0 p5 1) = y2 then (if y4 < (zS s0 p5 2) then (vl (x6 + (-1)) fun v11 => (rc v11)) else (if y3 < (zS s0 p5 3) then (vl (x6 + (-1)) fun v16 => (rc v16)) else (if y5 = (0 : Int32) then (if (zS s0 p5 0) = y1 then some x6 else (vl (x6 + (-1)) fun v15 => (rc v15))) else some x6))) else (vl (x6 + (-1)) fun v8 => (rc v8))))))
noncomputable def f_X11_latestText_L24 (s0 : SS) (y1 : Int32) (y2 : Int32) (y3 : Int32) (y4 : Int32) (y5 : Int32) : Nat → Int32 → Option Int32
  | 0, _ => none
  | n + 1, x6 => f_X11_latestText_L24_b s0 y1 y2 y3 y4 y5 (f_X11_latestText_L24 s0 y1 y2 y3 y4 y5 n) x6
set_option maxRecDepth 4000 in
theorem t_X11_latestText_L24 {r9 : Int32} {s0 : SS} {h0 : List aE} {y1 : Int32} {y2 : Int32} {y3 : Int32} {y4 : Int32} {y5 : Int32} (H0 : HH s0 h0)  : ∀ (n : Nat) (x6 : Int32), f_X11_latestText_L24 s0 y1 y2 y3 y4 y5 n x6 = some r9 → AW mX11_latestText (rmD (0) 0 0) (fin (PI fun r' h' => r9 = r' ∧ h0 = h') 0 0) 24 [some (.ref 8), some (.int y1), some (.int y2), some (.int y3), some (.int y4), some (.int y5), some (.int x6), none] [] h0 0 0 := by
  intro n
  induction n with
  | zero =>
    intro x6 hf
    cases hf
  | succ n ih =>
    intro x6 hf
    replace hf : f_X11_latestText_L24_b s0 y1 y2 y3 y4 y5 (f_X11_latestText_L24 s0 y1 y2 y3 y4 y5 n) x6 = some r9 := hf
    unfold f_X11_latestText_L24_b at hf
    refine aw_iload (pc' := 26) dX11_latestText_24 rfl rfl ?_
    refine aw_zlt (tgt := 97) (pc' := 29) dX11_latestText_26 rfl rfl (fun c3 => ?_) (fun c3 => ?_)
    · replace hf := ifp c3 hf
      refine aw_bipush (v := (-2)) (pc' := 99) dX11_latestText_97 rfl bp_m2 ?_
      obtain rfl := Option.some.inj hf
      exact aw_ri dX11_latestText_99 rfl rfl (Nat.le_of_ble_eq_true rfl) (Nat.le_of_ble_eq_true rfl) ⟨rfl, rfl⟩
    · replace hf := ifn c3 hf
      refine aw_aload_n (pc' := 30) dX11_latestText_29 rfl rfl rfl ?_
      refine aw_gr (q := 0) (e := 55) (v := .ref 35) (pc' := 33) H0 (H0.fo rfl rfl) (l13 rfl) rfl rfl dX11_latestText_30 rfl fl_RX11_54 ?_
      refine aw_iload (pc' := 35) dX11_latestText_33 rfl rfl ?_
      obtain ⟨g4, hf⟩ := gd_e hf
      replace hf := on_e hf
      rcases hf with ⟨eo5, hf⟩ | ⟨p5, eo5, hf⟩
      · refine aw_ra_ (q := 27) (t := 7) (pc' := 36) H0 (H0.fa rfl rfl rfl) (by decide) (by decide) rfl g4 eo5 dX11_latestText_35 rfl ?_
        show AW _ _ _ _ _ (Value.null :: _) _ _ _
        refine aw_astore (lv' := [_, _, _, _, _, _, _, _]) (pc' := 38) dX11_latestText_36 rfl (Nat.le_of_ble_eq_true rfl) rfl rfl ?_
        refine aw_aload (pc' := 40) dX11_latestText_38 rfl rfl rfl ?_
        refine aw_ifnull_n (tgt := 91) dX11_latestText_40 (by decide) ?_
        obtain ⟨v6, ev6, hf⟩ := vl_e hf
        refine aw_iincV (y := v6) (lv' := [_, _, _, _, _, _, _, _]) (pc' := 94) dX11_latestText_91 rfl rfl (Nat.le_of_ble_eq_true rfl) ev6 rfl ?_
        refine aw_goto (tgt := 24) dX11_latestText_94 rfl ?_
        refine AW.lv_le (lz_k (lz_k (lz_k (lz_k (lz_k (lz_k (lz_k (lz_d lz_0)))))))) ?_
        exact ih _ hf
      · refine aw_ra_ (q := 27) (t := 7) (pc' := 36) H0 (H0.fa rfl rfl rfl) (by decide) (by decide) rfl g4 eo5 dX11_latestText_35 rfl ?_
        show AW _ _ _ _ _ (Value.ref (p5 + 8) :: _) _ _ _
        have o_p5 : okT s0 p5 := (H0.2.2.2.2.2.2.2.1 _ _ (ixl g4) eo5)
        refine aw_astore (lv' := [_, _, _, _, _, _, _, _]) (pc' := 38) dX11_latestText_36 rfl (Nat.le_of_ble_eq_true rfl) rfl rfl ?_
        refine aw_aload (pc' := 40) dX11_latestText_38 rfl rfl rfl ?_
        refine aw_ifnull_r (pc' := 43) dX11_latestText_40 rfl ?_
        refine aw_aload (pc' := 45) dX11_latestText_43 rfl rfl rfl ?_
        refine aw_gi (q := p5) (pc' := 48) H0 (okT.ob o_p5) (by decide) rfl dX11_latestText_45 rfl fl_RX11_477 ?_
        refine aw_iload_n (pc' := 49) dX11_latestText_48 rfl rfl ?_
        refine aw_icmp_ne (tgt := 91) (pc' := 52) dX11_latestText_49 rfl rfl (fun c7 => ?_) (fun c7 => ?_)
        · replace hf := ifn c7 hf
          obtain ⟨v8, ev8, hf⟩ := vl_e hf
          refine aw_iincV (y := v8) (lv' := [_, _, _, _, _, _, _, _]) (pc' := 94) dX11_latestText_91 rfl rfl (Nat.le_of_ble_eq_true rfl) ev8 rfl ?_
          refine aw_goto (tgt := 24) dX11_latestText_94 rfl ?_
          refine AW.lv_le (lz_k (lz_k (lz_k (lz_k (lz_k (lz_k (lz_k (lz_d lz_0)))))))) ?_
          exact ih _ hf
        · replace hf := ifp c7 hf
          refine aw_aload (pc' := 54) dX11_latestText_52 rfl rfl rfl ?_
          refine aw_gi (q := p5) (pc' := 57) H0 (okT.ob o_p5) (by decide) rfl dX11_latestText_54 rfl fl_RX11_480 ?_
          refine aw_iload (pc' := 59) dX11_latestText_57 rfl rfl ?_
          refine aw_cgt (tgt := 91) (pc' := 62) dX11_latestText_59 rfl rfl (fun c10 => ?_) (fun c10 => ?_)
          · replace hf := ifp c10 hf
            obtain ⟨v11, ev11, hf⟩ := vl_e hf
            refine aw_iincV (y := v11) (lv' := [_, _, _, _, _, _, _, _]) (pc' := 94) dX11_latestText_91 rfl rfl (Nat.le_of_ble_eq_true rfl) ev11 rfl ?_
            refine aw_goto (tgt := 24) dX11_latestText_94 rfl ?_
            refine AW.lv_le (lz_k (lz_k (lz_k (lz_k (lz_k (lz_k (lz_k (lz_d lz_0)))))))) ?_
            exact ih _ hf
          · replace hf := ifn c10 hf
            refine aw_aload (pc' := 64) dX11_latestText_62 rfl rfl rfl ?_
            refine aw_gi (q := p5) (pc' := 67) H0 (okT.ob o_p5) (by decide) rfl dX11_latestText_64 rfl fl_RX11_483 ?_
            refine aw_iload_n (pc' := 68) dX11_latestText_67 rfl rfl ?_
            refine aw_cle (tgt := 74) (pc' := 71) dX11_latestText_68 rfl rfl (fun c12 => ?_) (fun c12 => ?_)
            · replace hf := ifn c12 hf
              refine aw_iload (pc' := 76) dX11_latestText_74 rfl rfl ?_
              refine aw_if_ne (tgt := 88) (pc' := 79) dX11_latestText_76 rfl rfl (fun c13 => ?_) (fun c13 => ?_)
              · replace hf := ifn c13 hf
                refine aw_iload (pc' := 90) dX11_latestText_88 rfl rfl ?_
                obtain rfl := Option.some.inj hf
                exact aw_ri dX11_latestText_90 rfl rfl (Nat.le_of_ble_eq_true rfl) (Nat.le_of_ble_eq_true rfl) ⟨rfl, rfl⟩
              · replace hf := ifp c13 hf
                refine aw_aload (pc' := 81) dX11_latestText_79 rfl rfl rfl ?_
                refine aw_gi (q := p5) (pc' := 84) H0 (okT.ob o_p5) (by decide) rfl dX11_latestText_81 rfl fl_RX11_486 ?_
                refine aw_iload_n (pc' := 85) dX11_latestText_84 rfl rfl ?_
                refine aw_icmp_ne (tgt := 91) (pc' := 88) dX11_latestText_85 rfl rfl (fun c14 => ?_) (fun c14 => ?_)
                · replace hf := ifn c14 hf
                  obtain ⟨v15, ev15, hf⟩ := vl_e hf
                  refine aw_iincV (y := v15) (lv' := [_, _, _, _, _, _, _, _]) (pc' := 94) dX11_latestText_91 rfl rfl (Nat.le_of_ble_eq_true rfl) ev15 rfl ?_
                  refine aw_goto (tgt := 24) dX11_latestText_94 rfl ?_
                  refine AW.lv_le (lz_k (lz_k (lz_k (lz_k (lz_k (lz_k (lz_k (lz_d lz_0)))))))) ?_
                  exact ih _ hf
                · replace hf := ifp c14 hf
                  refine aw_iload (pc' := 90) dX11_latestText_88 rfl rfl ?_
                  obtain rfl := Option.some.inj hf
                  exact aw_ri dX11_latestText_90 rfl rfl (Nat.le_of_ble_eq_true rfl) (Nat.le_of_ble_eq_true rfl) ⟨rfl, rfl⟩
            · replace hf := ifp c12 hf
              refine aw_goto (tgt := 91) dX11_latestText_71 rfl ?_
              obtain ⟨v16, ev16, hf⟩ := vl_e hf
              refine aw_iincV (y := v16) (lv' := [_, _, _, _, _, _, _, _]) (pc' := 94) dX11_latestText_91 rfl rfl (Nat.le_of_ble_eq_true rfl) ev16 rfl ?_
              refine aw_goto (tgt := 24) dX11_latestText_94 rfl ?_
              refine AW.lv_le (lz_k (lz_k (lz_k (lz_k (lz_k (lz_k (lz_k (lz_d lz_0)))))))) ?_
              exact ih _ hf
noncomputable def f_X11_latestText (s0 : SS) (a0 : Int32) (a1 : Int32) (a2 : Int32) (a3 : Int32) : Option Int32 := (jn (fun (t1_0 : Int32) => (vl (((zS s0 0 8) - (1 : Int32))) fun v2 => (f_X11_latestText_L24 s0 a0 a1 a2 a3 t1_0 4000 v2))) fun k1 => (if a3 < (zS s0 0 18) then (k1 0) else (k1 1)))
set_option maxRecDepth 4000 in
theorem t_X11_latestText {r9 : Int32} {s0 : SS} {h0 : List aE} {a0 : Int32} {a1 : Int32} {a2 : Int32} {a3 : Int32} (H0 : HH s0 h0) (hf : f_X11_latestText s0 a0 a1 a2 a3 = some r9) : AM mX11_latestText (0) [.ref 8, .int a0, .int a1, .int a2, .int a3] h0 0 0 (PI fun r' h' => r9 = r' ∧ h0 = h') := by
  unfold f_X11_latestText at hf
  refine am_of (lv := [some (.ref 8), some (.int a0), some (.int a1), some (.int a2), some (.int a3), none, none, none]) rfl (Nat.le_of_ble_eq_true rfl) rfl ?_
  refine aw_aload_n (pc' := 1) dX11_latestText_0 rfl rfl rfl ?_
  refine aw_gi (q := 0) (pc' := 4) H0 (H0.fo rfl rfl) (l13 rfl) rfl dX11_latestText_1 rfl fl_RX11_98 ?_
  refine aw_iload (pc' := 6) dX11_latestText_4 rfl rfl ?_
  obtain ⟨k1, ek1, hf⟩ := jn_e hf
  have hk1 : ∀ (t1_0 : Int32), k1 t1_0 = some r9 → AW mX11_latestText (rmD (0) 0 0) (fin (PI fun r' h' => r9 = r' ∧ h0 = h') 0 0) 14 [some (.ref 8), some (.int a0), some (.int a1), some (.int a2), some (.int a3), none, none, none] [.int t1_0] h0 0 0 := by
    intro t1_0 hf
    subst ek1
    refine aw_istore (lv' := [_, _, _, _, _, _, _, _]) (pc' := 16) dX11_latestText_14 rfl (Nat.le_of_ble_eq_true rfl) rfl ?_
    refine aw_aload_n (pc' := 17) dX11_latestText_16 rfl rfl rfl ?_
    refine aw_gi (q := 0) (pc' := 20) H0 (H0.fo rfl rfl) (l13 rfl) rfl dX11_latestText_17 rfl fl_RX11_267 ?_
    refine aw_iconst (v := 1) (pc' := 21) dX11_latestText_20 rfl ic_1 ?_
    refine aw_isub (pc' := 22) dX11_latestText_21 rfl ?_
    obtain ⟨v2, ev2, hf⟩ := vl_e hf
    refine aw_topi ev2 ?_
    refine aw_istore (lv' := [_, _, _, _, _, _, _, _]) (pc' := 24) dX11_latestText_22 rfl (Nat.le_of_ble_eq_true rfl) rfl ?_
    refine t_X11_latestText_L24 H0  4000 _ hf
  clear ek1
  refine aw_cgt (tgt := 13) (pc' := 9) dX11_latestText_6 rfl rfl (fun c17 => ?_) (fun c17 => ?_)
  · replace hf := ifp c17 hf
    refine aw_iconst (v := 0) (pc' := 14) dX11_latestText_13 rfl ic_0 ?_
    exact hk1 _ hf
  · replace hf := ifn c17 hf
    refine aw_iconst (v := 1) (pc' := 10) dX11_latestText_9 rfl ic_1 ?_
    refine aw_goto (tgt := 14) dX11_latestText_10 rfl ?_
    exact hk1 _ hf
/-! ThirtyThreeBelow.inForce -/
noncomputable def f_X11_inForce (s0 : SS) (a0 : Int32) (a1 : Int32) (a2 : Int32) : Option Int32 := (b1 (f_X11_isOrder a0) fun r1 => (if r1 = (0 : Int32) then some (-1) else (b1 (f_X11_isHour a1) fun r3 => (if r3 = (0 : Int32) then some (-1) else (b1 (f_X11_isHour a2) fun r5 => (if r5 = (0 : Int32) then some (-1) else (b1 (f_X11_latestText s0 (a0 / (10 : Int32)) (a0 % (10 : Int32)) a1 a2) fun r7 => some r7)))))))
set_option maxRecDepth 4000 in
theorem t_X11_inForce {r9 : Int32} {s0 : SS} {h0 : List aE} {a0 : Int32} {a1 : Int32} {a2 : Int32} (H0 : HH s0 h0) (hf : f_X11_inForce s0 a0 a1 a2 = some r9) : AM mX11_inForce (1) [.ref 8, .int a0, .int a1, .int a2] h0 0 0 (PI fun r' h' => r9 = r' ∧ h0 = h') := by
  unfold f_X11_inForce at hf
  refine am_of (lv := [some (.ref 8), some (.int a0), some (.int a1), some (.int a2)]) rfl (Nat.le_of_ble_eq_true rfl) rfl ?_
  refine aw_iload_n (pc' := 1) dX11_inForce_0 rfl rfl ?_
  obtain ⟨r1, ec1, hf⟩ := b1_e hf
  refine aw_callSi (M' := mX11_isOrder) (nc' := 0) (ns' := 0) (pc' := 4) dX11_inForce_1 rfl ml_RX11_264 kX11_isOrder (t_X11_isOrder ec1) rfl rfl (Nat.le_of_ble_eq_true rfl) (rokD (by omega) (Nat.le_of_ble_eq_true rfl) (Nat.le_of_ble_eq_true rfl) (Nat.le_of_ble_eq_true rfl)) rfl rfl (fun _ h1 q1 => ?_)
  obtain ⟨rfl, rfl, zb1⟩ := q1
  refine aw_if_eq (tgt := 21) (pc' := 7) dX11_inForce_4 rfl rfl (fun c2 => ?_) (fun c2 => ?_)
  · replace hf := ifp c2 hf
    refine aw_iconst (v := (-1)) (pc' := 22) dX11_inForce_21 rfl ic_m1 ?_
    obtain rfl := Option.some.inj hf
    exact aw_ri dX11_inForce_22 rfl rfl (Nat.le_of_ble_eq_true rfl) (Nat.le_of_ble_eq_true rfl) ⟨rfl, rfl⟩
  · replace hf := ifn c2 hf
    refine aw_iload_n (pc' := 8) dX11_inForce_7 rfl rfl ?_
    obtain ⟨r3, ec3, hf⟩ := b1_e hf
    refine aw_callSi (M' := mX11_isHour) (nc' := 0) (ns' := 0) (pc' := 11) dX11_inForce_8 rfl ml_RX11_282 kX11_isHour (t_X11_isHour ec3) rfl rfl (Nat.le_of_ble_eq_true rfl) (rokD (by omega) (Nat.le_of_ble_eq_true rfl) (Nat.le_of_ble_eq_true rfl) (Nat.le_of_ble_eq_true rfl)) rfl rfl (fun _ h3 q3 => ?_)
    obtain ⟨rfl, rfl, zb3⟩ := q3
    refine aw_if_eq (tgt := 21) (pc' := 14) dX11_inForce_11 rfl rfl (fun c4 => ?_) (fun c4 => ?_)
    · replace hf := ifp c4 hf
      refine aw_iconst (v := (-1)) (pc' := 22) dX11_inForce_21 rfl ic_m1 ?_
      obtain rfl := Option.some.inj hf
      exact aw_ri dX11_inForce_22 rfl rfl (Nat.le_of_ble_eq_true rfl) (Nat.le_of_ble_eq_true rfl) ⟨rfl, rfl⟩
    · replace hf := ifn c4 hf
      refine aw_iload_n (pc' := 15) dX11_inForce_14 rfl rfl ?_
      obtain ⟨r5, ec5, hf⟩ := b1_e hf
      refine aw_callSi (M' := mX11_isHour) (nc' := 0) (ns' := 0) (pc' := 18) dX11_inForce_15 rfl ml_RX11_282 kX11_isHour (t_X11_isHour ec5) rfl rfl (Nat.le_of_ble_eq_true rfl) (rokD (by omega) (Nat.le_of_ble_eq_true rfl) (Nat.le_of_ble_eq_true rfl) (Nat.le_of_ble_eq_true rfl)) rfl rfl (fun _ h5 q5 => ?_)
      obtain ⟨rfl, rfl, zb5⟩ := q5
      refine aw_if_ne (tgt := 23) (pc' := 21) dX11_inForce_18 rfl rfl (fun c6 => ?_) (fun c6 => ?_)
      · replace hf := ifn c6 hf
        refine aw_aload_n (pc' := 24) dX11_inForce_23 rfl rfl rfl ?_
        refine aw_iload_n (pc' := 25) dX11_inForce_24 rfl rfl ?_
        refine aw_bipush (v := 10) (pc' := 27) dX11_inForce_25 rfl bp_10 ?_
        refine aw_idiv (pc' := 28) dX11_inForce_27 rfl (by decide) ?_
        refine aw_iload_n (pc' := 29) dX11_inForce_28 rfl rfl ?_
        refine aw_bipush (v := 10) (pc' := 31) dX11_inForce_29 rfl bp_10 ?_
        refine aw_irem (pc' := 32) dX11_inForce_31 rfl (by decide) ?_
        refine aw_iload_n (pc' := 33) dX11_inForce_32 rfl rfl ?_
        refine aw_iload_n (pc' := 34) dX11_inForce_33 rfl rfl ?_
        obtain ⟨r7, ec7, hf⟩ := b1_e hf
        refine aw_callVi (M' := mX11_latestText) (nc' := 0) (ns' := 0) (pc' := 37) dX11_inForce_34 rfl ml_RX11_285 kX11_latestText (t_X11_latestText H0 ec7) (H0.ob (H0.fo rfl rfl) (by decide)) rfl rfl rfl (Nat.le_of_ble_eq_true rfl) (rokD (by omega) (Nat.le_of_ble_eq_true rfl) (Nat.le_of_ble_eq_true rfl) (Nat.le_of_ble_eq_true rfl)) rfl rfl (fun _ h7 q7 => ?_)
        obtain ⟨rfl, rfl⟩ := q7
        obtain rfl := Option.some.inj hf
        exact aw_ri dX11_inForce_37 rfl rfl (Nat.le_of_ble_eq_true rfl) (Nat.le_of_ble_eq_true rfl) ⟨rfl, rfl⟩
      · replace hf := ifp c6 hf
        refine aw_iconst (v := (-1)) (pc' := 22) dX11_inForce_21 rfl ic_m1 ?_
        obtain rfl := Option.some.inj hf
        exact aw_ri dX11_inForce_22 rfl rfl (Nat.le_of_ble_eq_true rfl) (Nat.le_of_ble_eq_true rfl) ⟨rfl, rfl⟩
/-! ThirtyThreeBelow.given -/
noncomputable def f_X11_given (s0 : SS) (a0 : Int32) (a1 : Int32) (a2 : Int32) : Option (Int32 × SS) := (jn ((if a1 = (0 : Int32) then some (1, s0) else some (0, s0))) fun k1 => (if a0 < (0 : Int32) then k1 else (if a0 < (zS s0 0 8) then (gd (inB a0 16) (on (zR s0 27 (a0.toInt.toNat)) (if a1 = (0 : Int32) then some (1, s0) else some (0, s0)) fun p6 => (b1 (f_X0_kindOf s0 a2) fun r8 => (jn (fun (t10_0 : Int32) => (vl ((zS s0 0 14)) fun v11 => (st (pI s0 28 ((0 : Int32).toInt.toNat) v11) fun s12 => (vl (((zS s12 0 14) / (24 : Int32))) fun v13 => (st (pI s12 28 ((1 : Int32).toInt.toNat) v13) fun s14 => (jn (fun (t15_0 : Int32) => (st (pI s14 28 ((2 : Int32).toInt.toNat) t15_0) fun s16 => (jn (fun (t17_0 : Int32) => (st (pI s16 28 ((3 : Int32).toInt.toNat) t17_0) fun s18 => (jn (fun (t19_0 : Int32) => (st (pI s18 28 ((4 : Int32).toInt.toNat) t19_0) fun s20 => (vl ((zS s20 6 4)) fun v21 => (st (pI s20 28 ((5 : Int32).toInt.toNat) v21) fun s22 => (vl ((zS s22 30 0)) fun v23 => (st (pI s22 28 ((6 : Int32).toInt.toNat) v23) fun s24 => (vl ((zS s24 0 17)) fun v25 => (st (pI s24 28 ((7 : Int32).toInt.toNat) v25) fun s26 => (bd (f_X10_worth s26 p6) fun r27 s27 => some (r27, s27)))))))))) fun k19 => (if t10_0 = (0 : Int32) then (k19 0) else (gd (inB a2 120) (k19 (zI s18 9 (a2.toInt.toNat)))))))) fun k17 => (if t10_0 = (0 : Int32) then (k17 0) else (gd (inB a2 120) (k17 (zI s16 8 (a2.toInt.toNat)))))))) fun k15 => (if t10_0 = (0 : Int32) then (k15 0) else (gd (inB a2 120) (k15 (zI s14 7 (a2.toInt.toNat))))))))))) fun k10 => (if r8 = (7 : Int32) then (k10 1) else (k10 0)))))) else k1)))
set_option maxRecDepth 4000 in
theorem t_X11_given {r9 : Int32} {s0 s9 : SS} {h0 : List aE} {a0 : Int32} {a1 : Int32} {a2 : Int32} (H0 : HH s0 h0) (hf : f_X11_given s0 a0 a1 a2 = some (r9, s9)) : AM mX11_given (2) [.ref 8, .int a0, .int a1, .int a2] h0 0 0 (PI fun r' h' => r9 = r' ∧ HH s9 h' ∧ Mo s0 s9) := by
  unfold f_X11_given at hf
  refine am_of (lv := [some (.ref 8), some (.int a0), some (.int a1), some (.int a2), none, none]) rfl (Nat.le_of_ble_eq_true rfl) rfl ?_
  refine aw_iload_n (pc' := 1) dX11_given_0 rfl rfl ?_
  obtain ⟨k1, ek1, hf⟩ := jn_e hf
  have hk1 : k1 = some (r9, s9) → AW mX11_given (rmD (2) 0 0) (fin (PI fun r' h' => r9 = r' ∧ HH s9 h' ∧ Mo s0 s9) 0 0) 12 [some (.ref 8), none, some (.int a1), some (.int a2), none, none] [] h0 0 0 := by
    intro hf
    subst ek1
    refine aw_null (pc' := 13) dX11_given_12 rfl ?_
    refine aw_goto (tgt := 22) dX11_given_13 rfl ?_
    refine aw_astore (lv' := [_, _, _, _, _, _]) (pc' := 24) dX11_given_22 rfl (Nat.le_of_ble_eq_true rfl) rfl rfl ?_
    refine aw_aload (pc' := 26) dX11_given_24 rfl rfl rfl ?_
    refine aw_ifnonnull_n (pc' := 29) dX11_given_26 rfl ?_
    refine aw_iload_n (pc' := 30) dX11_given_29 rfl rfl ?_
    refine aw_if_ne (tgt := 37) (pc' := 33) dX11_given_30 rfl rfl (fun c2 => ?_) (fun c2 => ?_)
    · replace hf := ifn c2 hf
      refine aw_iconst (v := 0) (pc' := 38) dX11_given_37 rfl ic_0 ?_
      obtain ⟨rfl, rfl⟩ := so2 hf
      exact aw_ri dX11_given_38 rfl rfl (Nat.le_of_ble_eq_true rfl) (Nat.le_of_ble_eq_true rfl) ⟨rfl, H0, (Mo.rf _)⟩
    · replace hf := ifp c2 hf
      refine aw_iconst (v := 1) (pc' := 34) dX11_given_33 rfl ic_1 ?_
      refine aw_goto (tgt := 38) dX11_given_34 rfl ?_
      obtain ⟨rfl, rfl⟩ := so2 hf
      exact aw_ri dX11_given_38 rfl rfl (Nat.le_of_ble_eq_true rfl) (Nat.le_of_ble_eq_true rfl) ⟨rfl, H0, (Mo.rf _)⟩
  clear ek1
  refine aw_zlt (tgt := 12) (pc' := 4) dX11_given_1 rfl rfl (fun c3 => ?_) (fun c3 => ?_)
  · replace hf := ifp c3 hf
    refine AW.lv_le (lz_k (lz_d (lz_k (lz_k (lz_d (lz_d lz_0)))))) ?_
    exact hk1  hf
  · replace hf := ifn c3 hf
    refine aw_iload_n (pc' := 5) dX11_given_4 rfl rfl ?_
    refine aw_aload_n (pc' := 6) dX11_given_5 rfl rfl rfl ?_
    refine aw_gi (q := 0) (pc' := 9) H0 (H0.fo rfl rfl) (l13 rfl) rfl dX11_given_6 rfl fl_RX11_267 ?_
    refine aw_clt (tgt := 16) (pc' := 12) dX11_given_9 rfl rfl (fun c4 => ?_) (fun c4 => ?_)
    · replace hf := ifp c4 hf
      refine aw_aload_n (pc' := 17) dX11_given_16 rfl rfl rfl ?_
      refine aw_gr (q := 0) (e := 55) (v := .ref 35) (pc' := 20) H0 (H0.fo rfl rfl) (l13 rfl) rfl rfl dX11_given_17 rfl fl_RX11_54 ?_
      refine aw_iload_n (pc' := 21) dX11_given_20 rfl rfl ?_
      obtain ⟨g5, hf⟩ := gd_e hf
      replace hf := on_e hf
      rcases hf with ⟨eo6, hf⟩ | ⟨p6, eo6, hf⟩
      · refine aw_ra_ (q := 27) (t := 7) (pc' := 22) H0 (H0.fa rfl rfl rfl) (by decide) (by decide) rfl g5 eo6 dX11_given_21 rfl ?_
        show AW _ _ _ _ _ (Value.null :: _) _ _ _
        refine aw_astore (lv' := [_, _, _, _, _, _]) (pc' := 24) dX11_given_22 rfl (Nat.le_of_ble_eq_true rfl) rfl rfl ?_
        refine aw_aload (pc' := 26) dX11_given_24 rfl rfl rfl ?_
        refine aw_ifnonnull_n (pc' := 29) dX11_given_26 rfl ?_
        refine aw_iload_n (pc' := 30) dX11_given_29 rfl rfl ?_
        refine aw_if_ne (tgt := 37) (pc' := 33) dX11_given_30 rfl rfl (fun c7 => ?_) (fun c7 => ?_)
        · replace hf := ifn c7 hf
          refine aw_iconst (v := 0) (pc' := 38) dX11_given_37 rfl ic_0 ?_
          obtain ⟨rfl, rfl⟩ := so2 hf
          exact aw_ri dX11_given_38 rfl rfl (Nat.le_of_ble_eq_true rfl) (Nat.le_of_ble_eq_true rfl) ⟨rfl, H0, (Mo.rf _)⟩
        · replace hf := ifp c7 hf
          refine aw_iconst (v := 1) (pc' := 34) dX11_given_33 rfl ic_1 ?_
          refine aw_goto (tgt := 38) dX11_given_34 rfl ?_
          obtain ⟨rfl, rfl⟩ := so2 hf
          exact aw_ri dX11_given_38 rfl rfl (Nat.le_of_ble_eq_true rfl) (Nat.le_of_ble_eq_true rfl) ⟨rfl, H0, (Mo.rf _)⟩
      · refine aw_ra_ (q := 27) (t := 7) (pc' := 22) H0 (H0.fa rfl rfl rfl) (by decide) (by decide) rfl g5 eo6 dX11_given_21 rfl ?_
        show AW _ _ _ _ _ (Value.ref (p6 + 8) :: _) _ _ _
        have o_p6 : okT s0 p6 := (H0.2.2.2.2.2.2.2.1 _ _ (ixl g5) eo6)
        refine aw_astore (lv' := [_, _, _, _, _, _]) (pc' := 24) dX11_given_22 rfl (Nat.le_of_ble_eq_true rfl) rfl rfl ?_
        refine aw_aload (pc' := 26) dX11_given_24 rfl rfl rfl ?_
        refine aw_ifnonnull_r (tgt := 39) dX11_given_26 (by decide) ?_
        refine aw_aload_n (pc' := 40) dX11_given_39 rfl rfl rfl ?_
        refine aw_gr (q := 0) (e := 31) (v := .ref 23) (pc' := 43) H0 (H0.fo rfl rfl) (l13 rfl) rfl rfl dX11_given_40 rfl fl_RX11_28 ?_
        refine aw_iload_n (pc' := 44) dX11_given_43 rfl rfl ?_
        obtain ⟨r8, ec8, hf⟩ := b1_e hf
        refine aw_callVi (M' := mX0_kindOf) (nc' := 0) (ns' := 0) (pc' := 47) dX11_given_44 rfl ml_RX11_135 kX0_kindOf (t_X0_kindOf H0 ec8) (H0.ob (H0.fo rfl rfl) (by decide)) rfl rfl rfl (Nat.le_of_ble_eq_true rfl) (rokD (by omega) (Nat.le_of_ble_eq_true rfl) (Nat.le_of_ble_eq_true rfl) (Nat.le_of_ble_eq_true rfl)) rfl rfl (fun _ h8 q8 => ?_)
        obtain ⟨rfl, rfl⟩ := q8
        refine aw_bipush (v := 7) (pc' := 49) dX11_given_47 rfl bp_7 ?_
        obtain ⟨k10, ek10, hf⟩ := jn_e hf
        have hk10 : ∀ (t10_0 : Int32), k10 t10_0 = some (r9, s9) → AW mX11_given (rmD (2) 0 0) (fin (PI fun r' h' => r9 = r' ∧ HH s9 h' ∧ Mo s0 s9) 0 0) 57 [some (.ref 8), none, none, some (.int a2), some (.ref (p6 + 8)), none] [.int t10_0] h0 0 0 := by
          intro t10_0 hf
          subst ek10
          refine aw_istore (lv' := [_, _, _, _, _, _]) (pc' := 59) dX11_given_57 rfl (Nat.le_of_ble_eq_true rfl) rfl ?_
          refine aw_aload_n (pc' := 60) dX11_given_59 rfl rfl rfl ?_
          refine aw_gr (q := 0) (e := 57) (v := .ref 36) (pc' := 63) H0 (H0.fo rfl rfl) (l13 rfl) rfl rfl dX11_given_60 rfl fl_RX11_66 ?_
          refine aw_iconst (v := 0) (pc' := 64) dX11_given_63 rfl ic_0 ?_
          refine aw_aload_n (pc' := 65) dX11_given_64 rfl rfl rfl ?_
          refine aw_gi (q := 0) (pc' := 68) H0 (H0.fo rfl rfl) (l13 rfl) rfl dX11_given_65 rfl fl_RX11_168 ?_
          obtain ⟨v11, ev11, hf⟩ := vl_e hf
          refine aw_topi ev11 ?_
          obtain ⟨s12, es12, hf⟩ := st_e hf
          refine aw_is (q := 28) (pc' := 69) es12 H0 (H0.fa rfl rfl rfl) (by decide) dX11_given_68 rfl (fun h12 H12 => ?_)
          have m12 := Mo.ofI es12
          refine aw_aload_n (pc' := 70) dX11_given_69 rfl rfl rfl ?_
          refine aw_gr (q := 0) (e := 57) (v := .ref 36) (pc' := 73) H12 (H12.fo rfl rfl) (l13 rfl) rfl rfl dX11_given_70 rfl fl_RX11_66 ?_
          refine aw_iconst (v := 1) (pc' := 74) dX11_given_73 rfl ic_1 ?_
          refine aw_aload_n (pc' := 75) dX11_given_74 rfl rfl rfl ?_
          refine aw_gi (q := 0) (pc' := 78) H12 (H12.fo rfl rfl) (l13 rfl) rfl dX11_given_75 rfl fl_RX11_168 ?_
          refine aw_bipush (v := 24) (pc' := 80) dX11_given_78 rfl bp_24 ?_
          refine aw_idiv (pc' := 81) dX11_given_80 rfl (by decide) ?_
          obtain ⟨v13, ev13, hf⟩ := vl_e hf
          refine aw_topi ev13 ?_
          obtain ⟨s14, es14, hf⟩ := st_e hf
          refine aw_is (q := 28) (pc' := 82) es14 H12 (H12.fa rfl rfl rfl) (by decide) dX11_given_81 rfl (fun h14 H14 => ?_)
          have m14 := Mo.ofI es14
          refine aw_aload_n (pc' := 83) dX11_given_82 rfl rfl rfl ?_
          refine aw_gr (q := 0) (e := 57) (v := .ref 36) (pc' := 86) H14 (H14.fo rfl rfl) (l13 rfl) rfl rfl dX11_given_83 rfl fl_RX11_66 ?_
          refine aw_iconst (v := 2) (pc' := 87) dX11_given_86 rfl ic_2 ?_
          refine aw_iload (pc' := 89) dX11_given_87 rfl rfl ?_
          obtain ⟨k15, ek15, hf⟩ := jn_e hf
          have hk15 : ∀ (t15_0 : Int32), k15 t15_0 = some (r9, s9) → AW mX11_given (rmD (2) 0 0) (fin (PI fun r' h' => r9 = r' ∧ HH s9 h' ∧ Mo s0 s9) 0 0) 105 [some (.ref 8), none, none, some (.int a2), some (.ref (p6 + 8)), some (.int t10_0)] [.int t15_0, .int 2, .ref 36] h14 0 0 := by
            intro t15_0 hf
            subst ek15
            obtain ⟨s16, es16, hf⟩ := st_e hf
            refine aw_is (q := 28) (pc' := 106) es16 H14 (H14.fa rfl rfl rfl) (by decide) dX11_given_105 rfl (fun h16 H16 => ?_)
            have m16 := Mo.ofI es16
            refine aw_aload_n (pc' := 107) dX11_given_106 rfl rfl rfl ?_
            refine aw_gr (q := 0) (e := 57) (v := .ref 36) (pc' := 110) H16 (H16.fo rfl rfl) (l13 rfl) rfl rfl dX11_given_107 rfl fl_RX11_66 ?_
            refine aw_iconst (v := 3) (pc' := 111) dX11_given_110 rfl ic_3 ?_
            refine aw_iload (pc' := 113) dX11_given_111 rfl rfl ?_
            obtain ⟨k17, ek17, hf⟩ := jn_e hf
            have hk17 : ∀ (t17_0 : Int32), k17 t17_0 = some (r9, s9) → AW mX11_given (rmD (2) 0 0) (fin (PI fun r' h' => r9 = r' ∧ HH s9 h' ∧ Mo s0 s9) 0 0) 129 [some (.ref 8), none, none, some (.int a2), some (.ref (p6 + 8)), some (.int t10_0)] [.int t17_0, .int 3, .ref 36] h16 0 0 := by
              intro t17_0 hf
              subst ek17
              obtain ⟨s18, es18, hf⟩ := st_e hf
              refine aw_is (q := 28) (pc' := 130) es18 H16 (H16.fa rfl rfl rfl) (by decide) dX11_given_129 rfl (fun h18 H18 => ?_)
              have m18 := Mo.ofI es18
              refine aw_aload_n (pc' := 131) dX11_given_130 rfl rfl rfl ?_
              refine aw_gr (q := 0) (e := 57) (v := .ref 36) (pc' := 134) H18 (H18.fo rfl rfl) (l13 rfl) rfl rfl dX11_given_131 rfl fl_RX11_66 ?_
              refine aw_iconst (v := 4) (pc' := 135) dX11_given_134 rfl ic_4 ?_
              refine aw_iload (pc' := 137) dX11_given_135 rfl rfl ?_
              obtain ⟨k19, ek19, hf⟩ := jn_e hf
              have hk19 : ∀ (t19_0 : Int32), k19 t19_0 = some (r9, s9) → AW mX11_given (rmD (2) 0 0) (fin (PI fun r' h' => r9 = r' ∧ HH s9 h' ∧ Mo s0 s9) 0 0) 153 [some (.ref 8), none, none, none, some (.ref (p6 + 8)), none] [.int t19_0, .int 4, .ref 36] h18 0 0 := by
                intro t19_0 hf
                subst ek19
                obtain ⟨s20, es20, hf⟩ := st_e hf
                refine aw_is (q := 28) (pc' := 154) es20 H18 (H18.fa rfl rfl rfl) (by decide) dX11_given_153 rfl (fun h20 H20 => ?_)
                have m20 := Mo.ofI es20
                refine aw_aload_n (pc' := 155) dX11_given_154 rfl rfl rfl ?_
                refine aw_gr (q := 0) (e := 57) (v := .ref 36) (pc' := 158) H20 (H20.fo rfl rfl) (l13 rfl) rfl rfl dX11_given_155 rfl fl_RX11_66 ?_
                refine aw_iconst (v := 5) (pc' := 159) dX11_given_158 rfl ic_5 ?_
                refine aw_aload_n (pc' := 160) dX11_given_159 rfl rfl rfl ?_
                refine aw_gr (q := 0) (e := 13) (v := .ref 14) (pc' := 163) H20 (H20.fo rfl rfl) (l13 rfl) rfl rfl dX11_given_160 rfl fl_RX11_19 ?_
                refine aw_gi (q := 6) (pc' := 166) H20 (H20.fo rfl rfl) (l13 rfl) rfl dX11_given_163 rfl fl_RX11_301 ?_
                obtain ⟨v21, ev21, hf⟩ := vl_e hf
                refine aw_topi ev21 ?_
                obtain ⟨s22, es22, hf⟩ := st_e hf
                refine aw_is (q := 28) (pc' := 167) es22 H20 (H20.fa rfl rfl rfl) (by decide) dX11_given_166 rfl (fun h22 H22 => ?_)
                have m22 := Mo.ofI es22
                refine aw_aload_n (pc' := 168) dX11_given_167 rfl rfl rfl ?_
                refine aw_gr (q := 0) (e := 57) (v := .ref 36) (pc' := 171) H22 (H22.fo rfl rfl) (l13 rfl) rfl rfl dX11_given_168 rfl fl_RX11_66 ?_
                refine aw_bipush (v := 6) (pc' := 173) dX11_given_171 rfl bp_6 ?_
                refine aw_aload_n (pc' := 174) dX11_given_173 rfl rfl rfl ?_
                refine aw_gr (q := 0) (e := 61) (v := .ref 38) (pc' := 177) H22 (H22.fo rfl rfl) (l13 rfl) rfl rfl dX11_given_174 rfl fl_RX11_76 ?_
                refine aw_gi (q := 30) (pc' := 180) H22 (H22.fo rfl rfl) (l13 rfl) rfl dX11_given_177 rfl fl_RX11_295 ?_
                obtain ⟨v23, ev23, hf⟩ := vl_e hf
                refine aw_topi ev23 ?_
                obtain ⟨s24, es24, hf⟩ := st_e hf
                refine aw_is (q := 28) (pc' := 181) es24 H22 (H22.fa rfl rfl rfl) (by decide) dX11_given_180 rfl (fun h24 H24 => ?_)
                have m24 := Mo.ofI es24
                refine aw_aload_n (pc' := 182) dX11_given_181 rfl rfl rfl ?_
                refine aw_gr (q := 0) (e := 57) (v := .ref 36) (pc' := 185) H24 (H24.fo rfl rfl) (l13 rfl) rfl rfl dX11_given_182 rfl fl_RX11_66 ?_
                refine aw_bipush (v := 7) (pc' := 187) dX11_given_185 rfl bp_7 ?_
                refine aw_aload_n (pc' := 188) dX11_given_187 rfl rfl rfl ?_
                refine aw_gi (q := 0) (pc' := 191) H24 (H24.fo rfl rfl) (l13 rfl) rfl dX11_given_188 rfl fl_RX11_454 ?_
                obtain ⟨v25, ev25, hf⟩ := vl_e hf
                refine aw_topi ev25 ?_
                obtain ⟨s26, es26, hf⟩ := st_e hf
                refine aw_is (q := 28) (pc' := 192) es26 H24 (H24.fa rfl rfl rfl) (by decide) dX11_given_191 rfl (fun h26 H26 => ?_)
                have m26 := Mo.ofI es26
                refine aw_aload (pc' := 194) dX11_given_192 rfl rfl rfl ?_
                refine aw_aload_n (pc' := 195) dX11_given_194 rfl rfl rfl ?_
                refine aw_gr (q := 0) (e := 57) (v := .ref 36) (pc' := 198) H26 (H26.fo rfl rfl) (l13 rfl) rfl rfl dX11_given_195 rfl fl_RX11_66 ?_
                refine aw_aload_n (pc' := 199) dX11_given_198 rfl rfl rfl ?_
                refine aw_gr (q := 0) (e := 59) (v := .ref 37) (pc' := 202) H26 (H26.fo rfl rfl) (l13 rfl) rfl rfl dX11_given_199 rfl fl_RX11_70 ?_
                obtain ⟨r27, s27, ec27, hf⟩ := bd_e hf
                refine aw_callVi (M' := mX10_worth) (nc' := 0) (ns' := 0) (pc' := 205) dX11_given_202 rfl ml_RX11_495 kX10_worth (t_X10_worth H26 (okT.mo o_p6 (((((((m12.tr m14).tr m16).tr m18).tr m20).tr m22).tr m24).tr m26)) ec27) (H26.ob (okT.ob (okT.mo o_p6 (((((((m12.tr m14).tr m16).tr m18).tr m20).tr m22).tr m24).tr m26))) (by decide)) rfl rfl rfl (Nat.le_of_ble_eq_true rfl) (rokD (by omega) (Nat.le_of_ble_eq_true rfl) (Nat.le_of_ble_eq_true rfl) (Nat.le_of_ble_eq_true rfl)) rfl rfl (fun _ h27 q27 => ?_)
                obtain ⟨rfl, H27, m27⟩ := q27
                obtain ⟨rfl, rfl⟩ := so2 hf
                exact aw_ri dX11_given_205 rfl rfl (Nat.le_of_ble_eq_true rfl) (Nat.le_of_ble_eq_true rfl) ⟨rfl, H27, ((((((((m12.tr m14).tr m16).tr m18).tr m20).tr m22).tr m24).tr m26).tr m27)⟩
              clear ek19
              refine aw_if_eq (tgt := 152) (pc' := 140) dX11_given_137 rfl rfl (fun c28 => ?_) (fun c28 => ?_)
              · replace hf := ifp c28 hf
                refine aw_iconst (v := 0) (pc' := 153) dX11_given_152 rfl ic_0 ?_
                refine AW.lv_le (lz_k (lz_d (lz_d (lz_d (lz_k (lz_d lz_0)))))) ?_
                exact hk19 _ hf
              · replace hf := ifn c28 hf
                refine aw_aload_n (pc' := 141) dX11_given_140 rfl rfl rfl ?_
                refine aw_gr (q := 0) (e := 13) (v := .ref 14) (pc' := 144) H18 (H18.fo rfl rfl) (l13 rfl) rfl rfl dX11_given_141 rfl fl_RX11_19 ?_
                refine aw_gr (q := 6) (e := 7) (v := .ref 17) (pc' := 147) H18 (H18.fo rfl rfl) (l13 rfl) rfl rfl dX11_given_144 rfl fl_RX11_155 ?_
                refine aw_iload_n (pc' := 148) dX11_given_147 rfl rfl ?_
                obtain ⟨g29, hf⟩ := gd_e hf
                refine aw_ia (q := 9) (pc' := 149) H18 (H18.fa rfl rfl rfl) g29 dX11_given_148 rfl ?_
                refine aw_goto (tgt := 153) dX11_given_149 rfl ?_
                refine AW.lv_le (lz_k (lz_d (lz_d (lz_d (lz_k (lz_d lz_0)))))) ?_
                exact hk19 _ hf
            clear ek17
            refine aw_if_eq (tgt := 128) (pc' := 116) dX11_given_113 rfl rfl (fun c30 => ?_) (fun c30 => ?_)
            · replace hf := ifp c30 hf
              refine aw_iconst (v := 0) (pc' := 129) dX11_given_128 rfl ic_0 ?_
              exact hk17 _ hf
            · replace hf := ifn c30 hf
              refine aw_aload_n (pc' := 117) dX11_given_116 rfl rfl rfl ?_
              refine aw_gr (q := 0) (e := 13) (v := .ref 14) (pc' := 120) H16 (H16.fo rfl rfl) (l13 rfl) rfl rfl dX11_given_117 rfl fl_RX11_19 ?_
              refine aw_gr (q := 6) (e := 5) (v := .ref 16) (pc' := 123) H16 (H16.fo rfl rfl) (l13 rfl) rfl rfl dX11_given_120 rfl fl_RX11_492 ?_
              refine aw_iload_n (pc' := 124) dX11_given_123 rfl rfl ?_
              obtain ⟨g31, hf⟩ := gd_e hf
              refine aw_ia (q := 8) (pc' := 125) H16 (H16.fa rfl rfl rfl) g31 dX11_given_124 rfl ?_
              refine aw_goto (tgt := 129) dX11_given_125 rfl ?_
              exact hk17 _ hf
          clear ek15
          refine aw_if_eq (tgt := 104) (pc' := 92) dX11_given_89 rfl rfl (fun c32 => ?_) (fun c32 => ?_)
          · replace hf := ifp c32 hf
            refine aw_iconst (v := 0) (pc' := 105) dX11_given_104 rfl ic_0 ?_
            exact hk15 _ hf
          · replace hf := ifn c32 hf
            refine aw_aload_n (pc' := 93) dX11_given_92 rfl rfl rfl ?_
            refine aw_gr (q := 0) (e := 13) (v := .ref 14) (pc' := 96) H14 (H14.fo rfl rfl) (l13 rfl) rfl rfl dX11_given_93 rfl fl_RX11_19 ?_
            refine aw_gr (q := 6) (e := 3) (v := .ref 15) (pc' := 99) H14 (H14.fo rfl rfl) (l13 rfl) rfl rfl dX11_given_96 rfl fl_RX11_489 ?_
            refine aw_iload_n (pc' := 100) dX11_given_99 rfl rfl ?_
            obtain ⟨g33, hf⟩ := gd_e hf
            refine aw_ia (q := 7) (pc' := 101) H14 (H14.fa rfl rfl rfl) g33 dX11_given_100 rfl ?_
            refine aw_goto (tgt := 105) dX11_given_101 rfl ?_
            exact hk15 _ hf
        clear ek10
        refine aw_icmp_ne (tgt := 56) (pc' := 52) dX11_given_49 rfl rfl (fun c34 => ?_) (fun c34 => ?_)
        · replace hf := ifn c34 hf
          refine aw_iconst (v := 0) (pc' := 57) dX11_given_56 rfl ic_0 ?_
          refine AW.lv_le (lz_k (lz_d (lz_d (lz_k (lz_k (lz_d lz_0)))))) ?_
          exact hk10 _ hf
        · replace hf := ifp c34 hf
          refine aw_iconst (v := 1) (pc' := 53) dX11_given_52 rfl ic_1 ?_
          refine aw_goto (tgt := 57) dX11_given_53 rfl ?_
          refine AW.lv_le (lz_k (lz_d (lz_d (lz_k (lz_k (lz_d lz_0)))))) ?_
          exact hk10 _ hf
    · replace hf := ifn c4 hf
      refine AW.lv_le (lz_k (lz_d (lz_k (lz_k (lz_d (lz_d lz_0)))))) ?_
      exact hk1  hf
/-! ThirtyThreeBelow.says -/
noncomputable def f_X11_says (s0 : SS) (a0 : Int32) (a1 : Int32) : Option (Int32 × SS) := (b1 (f_X11_isOrder a0) fun r1 => (if r1 = (0 : Int32) then some ((-2000000000), s0) else (vl ((a0 % (10 : Int32))) fun v3 => (jn ((b1 (f_X11_latestText s0 (a0 / (10 : Int32)) v3 (zS s0 0 14) (zS s0 0 14)) fun r5 => (bd (f_X11_given s0 r5 v3 a1) fun r6 s6 => some (r6, s6)))) fun k4 => (if v3 = (2 : Int32) then (if a1 = ((-1) : Int32) then k4 else some ((-2000000000), s0)) else (b1 (f_X0_kindOf s0 a1) fun r8 => (if r8 = (7 : Int32) then k4 else some ((-2000000000), s0))))))))
set_option maxRecDepth 4000 in
theorem t_X11_says {r9 : Int32} {s0 s9 : SS} {h0 : List aE} {a0 : Int32} {a1 : Int32} (H0 : HH s0 h0) (hf : f_X11_says s0 a0 a1 = some (r9, s9)) : AM mX11_says (3) [.ref 8, .int a0, .int a1] h0 0 0 (PI fun r' h' => r9 = r' ∧ HH s9 h' ∧ Mo s0 s9) := by
  unfold f_X11_says at hf
  refine am_of (lv := [some (.ref 8), some (.int a0), some (.int a1), none]) rfl (Nat.le_of_ble_eq_true rfl) rfl ?_
  refine aw_iload_n (pc' := 1) dX11_says_0 rfl rfl ?_
  obtain ⟨r1, ec1, hf⟩ := b1_e hf
  refine aw_callSi (M' := mX11_isOrder) (nc' := 0) (ns' := 0) (pc' := 4) dX11_says_1 rfl ml_RX11_264 kX11_isOrder (t_X11_isOrder ec1) rfl rfl (Nat.le_of_ble_eq_true rfl) (rokD (by omega) (Nat.le_of_ble_eq_true rfl) (Nat.le_of_ble_eq_true rfl) (Nat.le_of_ble_eq_true rfl)) rfl rfl (fun _ h1 q1 => ?_)
  obtain ⟨rfl, rfl, zb1⟩ := q1
  refine aw_if_ne (tgt := 10) (pc' := 7) dX11_says_4 rfl rfl (fun c2 => ?_) (fun c2 => ?_)
  · replace hf := ifn c2 hf
    refine aw_iload_n (pc' := 11) dX11_says_10 rfl rfl ?_
    refine aw_bipush (v := 10) (pc' := 13) dX11_says_11 rfl bp_10 ?_
    refine aw_irem (pc' := 14) dX11_says_13 rfl (by decide) ?_
    obtain ⟨v3, ev3, hf⟩ := vl_e hf
    refine aw_topi ev3 ?_
    refine aw_istore_n (lv' := [_, _, _, _]) (pc' := 15) dX11_says_14 rfl (Nat.le_of_ble_eq_true rfl) rfl ?_
    refine aw_iload_n (pc' := 16) dX11_says_15 rfl rfl ?_
    refine aw_iconst (v := 2) (pc' := 17) dX11_says_16 rfl ic_2 ?_
    obtain ⟨k4, ek4, hf⟩ := jn_e hf
    have hk4 : k4 = some (r9, s9) → AW mX11_says (rmD (3) 0 0) (fin (PI fun r' h' => r9 = r' ∧ HH s9 h' ∧ Mo s0 s9) 0 0) 44 [some (.ref 8), some (.int a0), some (.int a1), some (.int v3)] [] h0 0 0 := by
      intro hf
      subst ek4
      refine aw_aload_n (pc' := 45) dX11_says_44 rfl rfl rfl ?_
      refine aw_aload_n (pc' := 46) dX11_says_45 rfl rfl rfl ?_
      refine aw_iload_n (pc' := 47) dX11_says_46 rfl rfl ?_
      refine aw_bipush (v := 10) (pc' := 49) dX11_says_47 rfl bp_10 ?_
      refine aw_idiv (pc' := 50) dX11_says_49 rfl (by decide) ?_
      refine aw_iload_n (pc' := 51) dX11_says_50 rfl rfl ?_
      refine aw_aload_n (pc' := 52) dX11_says_51 rfl rfl rfl ?_
      refine aw_gi (q := 0) (pc' := 55) H0 (H0.fo rfl rfl) (l13 rfl) rfl dX11_says_52 rfl fl_RX11_168 ?_
      refine aw_aload_n (pc' := 56) dX11_says_55 rfl rfl rfl ?_
      refine aw_gi (q := 0) (pc' := 59) H0 (H0.fo rfl rfl) (l13 rfl) rfl dX11_says_56 rfl fl_RX11_168 ?_
      obtain ⟨r5, ec5, hf⟩ := b1_e hf
      refine aw_callVi (M' := mX11_latestText) (nc' := 0) (ns' := 0) (pc' := 62) dX11_says_59 rfl ml_RX11_285 kX11_latestText (t_X11_latestText H0 ec5) (H0.ob (H0.fo rfl rfl) (by decide)) rfl rfl rfl (Nat.le_of_ble_eq_true rfl) (rokD (by omega) (Nat.le_of_ble_eq_true rfl) (Nat.le_of_ble_eq_true rfl) (Nat.le_of_ble_eq_true rfl)) rfl rfl (fun _ h5 q5 => ?_)
      obtain ⟨rfl, rfl⟩ := q5
      refine aw_iload_n (pc' := 63) dX11_says_62 rfl rfl ?_
      refine aw_iload_n (pc' := 64) dX11_says_63 rfl rfl ?_
      obtain ⟨r6, s6, ec6, hf⟩ := bd_e hf
      refine aw_callVi (M' := mX11_given) (nc' := 0) (ns' := 0) (pc' := 67) dX11_says_64 rfl ml_RX11_289 kX11_given (t_X11_given H0 ec6) (H0.ob (H0.fo rfl rfl) (by decide)) rfl rfl rfl (Nat.le_of_ble_eq_true rfl) (rokD (by omega) (Nat.le_of_ble_eq_true rfl) (Nat.le_of_ble_eq_true rfl) (Nat.le_of_ble_eq_true rfl)) rfl rfl (fun _ h6 q6 => ?_)
      obtain ⟨rfl, H6, m6⟩ := q6
      obtain ⟨rfl, rfl⟩ := so2 hf
      exact aw_ri dX11_says_67 rfl rfl (Nat.le_of_ble_eq_true rfl) (Nat.le_of_ble_eq_true rfl) ⟨rfl, H6, m6⟩
    clear ek4
    refine aw_icmp_ne (tgt := 28) (pc' := 20) dX11_says_17 rfl rfl (fun c7 => ?_) (fun c7 => ?_)
    · replace hf := ifn c7 hf
      refine aw_aload_n (pc' := 29) dX11_says_28 rfl rfl rfl ?_
      refine aw_gr (q := 0) (e := 31) (v := .ref 23) (pc' := 32) H0 (H0.fo rfl rfl) (l13 rfl) rfl rfl dX11_says_29 rfl fl_RX11_28 ?_
      refine aw_iload_n (pc' := 33) dX11_says_32 rfl rfl ?_
      obtain ⟨r8, ec8, hf⟩ := b1_e hf
      refine aw_callVi (M' := mX0_kindOf) (nc' := 0) (ns' := 0) (pc' := 36) dX11_says_33 rfl ml_RX11_135 kX0_kindOf (t_X0_kindOf H0 ec8) (H0.ob (H0.fo rfl rfl) (by decide)) rfl rfl rfl (Nat.le_of_ble_eq_true rfl) (rokD (by omega) (Nat.le_of_ble_eq_true rfl) (Nat.le_of_ble_eq_true rfl) (Nat.le_of_ble_eq_true rfl)) rfl rfl (fun _ h8 q8 => ?_)
      obtain ⟨rfl, rfl⟩ := q8
      refine aw_bipush (v := 7) (pc' := 38) dX11_says_36 rfl bp_7 ?_
      refine aw_icmp_eq (tgt := 44) (pc' := 41) dX11_says_38 rfl rfl (fun c10 => ?_) (fun c10 => ?_)
      · replace hf := ifp c10 hf
        exact hk4  hf
      · replace hf := ifn c10 hf
        refine aw_ldc (pc' := 43) dX11_says_41 rfl ct_RX11_138 ?_
        obtain ⟨rfl, rfl⟩ := so2 hf
        exact aw_ri dX11_says_43 rfl rfl (Nat.le_of_ble_eq_true rfl) (Nat.le_of_ble_eq_true rfl) ⟨rfl, H0, (Mo.rf _)⟩
    · replace hf := ifp c7 hf
      refine aw_iload_n (pc' := 21) dX11_says_20 rfl rfl ?_
      refine aw_iconst (v := (-1)) (pc' := 22) dX11_says_21 rfl ic_m1 ?_
      refine aw_icmp_eq (tgt := 44) (pc' := 25) dX11_says_22 rfl rfl (fun c11 => ?_) (fun c11 => ?_)
      · replace hf := ifp c11 hf
        exact hk4  hf
      · replace hf := ifn c11 hf
        refine aw_goto (tgt := 41) dX11_says_25 rfl ?_
        refine aw_ldc (pc' := 43) dX11_says_41 rfl ct_RX11_138 ?_
        obtain ⟨rfl, rfl⟩ := so2 hf
        exact aw_ri dX11_says_43 rfl rfl (Nat.le_of_ble_eq_true rfl) (Nat.le_of_ble_eq_true rfl) ⟨rfl, H0, (Mo.rf _)⟩
  · replace hf := ifp c2 hf
    refine aw_ldc (pc' := 9) dX11_says_7 rfl ct_RX11_138 ?_
    obtain ⟨rfl, rfl⟩ := so2 hf
    exact aw_ri dX11_says_9 rfl rfl (Nat.le_of_ble_eq_true rfl) (Nat.le_of_ble_eq_true rfl) ⟨rfl, H0, (Mo.rf _)⟩
/-! ThirtyThreeBelow.boreOn -/
noncomputable def f_X11_boreOn_L7_b (p1 : Nat) (y2 : Int32) (rc : SS → Int32 → Option SS) (s : SS) (x3 : Int32) : Option SS := (if (zS s p1 3) < x3 then some s else (if (zS s p1 6) = (0 : Int32) then (gd (inB x3 61) (b1 (f_X11_held ((zS s p1 2) + (zI s (p1 + 1) (x3.toInt.toNat))) (0 : Int32) (31 : Int32)) fun r5 => (vl ((((r5 * (60 : Int32)) + x3) - (1 : Int32))) fun v6 => (gd (inB v6 1920) (jn (fun (t8_0 : Int32) => (jn (fun (t10_0 : Int32) => (if (zS s p1 5) < t10_0 then some s else (vl (((zS s p1 5) - t10_0)) fun v12 => (st (pS s p1 5 v12) fun s13 => (st (pS s13 p1 2 r5) fun s14 => (st (pS s14 p1 4 x3) fun s15 => (vl (((zS s15 0 16) + (1 : Int32))) fun v16 => (st (pS s15 0 16 v16) fun s17 => (b1 (f_X0_isRefuge s17 r5 x3) fun r18 => (jn (fun (t19_0 : Int32) => (gd (inB x3 61) (st (pI s17 (p1 + 2) (x3.toInt.toNat) t19_0) fun s21 => (jn (fun (s22 : SS)  => (vl (x3 + 1) fun v23 => (rc s22 v23))) fun k22 => (if r18 = (0 : Int32) then (k22 s21) else (st (pS s21 p1 6 1) fun s25 => (vl (((zS s25 0 17) + (1 : Int32))) fun v26 => (st (pS s25 0 17 v26) fun s27 => (b1 (f_J9_min_7cf53 (zS s27 0 18) (zS s27 0 14)) fun r28 => (st (pS s27 0 18 r28) fun s29 => (k22 s29))))))))))) fun k19 => (if r18 = (0 : Int32) then (if t8_0 = (0 : Int32) then (k19 0) else (k19 1)) else (k19 2)))))))))))) fun k10 => (if t8_0 = (0 : Int32) then (gd (inB v6 1920) (k10 (y2 * (zI s 2 (v6.toInt.toNat))))) else (k10 0)))) fun k8 => (if (zI s 3 (v6.toInt.toNat)) = (1 : Int32) then (k8 1) else (k8 0))))))) else some s))
noncomputable def f_X11_boreOn_L7 (p1 : Nat) (y2 : Int32) : Nat → SS → Int32 → Option SS
  | 0, _, _ => none
  | n + 1, s, x3 => f_X11_boreOn_L7_b p1 y2 (f_X11_boreOn_L7 p1 y2 n) s x3
set_option maxRecDepth 4000 in
theorem t_X11_boreOn_L7 {s0 sb s9 : SS} {p1 : Nat} {y2 : Int32} (mb : Mo s0 sb) (o_p1 : okH sb p1)  : ∀ (n : Nat) (s : SS) (h : List aE) (x3 : Int32), HH s h → Mo sb s → f_X11_boreOn_L7 p1 y2 n s x3 = some s9 → AW mX11_boreOn (rmD (2) 0 0) (fin (PV fun h' => HH s9 h' ∧ Mo s0 s9) 0 0) 7 [some (.ref 8), some (.ref (p1 + 8)), some (.int y2), some (.int x3), none, none, none, none, none] [] h 0 0 := by
  intro n
  induction n with
  | zero =>
    intro s h x3 H ms hf
    cases hf
  | succ n ih =>
    intro s h x3 H ms hf
    replace hf : f_X11_boreOn_L7_b p1 y2 (f_X11_boreOn_L7 p1 y2 n) s x3 = some s9 := hf
    unfold f_X11_boreOn_L7_b at hf
    refine aw_iload_n (pc' := 8) dX11_boreOn_7 rfl rfl ?_
    refine aw_aload_n (pc' := 9) dX11_boreOn_8 rfl rfl rfl ?_
    refine aw_gi (q := p1) (pc' := 12) H (okH.ob (okH.mo o_p1 ms)) (by decide) rfl dX11_boreOn_9 rfl fl_RX11_178 ?_
    refine aw_cgt (tgt := 216) (pc' := 15) dX11_boreOn_12 rfl rfl (fun c2 => ?_) (fun c2 => ?_)
    · replace hf := ifp c2 hf
      obtain rfl := Option.some.inj hf
      exact aw_rv dX11_boreOn_216 rfl (Nat.le_of_ble_eq_true rfl) (Nat.le_of_ble_eq_true rfl) ⟨H, (mb.tr ms)⟩
    · replace hf := ifn c2 hf
      refine aw_aload_n (pc' := 16) dX11_boreOn_15 rfl rfl rfl ?_
      refine aw_gi (q := p1) (pc' := 19) H (okH.ob (okH.mo o_p1 ms)) (by decide) rfl dX11_boreOn_16 rfl fl_RX11_174 ?_
      refine aw_if_ne (tgt := 216) (pc' := 22) dX11_boreOn_19 rfl rfl (fun c3 => ?_) (fun c3 => ?_)
      · replace hf := ifn c3 hf
        obtain rfl := Option.some.inj hf
        exact aw_rv dX11_boreOn_216 rfl (Nat.le_of_ble_eq_true rfl) (Nat.le_of_ble_eq_true rfl) ⟨H, (mb.tr ms)⟩
      · replace hf := ifp c3 hf
        refine aw_aload_n (pc' := 23) dX11_boreOn_22 rfl rfl rfl ?_
        refine aw_gi (q := p1) (pc' := 26) H (okH.ob (okH.mo o_p1 ms)) (by decide) rfl dX11_boreOn_23 rfl fl_RX11_516 ?_
        refine aw_aload_n (pc' := 27) dX11_boreOn_26 rfl rfl rfl ?_
        refine aw_gr (q := p1) (e := 3) (v := .ref (p1 + 1 + 8)) (pc' := 30) H (okH.ob (okH.mo o_p1 ms)) (by decide) rfl rfl dX11_boreOn_27 rfl fl_RX11_181 ?_
        refine aw_iload_n (pc' := 31) dX11_boreOn_30 rfl rfl ?_
        obtain ⟨g4, hf⟩ := gd_e hf
        refine aw_ia (q := (p1 + 1)) (pc' := 32) H (okH.a1 (okH.mo o_p1 ms)) g4 dX11_boreOn_31 rfl ?_
        refine aw_iadd (pc' := 33) dX11_boreOn_32 rfl ?_
        refine aw_iconst (v := 0) (pc' := 34) dX11_boreOn_33 rfl ic_0 ?_
        refine aw_bipush (v := 31) (pc' := 36) dX11_boreOn_34 rfl bp_31 ?_
        obtain ⟨r5, ec5, hf⟩ := b1_e hf
        refine aw_callSi (M' := mX11_held) (nc' := 0) (ns' := 0) (pc' := 39) dX11_boreOn_36 rfl ml_RX11_466 kX11_held (t_X11_held ec5) rfl rfl (Nat.le_of_ble_eq_true rfl) (rokD (by omega) (Nat.le_of_ble_eq_true rfl) (Nat.le_of_ble_eq_true rfl) (Nat.le_of_ble_eq_true rfl)) rfl rfl (fun _ h5 q5 => ?_)
        obtain ⟨rfl, rfl⟩ := q5
        refine aw_istore (lv' := [_, _, _, _, _, _, _, _, _]) (pc' := 41) dX11_boreOn_39 rfl (Nat.le_of_ble_eq_true rfl) rfl ?_
        refine aw_iload (pc' := 43) dX11_boreOn_41 rfl rfl ?_
        refine aw_bipush (v := 60) (pc' := 45) dX11_boreOn_43 rfl bp_60 ?_
        refine aw_imul (pc' := 46) dX11_boreOn_45 rfl ?_
        refine aw_iload_n (pc' := 47) dX11_boreOn_46 rfl rfl ?_
        refine aw_iadd (pc' := 48) dX11_boreOn_47 rfl ?_
        refine aw_iconst (v := 1) (pc' := 49) dX11_boreOn_48 rfl ic_1 ?_
        refine aw_isub (pc' := 50) dX11_boreOn_49 rfl ?_
        obtain ⟨v6, ev6, hf⟩ := vl_e hf
        refine aw_topi ev6 ?_
        refine aw_istore (lv' := [_, _, _, _, _, _, _, _, _]) (pc' := 52) dX11_boreOn_50 rfl (Nat.le_of_ble_eq_true rfl) rfl ?_
        refine aw_aload_n (pc' := 53) dX11_boreOn_52 rfl rfl rfl ?_
        refine aw_gr (q := 0) (e := 3) (v := .ref 9) (pc' := 56) H (H.fo rfl rfl) (by decide) rfl rfl dX11_boreOn_53 rfl fl_RX11_10 ?_
        refine aw_gr (q := 1) (e := 5) (v := .ref 11) (pc' := 59) H (H.fo rfl rfl) (by decide) rfl rfl dX11_boreOn_56 rfl fl_RX11_108 ?_
        refine aw_iload (pc' := 61) dX11_boreOn_59 rfl rfl ?_
        obtain ⟨g7, hf⟩ := gd_e hf
        refine aw_ia (q := 3) (pc' := 62) H (H.fa rfl rfl rfl) g7 dX11_boreOn_61 rfl ?_
        refine aw_iconst (v := 1) (pc' := 63) dX11_boreOn_62 rfl ic_1 ?_
        obtain ⟨k8, ek8, hf⟩ := jn_e hf
        have hk8 : ∀ (t8_0 : Int32), k8 t8_0 = some s9 → AW mX11_boreOn (rmD (2) 0 0) (fin (PV fun h' => HH s9 h' ∧ Mo s0 s9) 0 0) 71 [some (.ref 8), some (.ref (p1 + 8)), some (.int y2), some (.int x3), some (.int r5), some (.int v6), none, none, none] [.int t8_0] h 0 0 := by
          intro t8_0 hf
          subst ek8
          refine aw_istore (lv' := [_, _, _, _, _, _, _, _, _]) (pc' := 73) dX11_boreOn_71 rfl (Nat.le_of_ble_eq_true rfl) rfl ?_
          refine aw_iload (pc' := 75) dX11_boreOn_73 rfl rfl ?_
          obtain ⟨k10, ek10, hf⟩ := jn_e hf
          have hk10 : ∀ (t10_0 : Int32), k10 t10_0 = some s9 → AW mX11_boreOn (rmD (2) 0 0) (fin (PV fun h' => HH s9 h' ∧ Mo s0 s9) 0 0) 94 [some (.ref 8), some (.ref (p1 + 8)), some (.int y2), some (.int x3), some (.int r5), none, some (.int t8_0), none, none] [.int t10_0] h 0 0 := by
            intro t10_0 hf
            subst ek10
            refine aw_istore (lv' := [_, _, _, _, _, _, _, _, _]) (pc' := 96) dX11_boreOn_94 rfl (Nat.le_of_ble_eq_true rfl) rfl ?_
            refine aw_iload (pc' := 98) dX11_boreOn_96 rfl rfl ?_
            refine aw_aload_n (pc' := 99) dX11_boreOn_98 rfl rfl rfl ?_
            refine aw_gi (q := p1) (pc' := 102) H (okH.ob (okH.mo o_p1 ms)) (by decide) rfl dX11_boreOn_99 rfl fl_RX11_375 ?_
            refine aw_cle (tgt := 106) (pc' := 105) dX11_boreOn_102 rfl rfl (fun c11 => ?_) (fun c11 => ?_)
            · replace hf := ifn c11 hf
              refine aw_aload_n (pc' := 107) dX11_boreOn_106 rfl rfl rfl ?_
              refine aw_dup (pc' := 108) dX11_boreOn_107 rfl rfl ?_
              refine aw_gi (q := p1) (pc' := 111) H (okH.ob (okH.mo o_p1 ms)) (by decide) rfl dX11_boreOn_108 rfl fl_RX11_375 ?_
              refine aw_iload (pc' := 113) dX11_boreOn_111 rfl rfl ?_
              refine aw_isub (pc' := 114) dX11_boreOn_113 rfl ?_
              obtain ⟨v12, ev12, hf⟩ := vl_e hf
              refine aw_topi ev12 ?_
              obtain ⟨s13, es13, hf⟩ := st_e hf
              refine aw_pi (q := p1) (pc' := 117) es13 H (okH.ob (okH.mo o_p1 ms)) (by decide) rfl dX11_boreOn_114 rfl fl_RX11_375 rfl (fun h13 H13 => ?_)
              have m13 := Mo.ofS es13
              refine aw_aload_n (pc' := 118) dX11_boreOn_117 rfl rfl rfl ?_
              refine aw_iload (pc' := 120) dX11_boreOn_118 rfl rfl ?_
              obtain ⟨s14, es14, hf⟩ := st_e hf
              refine aw_pi (q := p1) (pc' := 123) es14 H13 (okH.ob (okH.mo o_p1 (ms.tr m13))) (by decide) rfl dX11_boreOn_120 rfl fl_RX11_516 rfl (fun h14 H14 => ?_)
              have m14 := Mo.ofS es14
              refine aw_aload_n (pc' := 124) dX11_boreOn_123 rfl rfl rfl ?_
              refine aw_iload_n (pc' := 125) dX11_boreOn_124 rfl rfl ?_
              obtain ⟨s15, es15, hf⟩ := st_e hf
              refine aw_pi (q := p1) (pc' := 128) es15 H14 (okH.ob (okH.mo o_p1 ((ms.tr m13).tr m14))) (by decide) rfl dX11_boreOn_125 rfl fl_RX11_184 rfl (fun h15 H15 => ?_)
              have m15 := Mo.ofS es15
              refine aw_aload_n (pc' := 129) dX11_boreOn_128 rfl rfl rfl ?_
              refine aw_dup (pc' := 130) dX11_boreOn_129 rfl rfl ?_
              refine aw_gi (q := 0) (pc' := 133) H15 (H15.fo rfl rfl) (l13 rfl) rfl dX11_boreOn_130 rfl fl_RX11_457 ?_
              refine aw_iconst (v := 1) (pc' := 134) dX11_boreOn_133 rfl ic_1 ?_
              refine aw_iadd (pc' := 135) dX11_boreOn_134 rfl ?_
              obtain ⟨v16, ev16, hf⟩ := vl_e hf
              refine aw_topi ev16 ?_
              obtain ⟨s17, es17, hf⟩ := st_e hf
              refine aw_pi (q := 0) (pc' := 138) es17 H15 (H15.fo rfl rfl) (by decide) rfl dX11_boreOn_135 rfl fl_RX11_457 rfl (fun h17 H17 => ?_)
              have m17 := Mo.ofS es17
              refine aw_aload_n (pc' := 139) dX11_boreOn_138 rfl rfl rfl ?_
              refine aw_gr (q := 0) (e := 31) (v := .ref 23) (pc' := 142) H17 (H17.fo rfl rfl) (l13 rfl) rfl rfl dX11_boreOn_139 rfl fl_RX11_28 ?_
              refine aw_iload (pc' := 144) dX11_boreOn_142 rfl rfl ?_
              refine aw_iload_n (pc' := 145) dX11_boreOn_144 rfl rfl ?_
              obtain ⟨r18, ec18, hf⟩ := b1_e hf
              refine aw_callVi (M' := mX0_isRefuge) (nc' := 0) (ns' := 0) (pc' := 148) dX11_boreOn_145 rfl ml_RX11_519 kX0_isRefuge (t_X0_isRefuge H17 ec18) (H17.ob (H17.fo rfl rfl) (by decide)) rfl rfl rfl (Nat.le_of_ble_eq_true rfl) (rokD (by omega) (Nat.le_of_ble_eq_true rfl) (Nat.le_of_ble_eq_true rfl) (Nat.le_of_ble_eq_true rfl)) rfl rfl (fun _ h18 q18 => ?_)
              obtain ⟨rfl, rfl, zb18⟩ := q18
              refine aw_istore (lv' := [_, _, _, _, _, _, _, _, _]) (pc' := 150) dX11_boreOn_148 rfl (Nat.le_of_ble_eq_true rfl) rfl ?_
              refine aw_aload_n (pc' := 151) dX11_boreOn_150 rfl rfl rfl ?_
              refine aw_gr (q := p1) (e := 5) (v := .ref (p1 + 2 + 8)) (pc' := 154) H17 (okH.ob (okH.mo o_p1 ((((ms.tr m13).tr m14).tr m15).tr m17))) (by decide) rfl rfl dX11_boreOn_151 rfl fl_RX11_187 ?_
              refine aw_iload_n (pc' := 155) dX11_boreOn_154 rfl rfl ?_
              refine aw_iload (pc' := 157) dX11_boreOn_155 rfl rfl ?_
              obtain ⟨k19, ek19, hf⟩ := jn_e hf
              have hk19 : ∀ (t19_0 : Int32), k19 t19_0 = some s9 → AW mX11_boreOn (rmD (2) 0 0) (fin (PV fun h' => HH s9 h' ∧ Mo s0 s9) 0 0) 174 [some (.ref 8), some (.ref (p1 + 8)), some (.int y2), some (.int x3), none, none, none, none, some (.int r18)] [.int t19_0, .int x3, .ref (p1 + 2 + 8)] h17 0 0 := by
                intro t19_0 hf
                subst ek19
                obtain ⟨g20, hf⟩ := gd_e hf
                obtain ⟨s21, es21, hf⟩ := st_e hf
                refine aw_is (q := (p1 + 2)) (pc' := 175) es21 H17 (okH.a2 (okH.mo o_p1 ((((ms.tr m13).tr m14).tr m15).tr m17))) g20 dX11_boreOn_174 rfl (fun h21 H21 => ?_)
                have m21 := Mo.ofI es21
                refine aw_iload (pc' := 177) dX11_boreOn_175 rfl rfl ?_
                obtain ⟨k22, ek22, hf⟩ := jn_e hf
                have hk22 : ∀ (s22 : SS) (h22 : List aE), HH s22 h22 → Mo s21 s22 → k22 s22 = some s9 → AW mX11_boreOn (rmD (2) 0 0) (fin (PV fun h' => HH s9 h' ∧ Mo s0 s9) 0 0) 210 [some (.ref 8), some (.ref (p1 + 8)), some (.int y2), some (.int x3), none, none, none, none, none] [] h22 0 0 := by
                  intro s22 h22 H22 m22 hf
                  subst ek22
                  obtain ⟨v23, ev23, hf⟩ := vl_e hf
                  refine aw_iincV (y := v23) (lv' := [_, _, _, _, _, _, _, _, _]) (pc' := 213) dX11_boreOn_210 rfl rfl (Nat.le_of_ble_eq_true rfl) ev23 rfl ?_
                  refine aw_goto (tgt := 7) dX11_boreOn_213 rfl ?_
                  exact ih _ _ _ H22 ((((((ms.tr m13).tr m14).tr m15).tr m17).tr m21).tr m22) hf
                clear ek22
                refine aw_if_eq (tgt := 210) (pc' := 180) dX11_boreOn_177 rfl rfl (fun c24 => ?_) (fun c24 => ?_)
                · replace hf := ifp c24 hf
                  refine AW.lv_le (lz_k (lz_k (lz_k (lz_k (lz_d (lz_d (lz_d (lz_d (lz_d lz_0))))))))) ?_
                  exact hk22 _ _ H21 (Mo.rf _) hf
                · replace hf := ifn c24 hf
                  refine aw_aload_n (pc' := 181) dX11_boreOn_180 rfl rfl rfl ?_
                  refine aw_iconst (v := 1) (pc' := 182) dX11_boreOn_181 rfl ic_1 ?_
                  obtain ⟨s25, es25, hf⟩ := st_e hf
                  refine aw_pi (q := p1) (pc' := 185) es25 H21 (okH.ob (okH.mo o_p1 (((((ms.tr m13).tr m14).tr m15).tr m17).tr m21))) (by decide) rfl dX11_boreOn_182 rfl fl_RX11_174 (by decide) (fun h25 H25 => ?_)
                  have m25 := Mo.ofS es25
                  refine aw_aload_n (pc' := 186) dX11_boreOn_185 rfl rfl rfl ?_
                  refine aw_dup (pc' := 187) dX11_boreOn_186 rfl rfl ?_
                  refine aw_gi (q := 0) (pc' := 190) H25 (H25.fo rfl rfl) (l13 rfl) rfl dX11_boreOn_187 rfl fl_RX11_454 ?_
                  refine aw_iconst (v := 1) (pc' := 191) dX11_boreOn_190 rfl ic_1 ?_
                  refine aw_iadd (pc' := 192) dX11_boreOn_191 rfl ?_
                  obtain ⟨v26, ev26, hf⟩ := vl_e hf
                  refine aw_topi ev26 ?_
                  obtain ⟨s27, es27, hf⟩ := st_e hf
                  refine aw_pi (q := 0) (pc' := 195) es27 H25 (H25.fo rfl rfl) (by decide) rfl dX11_boreOn_192 rfl fl_RX11_454 rfl (fun h27 H27 => ?_)
                  have m27 := Mo.ofS es27
                  refine aw_aload_n (pc' := 196) dX11_boreOn_195 rfl rfl rfl ?_
                  refine aw_aload_n (pc' := 197) dX11_boreOn_196 rfl rfl rfl ?_
                  refine aw_gi (q := 0) (pc' := 200) H27 (H27.fo rfl rfl) (l13 rfl) rfl dX11_boreOn_197 rfl fl_RX11_98 ?_
                  refine aw_aload_n (pc' := 201) dX11_boreOn_200 rfl rfl rfl ?_
                  refine aw_gi (q := 0) (pc' := 204) H27 (H27.fo rfl rfl) (l13 rfl) rfl dX11_boreOn_201 rfl fl_RX11_168 ?_
                  obtain ⟨r28, ec28, hf⟩ := b1_e hf
                  refine aw_callSi (M' := mJ9_min_7cf53) (nc' := 0) (ns' := 0) (pc' := 207) dX11_boreOn_204 rfl ml_RX11_255 kJ9_min_7cf53 (t_J9_min_7cf53 ec28) rfl rfl (Nat.le_of_ble_eq_true rfl) (rokD (by omega) (Nat.le_of_ble_eq_true rfl) (Nat.le_of_ble_eq_true rfl) (Nat.le_of_ble_eq_true rfl)) rfl rfl (fun _ h28 q28 => ?_)
                  obtain ⟨rfl, rfl⟩ := q28
                  obtain ⟨s29, es29, hf⟩ := st_e hf
                  refine aw_pi (q := 0) (pc' := 210) es29 H27 (H27.fo rfl rfl) (by decide) rfl dX11_boreOn_207 rfl fl_RX11_98 rfl (fun h29 H29 => ?_)
                  have m29 := Mo.ofS es29
                  refine AW.lv_le (lz_k (lz_k (lz_k (lz_k (lz_d (lz_d (lz_d (lz_d (lz_d lz_0))))))))) ?_
                  exact hk22 _ _ H29 ((m25.tr m27).tr m29) hf
              clear ek19
              refine aw_if_eq (tgt := 164) (pc' := 160) dX11_boreOn_157 rfl rfl (fun c30 => ?_) (fun c30 => ?_)
              · replace hf := ifp c30 hf
                refine aw_iload (pc' := 166) dX11_boreOn_164 rfl rfl ?_
                refine aw_if_eq (tgt := 173) (pc' := 169) dX11_boreOn_166 rfl rfl (fun c31 => ?_) (fun c31 => ?_)
                · replace hf := ifp c31 hf
                  refine aw_iconst (v := 0) (pc' := 174) dX11_boreOn_173 rfl ic_0 ?_
                  refine AW.lv_le (lz_k (lz_k (lz_k (lz_k (lz_d (lz_d (lz_d (lz_d (lz_k lz_0))))))))) ?_
                  exact hk19 _ hf
                · replace hf := ifn c31 hf
                  refine aw_iconst (v := 1) (pc' := 170) dX11_boreOn_169 rfl ic_1 ?_
                  refine aw_goto (tgt := 174) dX11_boreOn_170 rfl ?_
                  refine AW.lv_le (lz_k (lz_k (lz_k (lz_k (lz_d (lz_d (lz_d (lz_d (lz_k lz_0))))))))) ?_
                  exact hk19 _ hf
              · replace hf := ifn c30 hf
                refine aw_iconst (v := 2) (pc' := 161) dX11_boreOn_160 rfl ic_2 ?_
                refine aw_goto (tgt := 174) dX11_boreOn_161 rfl ?_
                refine AW.lv_le (lz_k (lz_k (lz_k (lz_k (lz_d (lz_d (lz_d (lz_d (lz_k lz_0))))))))) ?_
                exact hk19 _ hf
            · replace hf := ifp c11 hf
              obtain rfl := Option.some.inj hf
              exact aw_rv dX11_boreOn_105 rfl (Nat.le_of_ble_eq_true rfl) (Nat.le_of_ble_eq_true rfl) ⟨H, (mb.tr ms)⟩
          clear ek10
          refine aw_if_eq (tgt := 82) (pc' := 78) dX11_boreOn_75 rfl rfl (fun c32 => ?_) (fun c32 => ?_)
          · replace hf := ifp c32 hf
            refine aw_iload_n (pc' := 83) dX11_boreOn_82 rfl rfl ?_
            refine aw_aload_n (pc' := 84) dX11_boreOn_83 rfl rfl rfl ?_
            refine aw_gr (q := 0) (e := 3) (v := .ref 9) (pc' := 87) H (H.fo rfl rfl) (by decide) rfl rfl dX11_boreOn_84 rfl fl_RX11_10 ?_
            refine aw_gr (q := 1) (e := 3) (v := .ref 10) (pc' := 90) H (H.fo rfl rfl) (by decide) rfl rfl dX11_boreOn_87 rfl fl_RX11_105 ?_
            refine aw_iload (pc' := 92) dX11_boreOn_90 rfl rfl ?_
            obtain ⟨g33, hf⟩ := gd_e hf
            refine aw_ia (q := 2) (pc' := 93) H (H.fa rfl rfl rfl) g33 dX11_boreOn_92 rfl ?_
            refine aw_imul (pc' := 94) dX11_boreOn_93 rfl ?_
            refine AW.lv_le (lz_k (lz_k (lz_k (lz_k (lz_k (lz_d (lz_k (lz_d (lz_d lz_0))))))))) ?_
            exact hk10 _ hf
          · replace hf := ifn c32 hf
            refine aw_iconst (v := 0) (pc' := 79) dX11_boreOn_78 rfl ic_0 ?_
            refine aw_goto (tgt := 94) dX11_boreOn_79 rfl ?_
            refine AW.lv_le (lz_k (lz_k (lz_k (lz_k (lz_k (lz_d (lz_k (lz_d (lz_d lz_0))))))))) ?_
            exact hk10 _ hf
        clear ek8
        refine aw_icmp_ne (tgt := 70) (pc' := 66) dX11_boreOn_63 rfl rfl (fun c34 => ?_) (fun c34 => ?_)
        · replace hf := ifn c34 hf
          refine aw_iconst (v := 0) (pc' := 71) dX11_boreOn_70 rfl ic_0 ?_
          exact hk8 _ hf
        · replace hf := ifp c34 hf
          refine aw_iconst (v := 1) (pc' := 67) dX11_boreOn_66 rfl ic_1 ?_
          refine aw_goto (tgt := 71) dX11_boreOn_67 rfl ?_
          exact hk8 _ hf
noncomputable def f_X11_boreOn (s0 : SS) (pa0 : Nat) (a1 : Int32) : Option SS := (vl (((zS s0 pa0 4) + (1 : Int32))) fun v1 => (f_X11_boreOn_L7 pa0 a1 4000 s0 v1))
set_option maxRecDepth 4000 in
theorem t_X11_boreOn {s0 s9 : SS} {h0 : List aE} {pa0 : Nat} {a1 : Int32} (H0 : HH s0 h0) (o_pa0 : okH s0 pa0) (hf : f_X11_boreOn s0 pa0 a1 = some s9) : AM mX11_boreOn (2) [.ref 8, .ref (pa0 + 8), .int a1] h0 0 0 (PV fun h' => HH s9 h' ∧ Mo s0 s9) := by
  unfold f_X11_boreOn at hf
  refine am_of (lv := [some (.ref 8), some (.ref (pa0 + 8)), some (.int a1), none, none, none, none, none, none]) rfl (Nat.le_of_ble_eq_true rfl) rfl ?_
  refine aw_aload_n (pc' := 1) dX11_boreOn_0 rfl rfl rfl ?_
  refine aw_gi (q := pa0) (pc' := 4) H0 (okH.ob o_pa0) (by decide) rfl dX11_boreOn_1 rfl fl_RX11_184 ?_
  refine aw_iconst (v := 1) (pc' := 5) dX11_boreOn_4 rfl ic_1 ?_
  refine aw_iadd (pc' := 6) dX11_boreOn_5 rfl ?_
  obtain ⟨v1, ev1, hf⟩ := vl_e hf
  refine aw_topi ev1 ?_
  refine aw_istore_n (lv' := [_, _, _, _, _, _, _, _, _]) (pc' := 7) dX11_boreOn_6 rfl (Nat.le_of_ble_eq_true rfl) rfl ?_
  refine t_X11_boreOn_L7 (Mo.rf _) o_pa0  4000 _ _ _ H0 (Mo.rf _) hf
/-! ThirtyThreeBelow.machinesWork -/
noncomputable def f_X11_machinesWork_L2_b  (rc : SS → Int32 → Option SS) (s : SS) (x1 : Int32) : Option SS := (if x1 < (3 : Int32) then (gd (inB x1 3) (on (zR s 19 (x1.toInt.toNat)) none fun p3 => (b1 (f_X0_holeOf s (zS s p3 1)) fun r4 => (on r4 (vl (x1 + 1) fun v5 => (rc s v5)) fun p4 => (gd (inB x1 3) (on (zR s 19 (x1.toInt.toNat)) none fun p7 => (if (zS s p7 2) < (zS s 0 14) then (vl (((zS s p4 5) + (60 : Int32))) fun v11 => (st (pS s p4 5 v11) fun s12 => (gd (inB x1 3) (on (zR s12 19 (x1.toInt.toNat)) none fun p14 => (b1 (f_X11_boreOn s12 p4 (zS s12 p14 0)) fun s15 => (vl (x1 + 1) fun v16 => (rc s15 v16))))))) else (vl (x1 + 1) fun v10 => (rc s v10))))))))) else some s)
noncomputable def f_X11_machinesWork_L2  : Nat → SS → Int32 → Option SS
  | 0, _, _ => none
  | n + 1, s, x1 => f_X11_machinesWork_L2_b  (f_X11_machinesWork_L2  n) s x1
set_option maxRecDepth 4000 in
theorem t_X11_machinesWork_L2 {s0 sb s9 : SS} (mb : Mo s0 sb)  : ∀ (n : Nat) (s : SS) (h : List aE) (x1 : Int32), HH s h → Mo sb s → f_X11_machinesWork_L2  n s x1 = some s9 → AW mX11_machinesWork (rmD (3) 0 0) (fin (PV fun h' => HH s9 h' ∧ Mo s0 s9) 0 0) 2 [some (.ref 8), some (.int x1), none] [] h 0 0 := by
  intro n
  induction n with
  | zero =>
    intro s h x1 H ms hf
    cases hf
  | succ n ih =>
    intro s h x1 H ms hf
    replace hf : f_X11_machinesWork_L2_b  (f_X11_machinesWork_L2  n) s x1 = some s9 := hf
    unfold f_X11_machinesWork_L2_b at hf
    refine aw_iload_n (pc' := 3) dX11_machinesWork_2 rfl rfl ?_
    refine aw_iconst (v := 3) (pc' := 4) dX11_machinesWork_3 rfl ic_3 ?_
    refine aw_cge (tgt := 75) (pc' := 7) dX11_machinesWork_4 rfl rfl (fun c1 => ?_) (fun c1 => ?_)
    · replace hf := ifn c1 hf
      obtain rfl := Option.some.inj hf
      exact aw_rv dX11_machinesWork_75 rfl (Nat.le_of_ble_eq_true rfl) (Nat.le_of_ble_eq_true rfl) ⟨H, (mb.tr ms)⟩
    · replace hf := ifp c1 hf
      refine aw_aload_n (pc' := 8) dX11_machinesWork_7 rfl rfl rfl ?_
      refine aw_gr (q := 0) (e := 31) (v := .ref 23) (pc' := 11) H (H.fo rfl rfl) (by decide) rfl rfl dX11_machinesWork_8 rfl fl_RX11_28 ?_
      refine aw_aload_n (pc' := 12) dX11_machinesWork_11 rfl rfl rfl ?_
      refine aw_gr (q := 0) (e := 39) (v := .ref 27) (pc' := 15) H (H.fo rfl rfl) (by decide) rfl rfl dX11_machinesWork_12 rfl fl_RX11_34 ?_
      refine aw_iload_n (pc' := 16) dX11_machinesWork_15 rfl rfl ?_
      obtain ⟨g2, hf⟩ := gd_e hf
      replace hf := on_e hf
      rcases hf with ⟨eo3, hf⟩ | ⟨p3, eo3, hf⟩
      · refine aw_ra_ (q := 19) (t := 5) (pc' := 17) H (H.fa rfl rfl rfl) (by decide) (by decide) rfl g2 eo3 dX11_machinesWork_16 rfl ?_
        show AW _ _ _ _ _ (Value.null :: _) _ _ _
        cases hf
      · refine aw_ra_ (q := 19) (t := 5) (pc' := 17) H (H.fa rfl rfl rfl) (by decide) (by decide) rfl g2 eo3 dX11_machinesWork_16 rfl ?_
        show AW _ _ _ _ _ (Value.ref (p3 + 8) :: _) _ _ _
        have o_p3 : okM p3 := (ok4 H g2 eo3)
        refine aw_gi (q := p3) (pc' := 20) H (okM.ob o_p3 H) (by decide) rfl dX11_machinesWork_17 rfl fl_RX11_165 ?_
        obtain ⟨r4, ec4, hf⟩ := b1_e hf
        replace hf := on_e hf
        rcases hf with ⟨rfl, hf⟩ | ⟨p4, rfl, hf⟩
        · refine aw_callVa (M' := mX0_holeOf) (nc' := 0) (ns' := 0) (pc' := 23) dX11_machinesWork_20 rfl ml_RX11_139 kX0_holeOf (t_X0_holeOf H ec4) (H.ob (H.fo rfl rfl) (by decide)) rfl rfl rfl (Nat.le_of_ble_eq_true rfl) (rokD (by omega) (Nat.le_of_ble_eq_true rfl) (Nat.le_of_ble_eq_true rfl) (Nat.le_of_ble_eq_true rfl)) rfl rfl (fun _ h4 q4 => ?_)
          obtain ⟨rfl, rfl, oo4⟩ := q4
          show AW _ _ _ _ _ (Value.null :: _) _ _ _
          refine aw_astore_n (lv' := [_, _, _]) (pc' := 24) dX11_machinesWork_23 rfl (Nat.le_of_ble_eq_true rfl) rfl rfl ?_
          refine aw_aload_n (pc' := 25) dX11_machinesWork_24 rfl rfl rfl ?_
          refine aw_ifnull_n (tgt := 69) dX11_machinesWork_25 (by decide) ?_
          obtain ⟨v5, ev5, hf⟩ := vl_e hf
          refine aw_iincV (y := v5) (lv' := [_, _, _]) (pc' := 72) dX11_machinesWork_69 rfl rfl (Nat.le_of_ble_eq_true rfl) ev5 rfl ?_
          refine aw_goto (tgt := 2) dX11_machinesWork_72 rfl ?_
          refine AW.lv_le (lz_k (lz_k (lz_d lz_0))) ?_
          exact ih _ _ _ H ms hf
        · refine aw_callVa (M' := mX0_holeOf) (nc' := 0) (ns' := 0) (pc' := 23) dX11_machinesWork_20 rfl ml_RX11_139 kX0_holeOf (t_X0_holeOf H ec4) (H.ob (H.fo rfl rfl) (by decide)) rfl rfl rfl (Nat.le_of_ble_eq_true rfl) (rokD (by omega) (Nat.le_of_ble_eq_true rfl) (Nat.le_of_ble_eq_true rfl) (Nat.le_of_ble_eq_true rfl)) rfl rfl (fun _ h4 q4 => ?_)
          obtain ⟨rfl, rfl, oo4⟩ := q4
          show AW _ _ _ _ _ (Value.ref (p4 + 8) :: _) _ _ _
          have o_p4 : okH s p4 := oo4 _ rfl
          refine aw_astore_n (lv' := [_, _, _]) (pc' := 24) dX11_machinesWork_23 rfl (Nat.le_of_ble_eq_true rfl) rfl rfl ?_
          refine aw_aload_n (pc' := 25) dX11_machinesWork_24 rfl rfl rfl ?_
          refine aw_ifnull_r (pc' := 28) dX11_machinesWork_25 rfl ?_
          refine aw_aload_n (pc' := 29) dX11_machinesWork_28 rfl rfl rfl ?_
          refine aw_gi (q := 0) (pc' := 32) H (H.fo rfl rfl) (by decide) rfl dX11_machinesWork_29 rfl fl_RX11_168 ?_
          refine aw_aload_n (pc' := 33) dX11_machinesWork_32 rfl rfl rfl ?_
          refine aw_gr (q := 0) (e := 39) (v := .ref 27) (pc' := 36) H (H.fo rfl rfl) (by decide) rfl rfl dX11_machinesWork_33 rfl fl_RX11_34 ?_
          refine aw_iload_n (pc' := 37) dX11_machinesWork_36 rfl rfl ?_
          obtain ⟨g6, hf⟩ := gd_e hf
          replace hf := on_e hf
          rcases hf with ⟨eo7, hf⟩ | ⟨p7, eo7, hf⟩
          · refine aw_ra_ (q := 19) (t := 5) (pc' := 38) H (H.fa rfl rfl rfl) (by decide) (by decide) rfl g6 eo7 dX11_machinesWork_37 rfl ?_
            show AW _ _ _ _ _ (Value.null :: _) _ _ _
            cases hf
          · refine aw_ra_ (q := 19) (t := 5) (pc' := 38) H (H.fa rfl rfl rfl) (by decide) (by decide) rfl g6 eo7 dX11_machinesWork_37 rfl ?_
            show AW _ _ _ _ _ (Value.ref (p7 + 8) :: _) _ _ _
            have o_p7 : okM p7 := (ok4 H g6 eo7)
            refine aw_gi (q := p7) (pc' := 41) H (okM.ob o_p7 H) (by decide) rfl dX11_machinesWork_38 rfl fl_RX11_171 ?_
            refine aw_cle (tgt := 69) (pc' := 44) dX11_machinesWork_41 rfl rfl (fun c8 => ?_) (fun c8 => ?_)
            · replace hf := ifn c8 hf
              obtain ⟨v10, ev10, hf⟩ := vl_e hf
              refine aw_iincV (y := v10) (lv' := [_, _, _]) (pc' := 72) dX11_machinesWork_69 rfl rfl (Nat.le_of_ble_eq_true rfl) ev10 rfl ?_
              refine aw_goto (tgt := 2) dX11_machinesWork_72 rfl ?_
              refine AW.lv_le (lz_k (lz_k (lz_d lz_0))) ?_
              exact ih _ _ _ H ms hf
            · replace hf := ifp c8 hf
              refine aw_aload_n (pc' := 45) dX11_machinesWork_44 rfl rfl rfl ?_
              refine aw_dup (pc' := 46) dX11_machinesWork_45 rfl rfl ?_
              refine aw_gi (q := p4) (pc' := 49) H (okH.ob o_p4) (by decide) rfl dX11_machinesWork_46 rfl fl_RX11_375 ?_
              refine aw_bipush (v := 60) (pc' := 51) dX11_machinesWork_49 rfl bp_60 ?_
              refine aw_iadd (pc' := 52) dX11_machinesWork_51 rfl ?_
              obtain ⟨v11, ev11, hf⟩ := vl_e hf
              refine aw_topi ev11 ?_
              obtain ⟨s12, es12, hf⟩ := st_e hf
              refine aw_pi (q := p4) (pc' := 55) es12 H (okH.ob o_p4) (by decide) rfl dX11_machinesWork_52 rfl fl_RX11_375 rfl (fun h12 H12 => ?_)
              have m12 := Mo.ofS es12
              refine aw_aload_n (pc' := 56) dX11_machinesWork_55 rfl rfl rfl ?_
              refine aw_aload_n (pc' := 57) dX11_machinesWork_56 rfl rfl rfl ?_
              refine aw_aload_n (pc' := 58) dX11_machinesWork_57 rfl rfl rfl ?_
              refine aw_gr (q := 0) (e := 39) (v := .ref 27) (pc' := 61) H12 (H12.fo rfl rfl) (l13 rfl) rfl rfl dX11_machinesWork_58 rfl fl_RX11_34 ?_
              refine aw_iload_n (pc' := 62) dX11_machinesWork_61 rfl rfl ?_
              obtain ⟨g13, hf⟩ := gd_e hf
              replace hf := on_e hf
              rcases hf with ⟨eo14, hf⟩ | ⟨p14, eo14, hf⟩
              · refine aw_ra_ (q := 19) (t := 5) (pc' := 63) H12 (H12.fa rfl rfl rfl) (by decide) (by decide) rfl g13 eo14 dX11_machinesWork_62 rfl ?_
                show AW _ _ _ _ _ (Value.null :: _) _ _ _
                cases hf
              · refine aw_ra_ (q := 19) (t := 5) (pc' := 63) H12 (H12.fa rfl rfl rfl) (by decide) (by decide) rfl g13 eo14 dX11_machinesWork_62 rfl ?_
                show AW _ _ _ _ _ (Value.ref (p14 + 8) :: _) _ _ _
                have o_p14 : okM p14 := (ok4 H12 g13 eo14)
                refine aw_gi (q := p14) (pc' := 66) H12 (okM.ob o_p14 H12) (by decide) rfl dX11_machinesWork_63 rfl fl_RX11_162 ?_
                obtain ⟨s15, ec15, hf⟩ := b1_e hf
                refine aw_callVv (M' := mX11_boreOn) (nc' := 0) (ns' := 0) (pc' := 69) dX11_machinesWork_66 rfl ml_RX11_512 kX11_boreOn (t_X11_boreOn H12 (okH.mo o_p4 m12) ec15) (H12.ob (H12.fo rfl rfl) (by decide)) rfl rfl rfl (Nat.le_of_ble_eq_true rfl) (rokD (by omega) (Nat.le_of_ble_eq_true rfl) (Nat.le_of_ble_eq_true rfl) (Nat.le_of_ble_eq_true rfl)) rfl rfl (fun h15 q15 => ?_)
                obtain ⟨H15, m15⟩ := q15
                obtain ⟨v16, ev16, hf⟩ := vl_e hf
                refine aw_iincV (y := v16) (lv' := [_, _, _]) (pc' := 72) dX11_machinesWork_69 rfl rfl (Nat.le_of_ble_eq_true rfl) ev16 rfl ?_
                refine aw_goto (tgt := 2) dX11_machinesWork_72 rfl ?_
                refine AW.lv_le (lz_k (lz_k (lz_d lz_0))) ?_
                exact ih _ _ _ H15 ((ms.tr m12).tr m15) hf
noncomputable def f_X11_machinesWork (s0 : SS)  : Option SS := (f_X11_machinesWork_L2 4000 s0 0)
set_option maxRecDepth 4000 in
theorem t_X11_machinesWork {s0 s9 : SS} {h0 : List aE}  (H0 : HH s0 h0) (hf : f_X11_machinesWork s0 = some s9) : AM mX11_machinesWork (3) [.ref 8] h0 0 0 (PV fun h' => HH s9 h' ∧ Mo s0 s9) := by
  unfold f_X11_machinesWork at hf
  refine am_of (lv := [some (.ref 8), none, none]) rfl (Nat.le_of_ble_eq_true rfl) rfl ?_
  refine aw_iconst (v := 0) (pc' := 1) dX11_machinesWork_0 rfl ic_0 ?_
  refine aw_istore_n (lv' := [_, _, _]) (pc' := 2) dX11_machinesWork_1 rfl (Nat.le_of_ble_eq_true rfl) rfl ?_
  refine t_X11_machinesWork_L2 (Mo.rf _)  4000 _ _ _ H0 (Mo.rf _) hf
/-! ThirtyThreeBelow.menEat -/
noncomputable def f_X11_menEat_L17_b (y1 : Int32) (rc : SS → Int32 → Option SS) (s : SS) (x2 : Int32) : Option SS := (if x2 < (zS s 15 3) then (gd (inB x2 120) (jn (fun (s4 : SS)  => (vl (x2 + 1) fun v5 => (rc s4 v5))) fun k4 => (if (zI s 10 (x2.toInt.toNat)) = (1 : Int32) then (bd (f_X11_given s y1 0 x2) fun r7 s7 => (b1 (f_X11_held r7 (0 : Int32) (9 : Int32)) fun r8 => (bd (f_X9_eats s7 r8) fun r10 s10 => (gd (inB x2 120) (b1 (f_X2_afterDay (zI s10 7 (x2.toInt.toNat)) r10) fun r12 => (gd (inB x2 120) (st (pI s10 7 (x2.toInt.toNat) r12) fun s14 => (k4 s14)))))))) else (k4 s)))) else some s)
noncomputable def f_X11_menEat_L17 (y1 : Int32) : Nat → SS → Int32 → Option SS
  | 0, _, _ => none
  | n + 1, s, x2 => f_X11_menEat_L17_b y1 (f_X11_menEat_L17 y1 n) s x2
set_option maxRecDepth 4000 in
theorem t_X11_menEat_L17 {s0 sb s9 : SS} {y1 : Int32} (mb : Mo s0 sb)  : ∀ (n : Nat) (s : SS) (h : List aE) (x2 : Int32), HH s h → Mo sb s → f_X11_menEat_L17 y1 n s x2 = some s9 → AW mX11_menEat (rmD (3) 0 0) (fin (PV fun h' => HH s9 h' ∧ Mo s0 s9) 0 0) 17 [some (.ref 8), some (.int y1), some (.int x2), none] [] h 0 0 := by
  intro n
  induction n with
  | zero =>
    intro s h x2 H ms hf
    cases hf
  | succ n ih =>
    intro s h x2 H ms hf
    replace hf : f_X11_menEat_L17_b y1 (f_X11_menEat_L17 y1 n) s x2 = some s9 := hf
    unfold f_X11_menEat_L17_b at hf
    refine aw_iload_n (pc' := 18) dX11_menEat_17 rfl rfl ?_
    refine aw_aload_n (pc' := 19) dX11_menEat_18 rfl rfl rfl ?_
    refine aw_gr (q := 0) (e := 31) (v := .ref 23) (pc' := 22) H (H.fo rfl rfl) (by decide) rfl rfl dX11_menEat_19 rfl fl_RX11_28 ?_
    refine aw_gi (q := 15) (pc' := 25) H (H.fo rfl rfl) (by decide) rfl dX11_menEat_22 rfl fl_RX11_381 ?_
    refine aw_cge (tgt := 90) (pc' := 28) dX11_menEat_25 rfl rfl (fun c2 => ?_) (fun c2 => ?_)
    · replace hf := ifn c2 hf
      obtain rfl := Option.some.inj hf
      exact aw_rv dX11_menEat_90 rfl (Nat.le_of_ble_eq_true rfl) (Nat.le_of_ble_eq_true rfl) ⟨H, (mb.tr ms)⟩
    · replace hf := ifp c2 hf
      refine aw_aload_n (pc' := 29) dX11_menEat_28 rfl rfl rfl ?_
      refine aw_gr (q := 0) (e := 13) (v := .ref 14) (pc' := 32) H (H.fo rfl rfl) (by decide) rfl rfl dX11_menEat_29 rfl fl_RX11_19 ?_
      refine aw_gr (q := 6) (e := 9) (v := .ref 18) (pc' := 35) H (H.fo rfl rfl) (by decide) rfl rfl dX11_menEat_32 rfl fl_RX11_384 ?_
      refine aw_iload_n (pc' := 36) dX11_menEat_35 rfl rfl ?_
      obtain ⟨g3, hf⟩ := gd_e hf
      refine aw_ia (q := 10) (pc' := 37) H (H.fa rfl rfl rfl) g3 dX11_menEat_36 rfl ?_
      refine aw_iconst (v := 1) (pc' := 38) dX11_menEat_37 rfl ic_1 ?_
      obtain ⟨k4, ek4, hf⟩ := jn_e hf
      have hk4 : ∀ (s4 : SS) (h4 : List aE), HH s4 h4 → Mo s s4 → k4 s4 = some s9 → AW mX11_menEat (rmD (3) 0 0) (fin (PV fun h' => HH s9 h' ∧ Mo s0 s9) 0 0) 84 [some (.ref 8), some (.int y1), some (.int x2), none] [] h4 0 0 := by
        intro s4 h4 H4 m4 hf
        subst ek4
        obtain ⟨v5, ev5, hf⟩ := vl_e hf
        refine aw_iincV (y := v5) (lv' := [_, _, _, _]) (pc' := 87) dX11_menEat_84 rfl rfl (Nat.le_of_ble_eq_true rfl) ev5 rfl ?_
        refine aw_goto (tgt := 17) dX11_menEat_87 rfl ?_
        exact ih _ _ _ H4 (ms.tr m4) hf
      clear ek4
      refine aw_icmp_ne (tgt := 84) (pc' := 41) dX11_menEat_38 rfl rfl (fun c6 => ?_) (fun c6 => ?_)
      · replace hf := ifn c6 hf
        exact hk4 _ _ H (Mo.rf _) hf
      · replace hf := ifp c6 hf
        refine aw_aload_n (pc' := 42) dX11_menEat_41 rfl rfl rfl ?_
        refine aw_gr (q := 0) (e := 61) (v := .ref 38) (pc' := 45) H (H.fo rfl rfl) (by decide) rfl rfl dX11_menEat_42 rfl fl_RX11_76 ?_
        refine aw_aload_n (pc' := 46) dX11_menEat_45 rfl rfl rfl ?_
        refine aw_iload_n (pc' := 47) dX11_menEat_46 rfl rfl ?_
        refine aw_iconst (v := 0) (pc' := 48) dX11_menEat_47 rfl ic_0 ?_
        refine aw_iload_n (pc' := 49) dX11_menEat_48 rfl rfl ?_
        obtain ⟨r7, s7, ec7, hf⟩ := bd_e hf
        refine aw_callVi (M' := mX11_given) (nc' := 0) (ns' := 0) (pc' := 52) dX11_menEat_49 rfl ml_RX11_289 kX11_given (t_X11_given H ec7) (H.ob (H.fo rfl rfl) (by decide)) rfl rfl rfl (Nat.le_of_ble_eq_true rfl) (rokD (by omega) (Nat.le_of_ble_eq_true rfl) (Nat.le_of_ble_eq_true rfl) (Nat.le_of_ble_eq_true rfl)) rfl rfl (fun _ h7 q7 => ?_)
        obtain ⟨rfl, H7, m7⟩ := q7
        refine aw_iconst (v := 0) (pc' := 53) dX11_menEat_52 rfl ic_0 ?_
        refine aw_bipush (v := 9) (pc' := 55) dX11_menEat_53 rfl bp_9 ?_
        obtain ⟨r8, ec8, hf⟩ := b1_e hf
        refine aw_callSi (M' := mX11_held) (nc' := 0) (ns' := 0) (pc' := 58) dX11_menEat_55 rfl ml_RX11_466 kX11_held (t_X11_held ec8) rfl rfl (Nat.le_of_ble_eq_true rfl) (rokD (by omega) (Nat.le_of_ble_eq_true rfl) (Nat.le_of_ble_eq_true rfl) (Nat.le_of_ble_eq_true rfl)) rfl rfl (fun _ h8 q8 => ?_)
        obtain ⟨rfl, rfl⟩ := q8
        obtain ⟨r10, s10, ec10, hf⟩ := bd_e hf
        refine aw_callVi (M' := mX9_eats) (nc' := 0) (ns' := 0) (pc' := 61) dX11_menEat_58 rfl ml_RX11_522 kX9_eats (t_X9_eats H7 ec10) (H7.ob (H7.fo rfl rfl) (by decide)) rfl rfl rfl (Nat.le_of_ble_eq_true rfl) (rokD (by omega) (Nat.le_of_ble_eq_true rfl) (Nat.le_of_ble_eq_true rfl) (Nat.le_of_ble_eq_true rfl)) rfl rfl (fun _ h10 q10 => ?_)
        obtain ⟨rfl, H10, m10⟩ := q10
        refine aw_istore_n (lv' := [_, _, _, _]) (pc' := 62) dX11_menEat_61 rfl (Nat.le_of_ble_eq_true rfl) rfl ?_
        refine aw_aload_n (pc' := 63) dX11_menEat_62 rfl rfl rfl ?_
        refine aw_gr (q := 0) (e := 13) (v := .ref 14) (pc' := 66) H10 (H10.fo rfl rfl) (l13 rfl) rfl rfl dX11_menEat_63 rfl fl_RX11_19 ?_
        refine aw_gr (q := 6) (e := 3) (v := .ref 15) (pc' := 69) H10 (H10.fo rfl rfl) (l13 rfl) rfl rfl dX11_menEat_66 rfl fl_RX11_489 ?_
        refine aw_iload_n (pc' := 70) dX11_menEat_69 rfl rfl ?_
        refine aw_aload_n (pc' := 71) dX11_menEat_70 rfl rfl rfl ?_
        refine aw_gr (q := 0) (e := 13) (v := .ref 14) (pc' := 74) H10 (H10.fo rfl rfl) (l13 rfl) rfl rfl dX11_menEat_71 rfl fl_RX11_19 ?_
        refine aw_gr (q := 6) (e := 3) (v := .ref 15) (pc' := 77) H10 (H10.fo rfl rfl) (l13 rfl) rfl rfl dX11_menEat_74 rfl fl_RX11_489 ?_
        refine aw_iload_n (pc' := 78) dX11_menEat_77 rfl rfl ?_
        obtain ⟨g11, hf⟩ := gd_e hf
        refine aw_ia (q := 7) (pc' := 79) H10 (H10.fa rfl rfl rfl) g11 dX11_menEat_78 rfl ?_
        refine aw_iload_n (pc' := 80) dX11_menEat_79 rfl rfl ?_
        obtain ⟨r12, ec12, hf⟩ := b1_e hf
        refine aw_callSi (M' := mX2_afterDay) (nc' := 0) (ns' := 0) (pc' := 83) dX11_menEat_80 rfl ml_RX11_525 kX2_afterDay (t_X2_afterDay ec12) rfl rfl (Nat.le_of_ble_eq_true rfl) (rokD (by omega) (Nat.le_of_ble_eq_true rfl) (Nat.le_of_ble_eq_true rfl) (Nat.le_of_ble_eq_true rfl)) rfl rfl (fun _ h12 q12 => ?_)
        obtain ⟨rfl, rfl⟩ := q12
        obtain ⟨g13, hf⟩ := gd_e hf
        obtain ⟨s14, es14, hf⟩ := st_e hf
        refine aw_is (q := 7) (pc' := 84) es14 H10 (H10.fa rfl rfl rfl) g13 dX11_menEat_83 rfl (fun h14 H14 => ?_)
        have m14 := Mo.ofI es14
        refine AW.lv_le (lz_k (lz_k (lz_k (lz_d lz_0)))) ?_
        exact hk4 _ _ H14 ((m7.tr m10).tr m14) hf
noncomputable def f_X11_menEat (s0 : SS)  : Option SS := (b1 (f_X11_latestText s0 1 0 (zS s0 0 14) (zS s0 0 14)) fun r1 => (f_X11_menEat_L17 r1 4000 s0 0))
set_option maxRecDepth 4000 in
theorem t_X11_menEat {s0 s9 : SS} {h0 : List aE}  (H0 : HH s0 h0) (hf : f_X11_menEat s0 = some s9) : AM mX11_menEat (3) [.ref 8] h0 0 0 (PV fun h' => HH s9 h' ∧ Mo s0 s9) := by
  unfold f_X11_menEat at hf
  refine am_of (lv := [some (.ref 8), none, none, none]) rfl (Nat.le_of_ble_eq_true rfl) rfl ?_
  refine aw_aload_n (pc' := 1) dX11_menEat_0 rfl rfl rfl ?_
  refine aw_iconst (v := 1) (pc' := 2) dX11_menEat_1 rfl ic_1 ?_
  refine aw_iconst (v := 0) (pc' := 3) dX11_menEat_2 rfl ic_0 ?_
  refine aw_aload_n (pc' := 4) dX11_menEat_3 rfl rfl rfl ?_
  refine aw_gi (q := 0) (pc' := 7) H0 (H0.fo rfl rfl) (l13 rfl) rfl dX11_menEat_4 rfl fl_RX11_168 ?_
  refine aw_aload_n (pc' := 8) dX11_menEat_7 rfl rfl rfl ?_
  refine aw_gi (q := 0) (pc' := 11) H0 (H0.fo rfl rfl) (l13 rfl) rfl dX11_menEat_8 rfl fl_RX11_168 ?_
  obtain ⟨r1, ec1, hf⟩ := b1_e hf
  refine aw_callVi (M' := mX11_latestText) (nc' := 0) (ns' := 0) (pc' := 14) dX11_menEat_11 rfl ml_RX11_285 kX11_latestText (t_X11_latestText H0 ec1) (H0.ob (H0.fo rfl rfl) (by decide)) rfl rfl rfl (Nat.le_of_ble_eq_true rfl) (rokD (by omega) (Nat.le_of_ble_eq_true rfl) (Nat.le_of_ble_eq_true rfl) (Nat.le_of_ble_eq_true rfl)) rfl rfl (fun _ h1 q1 => ?_)
  obtain ⟨rfl, rfl⟩ := q1
  refine aw_istore_n (lv' := [_, _, _, _]) (pc' := 15) dX11_menEat_14 rfl (Nat.le_of_ble_eq_true rfl) rfl ?_
  refine aw_iconst (v := 0) (pc' := 16) dX11_menEat_15 rfl ic_0 ?_
  refine aw_istore_n (lv' := [_, _, _, _]) (pc' := 17) dX11_menEat_16 rfl (Nat.le_of_ble_eq_true rfl) rfl ?_
  refine t_X11_menEat_L17 (Mo.rf _)  4000 _ _ _ H0 (Mo.rf _) hf
/-! ThirtyThreeBelow.rockMoves -/
noncomputable def f_X11_rockMoves_L2_b  (rc : SS → Int32 → Option SS) (s : SS) (x1 : Int32) : Option SS := (if x1 < (zS s 1 4) then (gd (inB x1 60) (vl ((zI s 4 (x1.toInt.toNat))) fun v3 => (b1 (f_X11_placeOf v3) fun r4 => (gd (inB x1 60) (jn (fun (s6 : SS)  => (vl (x1 + 1) fun v7 => (rc s6 v7))) fun k6 => (if (zI s 5 (x1.toInt.toNat)) = (zS s 0 14) then (if r4 < (0 : Int32) then (k6 s) else (gd (inB r4 1920) (st (pI s 3 (r4.toInt.toNat) 0) fun s12 => (gd (inB r4 1920) (st (pI s12 2 (r4.toInt.toNat) 9) fun s14 => (b1 (f_X0_isRefuge s14 (v3 / (100 : Int32)) (v3 % (100 : Int32))) fun r15 => (if r15 = (0 : Int32) then (k6 s14) else (st (pS s14 15 9 1) fun s17 => (k6 s17))))))))) else (k6 s))))))) else some s)
noncomputable def f_X11_rockMoves_L2  : Nat → SS → Int32 → Option SS
  | 0, _, _ => none
  | n + 1, s, x1 => f_X11_rockMoves_L2_b  (f_X11_rockMoves_L2  n) s x1
set_option maxRecDepth 4000 in
theorem t_X11_rockMoves_L2 {s0 sb s9 : SS} (mb : Mo s0 sb)  : ∀ (n : Nat) (s : SS) (h : List aE) (x1 : Int32), HH s h → Mo sb s → f_X11_rockMoves_L2  n s x1 = some s9 → AW mX11_rockMoves (rmD (2) 0 0) (fin (PV fun h' => HH s9 h' ∧ Mo s0 s9) 0 0) 2 [some (.ref 8), some (.int x1), none, none] [] h 0 0 := by
  intro n
  induction n with
  | zero =>
    intro s h x1 H ms hf
    cases hf
  | succ n ih =>
    intro s h x1 H ms hf
    replace hf : f_X11_rockMoves_L2_b  (f_X11_rockMoves_L2  n) s x1 = some s9 := hf
    unfold f_X11_rockMoves_L2_b at hf
    refine aw_iload_n (pc' := 3) dX11_rockMoves_2 rfl rfl ?_
    refine aw_aload_n (pc' := 4) dX11_rockMoves_3 rfl rfl rfl ?_
    refine aw_gr (q := 0) (e := 3) (v := .ref 9) (pc' := 7) H (H.fo rfl rfl) (by decide) rfl rfl dX11_rockMoves_4 rfl fl_RX11_10 ?_
    refine aw_gi (q := 1) (pc' := 10) H (H.fo rfl rfl) (by decide) rfl dX11_rockMoves_7 rfl fl_RX11_528 ?_
    refine aw_cge (tgt := 101) (pc' := 13) dX11_rockMoves_10 rfl rfl (fun c1 => ?_) (fun c1 => ?_)
    · replace hf := ifn c1 hf
      obtain rfl := Option.some.inj hf
      exact aw_rv dX11_rockMoves_101 rfl (Nat.le_of_ble_eq_true rfl) (Nat.le_of_ble_eq_true rfl) ⟨H, (mb.tr ms)⟩
    · replace hf := ifp c1 hf
      refine aw_aload_n (pc' := 14) dX11_rockMoves_13 rfl rfl rfl ?_
      refine aw_gr (q := 0) (e := 3) (v := .ref 9) (pc' := 17) H (H.fo rfl rfl) (by decide) rfl rfl dX11_rockMoves_14 rfl fl_RX11_10 ?_
      refine aw_gr (q := 1) (e := 7) (v := .ref 12) (pc' := 20) H (H.fo rfl rfl) (by decide) rfl rfl dX11_rockMoves_17 rfl fl_RX11_531 ?_
      refine aw_iload_n (pc' := 21) dX11_rockMoves_20 rfl rfl ?_
      obtain ⟨g2, hf⟩ := gd_e hf
      refine aw_ia (q := 4) (pc' := 22) H (H.fa rfl rfl rfl) g2 dX11_rockMoves_21 rfl ?_
      obtain ⟨v3, ev3, hf⟩ := vl_e hf
      refine aw_topi ev3 ?_
      refine aw_istore_n (lv' := [_, _, _, _]) (pc' := 23) dX11_rockMoves_22 rfl (Nat.le_of_ble_eq_true rfl) rfl ?_
      refine aw_iload_n (pc' := 24) dX11_rockMoves_23 rfl rfl ?_
      obtain ⟨r4, ec4, hf⟩ := b1_e hf
      refine aw_callSi (M' := mX11_placeOf) (nc' := 0) (ns' := 0) (pc' := 27) dX11_rockMoves_24 rfl ml_RX11_101 kX11_placeOf (t_X11_placeOf ec4) rfl rfl (Nat.le_of_ble_eq_true rfl) (rokD (by omega) (Nat.le_of_ble_eq_true rfl) (Nat.le_of_ble_eq_true rfl) (Nat.le_of_ble_eq_true rfl)) rfl rfl (fun _ h4 q4 => ?_)
      obtain ⟨rfl, rfl⟩ := q4
      refine aw_istore_n (lv' := [_, _, _, _]) (pc' := 28) dX11_rockMoves_27 rfl (Nat.le_of_ble_eq_true rfl) rfl ?_
      refine aw_aload_n (pc' := 29) dX11_rockMoves_28 rfl rfl rfl ?_
      refine aw_gr (q := 0) (e := 3) (v := .ref 9) (pc' := 32) H (H.fo rfl rfl) (by decide) rfl rfl dX11_rockMoves_29 rfl fl_RX11_10 ?_
      refine aw_gr (q := 1) (e := 9) (v := .ref 13) (pc' := 35) H (H.fo rfl rfl) (by decide) rfl rfl dX11_rockMoves_32 rfl fl_RX11_534 ?_
      refine aw_iload_n (pc' := 36) dX11_rockMoves_35 rfl rfl ?_
      obtain ⟨g5, hf⟩ := gd_e hf
      refine aw_ia (q := 5) (pc' := 37) H (H.fa rfl rfl rfl) g5 dX11_rockMoves_36 rfl ?_
      refine aw_aload_n (pc' := 38) dX11_rockMoves_37 rfl rfl rfl ?_
      refine aw_gi (q := 0) (pc' := 41) H (H.fo rfl rfl) (by decide) rfl dX11_rockMoves_38 rfl fl_RX11_168 ?_
      obtain ⟨k6, ek6, hf⟩ := jn_e hf
      have hk6 : ∀ (s6 : SS) (h6 : List aE), HH s6 h6 → Mo s s6 → k6 s6 = some s9 → AW mX11_rockMoves (rmD (2) 0 0) (fin (PV fun h' => HH s9 h' ∧ Mo s0 s9) 0 0) 95 [some (.ref 8), some (.int x1), none, none] [] h6 0 0 := by
        intro s6 h6 H6 m6 hf
        subst ek6
        obtain ⟨v7, ev7, hf⟩ := vl_e hf
        refine aw_iincV (y := v7) (lv' := [_, _, _, _]) (pc' := 98) dX11_rockMoves_95 rfl rfl (Nat.le_of_ble_eq_true rfl) ev7 rfl ?_
        refine aw_goto (tgt := 2) dX11_rockMoves_98 rfl ?_
        exact ih _ _ _ H6 (ms.tr m6) hf
      clear ek6
      refine aw_icmp_ne (tgt := 95) (pc' := 44) dX11_rockMoves_41 rfl rfl (fun c8 => ?_) (fun c8 => ?_)
      · replace hf := ifn c8 hf
        refine AW.lv_le (lz_k (lz_k (lz_d (lz_d lz_0)))) ?_
        exact hk6 _ _ H (Mo.rf _) hf
      · replace hf := ifp c8 hf
        refine aw_iload_n (pc' := 45) dX11_rockMoves_44 rfl rfl ?_
        refine aw_zlt (tgt := 95) (pc' := 48) dX11_rockMoves_45 rfl rfl (fun c10 => ?_) (fun c10 => ?_)
        · replace hf := ifp c10 hf
          refine AW.lv_le (lz_k (lz_k (lz_d (lz_d lz_0)))) ?_
          exact hk6 _ _ H (Mo.rf _) hf
        · replace hf := ifn c10 hf
          refine aw_aload_n (pc' := 49) dX11_rockMoves_48 rfl rfl rfl ?_
          refine aw_gr (q := 0) (e := 3) (v := .ref 9) (pc' := 52) H (H.fo rfl rfl) (by decide) rfl rfl dX11_rockMoves_49 rfl fl_RX11_10 ?_
          refine aw_gr (q := 1) (e := 5) (v := .ref 11) (pc' := 55) H (H.fo rfl rfl) (by decide) rfl rfl dX11_rockMoves_52 rfl fl_RX11_108 ?_
          refine aw_iload_n (pc' := 56) dX11_rockMoves_55 rfl rfl ?_
          refine aw_iconst (v := 0) (pc' := 57) dX11_rockMoves_56 rfl ic_0 ?_
          obtain ⟨g11, hf⟩ := gd_e hf
          obtain ⟨s12, es12, hf⟩ := st_e hf
          refine aw_is (q := 3) (pc' := 58) es12 H (H.fa rfl rfl rfl) g11 dX11_rockMoves_57 rfl (fun h12 H12 => ?_)
          have m12 := Mo.ofI es12
          refine aw_aload_n (pc' := 59) dX11_rockMoves_58 rfl rfl rfl ?_
          refine aw_gr (q := 0) (e := 3) (v := .ref 9) (pc' := 62) H12 (H12.fo rfl rfl) (l13 rfl) rfl rfl dX11_rockMoves_59 rfl fl_RX11_10 ?_
          refine aw_gr (q := 1) (e := 3) (v := .ref 10) (pc' := 65) H12 (H12.fo rfl rfl) (l13 rfl) rfl rfl dX11_rockMoves_62 rfl fl_RX11_105 ?_
          refine aw_iload_n (pc' := 66) dX11_rockMoves_65 rfl rfl ?_
          refine aw_bipush (v := 9) (pc' := 68) dX11_rockMoves_66 rfl bp_9 ?_
          obtain ⟨g13, hf⟩ := gd_e hf
          obtain ⟨s14, es14, hf⟩ := st_e hf
          refine aw_is (q := 2) (pc' := 69) es14 H12 (H12.fa rfl rfl rfl) g13 dX11_rockMoves_68 rfl (fun h14 H14 => ?_)
          have m14 := Mo.ofI es14
          refine aw_aload_n (pc' := 70) dX11_rockMoves_69 rfl rfl rfl ?_
          refine aw_gr (q := 0) (e := 31) (v := .ref 23) (pc' := 73) H14 (H14.fo rfl rfl) (l13 rfl) rfl rfl dX11_rockMoves_70 rfl fl_RX11_28 ?_
          refine aw_iload_n (pc' := 74) dX11_rockMoves_73 rfl rfl ?_
          refine aw_bipush (v := 100) (pc' := 76) dX11_rockMoves_74 rfl bp_100 ?_
          refine aw_idiv (pc' := 77) dX11_rockMoves_76 rfl (by decide) ?_
          refine aw_iload_n (pc' := 78) dX11_rockMoves_77 rfl rfl ?_
          refine aw_bipush (v := 100) (pc' := 80) dX11_rockMoves_78 rfl bp_100 ?_
          refine aw_irem (pc' := 81) dX11_rockMoves_80 rfl (by decide) ?_
          obtain ⟨r15, ec15, hf⟩ := b1_e hf
          refine aw_callVi (M' := mX0_isRefuge) (nc' := 0) (ns' := 0) (pc' := 84) dX11_rockMoves_81 rfl ml_RX11_519 kX0_isRefuge (t_X0_isRefuge H14 ec15) (H14.ob (H14.fo rfl rfl) (by decide)) rfl rfl rfl (Nat.le_of_ble_eq_true rfl) (rokD (by omega) (Nat.le_of_ble_eq_true rfl) (Nat.le_of_ble_eq_true rfl) (Nat.le_of_ble_eq_true rfl)) rfl rfl (fun _ h15 q15 => ?_)
          obtain ⟨rfl, rfl, zb15⟩ := q15
          refine aw_if_eq (tgt := 95) (pc' := 87) dX11_rockMoves_84 rfl rfl (fun c16 => ?_) (fun c16 => ?_)
          · replace hf := ifp c16 hf
            refine AW.lv_le (lz_k (lz_k (lz_d (lz_d lz_0)))) ?_
            exact hk6 _ _ H14 (m12.tr m14) hf
          · replace hf := ifn c16 hf
            refine aw_aload_n (pc' := 88) dX11_rockMoves_87 rfl rfl rfl ?_
            refine aw_gr (q := 0) (e := 31) (v := .ref 23) (pc' := 91) H14 (H14.fo rfl rfl) (l13 rfl) rfl rfl dX11_rockMoves_88 rfl fl_RX11_28 ?_
            refine aw_iconst (v := 1) (pc' := 92) dX11_rockMoves_91 rfl ic_1 ?_
            obtain ⟨s17, es17, hf⟩ := st_e hf
            refine aw_pi (q := 15) (pc' := 95) es17 H14 (H14.fo rfl rfl) (by decide) rfl dX11_rockMoves_92 rfl fl_RX11_537 rfl (fun h17 H17 => ?_)
            have m17 := Mo.ofS es17
            refine AW.lv_le (lz_k (lz_k (lz_d (lz_d lz_0)))) ?_
            exact hk6 _ _ H17 ((m12.tr m14).tr m17) hf
noncomputable def f_X11_rockMoves (s0 : SS)  : Option SS := (f_X11_rockMoves_L2 4000 s0 0)
set_option maxRecDepth 4000 in
theorem t_X11_rockMoves {s0 s9 : SS} {h0 : List aE}  (H0 : HH s0 h0) (hf : f_X11_rockMoves s0 = some s9) : AM mX11_rockMoves (2) [.ref 8] h0 0 0 (PV fun h' => HH s9 h' ∧ Mo s0 s9) := by
  unfold f_X11_rockMoves at hf
  refine am_of (lv := [some (.ref 8), none, none, none]) rfl (Nat.le_of_ble_eq_true rfl) rfl ?_
  refine aw_iconst (v := 0) (pc' := 1) dX11_rockMoves_0 rfl ic_0 ?_
  refine aw_istore_n (lv' := [_, _, _, _]) (pc' := 2) dX11_rockMoves_1 rfl (Nat.le_of_ble_eq_true rfl) rfl ?_
  refine t_X11_rockMoves_L2 (Mo.rf _)  4000 _ _ _ H0 (Mo.rf _) hf
/-! ThirtyThreeBelow.hourGoesBy -/
noncomputable def f_X11_hourGoesBy (s0 : SS)  : Option SS := (vl (((zS s0 0 14) + (1 : Int32))) fun v1 => (st (pS s0 0 14 v1) fun s2 => (b1 (f_X11_latestText s2 0 2 (zS s2 0 14) (zS s2 0 14)) fun r3 => (bd (f_X11_given s2 r3 2 (-1)) fun r4 s4 => (jn (fun (s5 : SS)  => (b1 (f_X9_arrivals s5 (zS s5 0 14)) fun s6 => (jn (fun (s7 : SS)  => (b1 (f_X11_rockMoves s7) fun s8 => some s8)) fun k7 => (if ((zS s6 0 14) % (24 : Int32)) = (0 : Int32) then (b1 (f_X11_menEat s6) fun s11 => (k7 s11)) else (k7 s6))))) fun k5 => (if r4 = (0 : Int32) then (b1 (f_X11_machinesWork s4) fun s13 => (k5 s13)) else (k5 s4)))))))
set_option maxRecDepth 4000 in
theorem t_X11_hourGoesBy {s0 s9 : SS} {h0 : List aE}  (H0 : HH s0 h0) (hf : f_X11_hourGoesBy s0 = some s9) : AM mX11_hourGoesBy (4) [.ref 8] h0 0 0 (PV fun h' => HH s9 h' ∧ Mo s0 s9) := by
  unfold f_X11_hourGoesBy at hf
  refine am_of (lv := [some (.ref 8)]) rfl (Nat.le_of_ble_eq_true rfl) rfl ?_
  refine aw_aload_n (pc' := 1) dX11_hourGoesBy_0 rfl rfl rfl ?_
  refine aw_dup (pc' := 2) dX11_hourGoesBy_1 rfl rfl ?_
  refine aw_gi (q := 0) (pc' := 5) H0 (H0.fo rfl rfl) (l13 rfl) rfl dX11_hourGoesBy_2 rfl fl_RX11_168 ?_
  refine aw_iconst (v := 1) (pc' := 6) dX11_hourGoesBy_5 rfl ic_1 ?_
  refine aw_iadd (pc' := 7) dX11_hourGoesBy_6 rfl ?_
  obtain ⟨v1, ev1, hf⟩ := vl_e hf
  refine aw_topi ev1 ?_
  obtain ⟨s2, es2, hf⟩ := st_e hf
  refine aw_pi (q := 0) (pc' := 10) es2 H0 (H0.fo rfl rfl) (by decide) rfl dX11_hourGoesBy_7 rfl fl_RX11_168 rfl (fun h2 H2 => ?_)
  have m2 := Mo.ofS es2
  refine aw_aload_n (pc' := 11) dX11_hourGoesBy_10 rfl rfl rfl ?_
  refine aw_aload_n (pc' := 12) dX11_hourGoesBy_11 rfl rfl rfl ?_
  refine aw_iconst (v := 0) (pc' := 13) dX11_hourGoesBy_12 rfl ic_0 ?_
  refine aw_iconst (v := 2) (pc' := 14) dX11_hourGoesBy_13 rfl ic_2 ?_
  refine aw_aload_n (pc' := 15) dX11_hourGoesBy_14 rfl rfl rfl ?_
  refine aw_gi (q := 0) (pc' := 18) H2 (H2.fo rfl rfl) (l13 rfl) rfl dX11_hourGoesBy_15 rfl fl_RX11_168 ?_
  refine aw_aload_n (pc' := 19) dX11_hourGoesBy_18 rfl rfl rfl ?_
  refine aw_gi (q := 0) (pc' := 22) H2 (H2.fo rfl rfl) (l13 rfl) rfl dX11_hourGoesBy_19 rfl fl_RX11_168 ?_
  obtain ⟨r3, ec3, hf⟩ := b1_e hf
  refine aw_callVi (M' := mX11_latestText) (nc' := 0) (ns' := 0) (pc' := 25) dX11_hourGoesBy_22 rfl ml_RX11_285 kX11_latestText (t_X11_latestText H2 ec3) (H2.ob (H2.fo rfl rfl) (by decide)) rfl rfl rfl (Nat.le_of_ble_eq_true rfl) (rokD (by omega) (Nat.le_of_ble_eq_true rfl) (Nat.le_of_ble_eq_true rfl) (Nat.le_of_ble_eq_true rfl)) rfl rfl (fun _ h3 q3 => ?_)
  obtain ⟨rfl, rfl⟩ := q3
  refine aw_iconst (v := 2) (pc' := 26) dX11_hourGoesBy_25 rfl ic_2 ?_
  refine aw_iconst (v := (-1)) (pc' := 27) dX11_hourGoesBy_26 rfl ic_m1 ?_
  obtain ⟨r4, s4, ec4, hf⟩ := bd_e hf
  refine aw_callVi (M' := mX11_given) (nc' := 0) (ns' := 0) (pc' := 30) dX11_hourGoesBy_27 rfl ml_RX11_289 kX11_given (t_X11_given H2 ec4) (H2.ob (H2.fo rfl rfl) (by decide)) rfl rfl rfl (Nat.le_of_ble_eq_true rfl) (rokD (by omega) (Nat.le_of_ble_eq_true rfl) (Nat.le_of_ble_eq_true rfl) (Nat.le_of_ble_eq_true rfl)) rfl rfl (fun _ h4 q4 => ?_)
  obtain ⟨rfl, H4, m4⟩ := q4
  obtain ⟨k5, ek5, hf⟩ := jn_e hf
  have hk5 : ∀ (s5 : SS) (h5 : List aE), HH s5 h5 → Mo s4 s5 → k5 s5 = some s9 → AW mX11_hourGoesBy (rmD (4) 0 0) (fin (PV fun h' => HH s9 h' ∧ Mo s0 s9) 0 0) 37 [some (.ref 8)] [] h5 0 0 := by
    intro s5 h5 H5 m5 hf
    subst ek5
    refine aw_aload_n (pc' := 38) dX11_hourGoesBy_37 rfl rfl rfl ?_
    refine aw_gr (q := 0) (e := 61) (v := .ref 38) (pc' := 41) H5 (H5.fo rfl rfl) (l13 rfl) rfl rfl dX11_hourGoesBy_38 rfl fl_RX11_76 ?_
    refine aw_aload_n (pc' := 42) dX11_hourGoesBy_41 rfl rfl rfl ?_
    refine aw_gi (q := 0) (pc' := 45) H5 (H5.fo rfl rfl) (l13 rfl) rfl dX11_hourGoesBy_42 rfl fl_RX11_168 ?_
    obtain ⟨s6, ec6, hf⟩ := b1_e hf
    refine aw_callVv (M' := mX9_arrivals) (nc' := 0) (ns' := 0) (pc' := 48) dX11_hourGoesBy_45 rfl ml_RX11_502 kX9_arrivals (t_X9_arrivals H5 ec6) (H5.ob (H5.fo rfl rfl) (by decide)) rfl rfl rfl (Nat.le_of_ble_eq_true rfl) (rokD (by omega) (Nat.le_of_ble_eq_true rfl) (Nat.le_of_ble_eq_true rfl) (Nat.le_of_ble_eq_true rfl)) rfl rfl (fun h6 q6 => ?_)
    obtain ⟨H6, m6⟩ := q6
    refine aw_aload_n (pc' := 49) dX11_hourGoesBy_48 rfl rfl rfl ?_
    refine aw_gi (q := 0) (pc' := 52) H6 (H6.fo rfl rfl) (l13 rfl) rfl dX11_hourGoesBy_49 rfl fl_RX11_168 ?_
    refine aw_bipush (v := 24) (pc' := 54) dX11_hourGoesBy_52 rfl bp_24 ?_
    refine aw_irem (pc' := 55) dX11_hourGoesBy_54 rfl (by decide) ?_
    obtain ⟨k7, ek7, hf⟩ := jn_e hf
    have hk7 : ∀ (s7 : SS) (h7 : List aE), HH s7 h7 → Mo s6 s7 → k7 s7 = some s9 → AW mX11_hourGoesBy (rmD (4) 0 0) (fin (PV fun h' => HH s9 h' ∧ Mo s0 s9) 0 0) 62 [some (.ref 8)] [] h7 0 0 := by
      intro s7 h7 H7 m7 hf
      subst ek7
      refine aw_aload_n (pc' := 63) dX11_hourGoesBy_62 rfl rfl rfl ?_
      obtain ⟨s8, ec8, hf⟩ := b1_e hf
      refine aw_callVv (M' := mX11_rockMoves) (nc' := 0) (ns' := 0) (pc' := 66) dX11_hourGoesBy_63 rfl ml_RX11_509 kX11_rockMoves (t_X11_rockMoves H7 ec8) (H7.ob (H7.fo rfl rfl) (by decide)) rfl rfl rfl (Nat.le_of_ble_eq_true rfl) (rokD (by omega) (Nat.le_of_ble_eq_true rfl) (Nat.le_of_ble_eq_true rfl) (Nat.le_of_ble_eq_true rfl)) rfl rfl (fun h8 q8 => ?_)
      obtain ⟨H8, m8⟩ := q8
      obtain rfl := Option.some.inj hf
      exact aw_rv dX11_hourGoesBy_66 rfl (Nat.le_of_ble_eq_true rfl) (Nat.le_of_ble_eq_true rfl) ⟨H8, (((((m2.tr m4).tr m5).tr m6).tr m7).tr m8)⟩
    clear ek7
    refine aw_if_ne (tgt := 62) (pc' := 58) dX11_hourGoesBy_55 rfl rfl (fun c10 => ?_) (fun c10 => ?_)
    · replace hf := ifn c10 hf
      exact hk7 _ _ H6 (Mo.rf _) hf
    · replace hf := ifp c10 hf
      refine aw_aload_n (pc' := 59) dX11_hourGoesBy_58 rfl rfl rfl ?_
      obtain ⟨s11, ec11, hf⟩ := b1_e hf
      refine aw_callVv (M' := mX11_menEat) (nc' := 0) (ns' := 0) (pc' := 62) dX11_hourGoesBy_59 rfl ml_RX11_506 kX11_menEat (t_X11_menEat H6 ec11) (H6.ob (H6.fo rfl rfl) (by decide)) rfl rfl rfl (Nat.le_of_ble_eq_true rfl) (rokD (by omega) (Nat.le_of_ble_eq_true rfl) (Nat.le_of_ble_eq_true rfl) (Nat.le_of_ble_eq_true rfl)) rfl rfl (fun h11 q11 => ?_)
      obtain ⟨H11, m11⟩ := q11
      exact hk7 _ _ H11 m11 hf
  clear ek5
  refine aw_if_ne (tgt := 37) (pc' := 33) dX11_hourGoesBy_30 rfl rfl (fun c12 => ?_) (fun c12 => ?_)
  · replace hf := ifn c12 hf
    exact hk5 _ _ H4 (Mo.rf _) hf
  · replace hf := ifp c12 hf
    refine aw_aload_n (pc' := 34) dX11_hourGoesBy_33 rfl rfl rfl ?_
    obtain ⟨s13, ec13, hf⟩ := b1_e hf
    refine aw_callVv (M' := mX11_machinesWork) (nc' := 0) (ns' := 0) (pc' := 37) dX11_hourGoesBy_34 rfl ml_RX11_499 kX11_machinesWork (t_X11_machinesWork H4 ec13) (H4.ob (H4.fo rfl rfl) (by decide)) rfl rfl rfl (Nat.le_of_ble_eq_true rfl) (rokD (by omega) (Nat.le_of_ble_eq_true rfl) (Nat.le_of_ble_eq_true rfl) (Nat.le_of_ble_eq_true rfl)) rfl rfl (fun h13 q13 => ?_)
    obtain ⟨H13, m13⟩ := q13
    exact hk5 _ _ H13 m13 hf
/-! ThirtyThreeBelow.hours -/
noncomputable def f_X11_hours_L27_b (y1 : Int32) (rc : SS → Int32 → Option (Int32 × SS)) (s : SS) (x2 : Int32) : Option (Int32 × SS) := (if x2 < y1 then (b1 (f_X11_hourGoesBy s) fun s5 => (vl (x2 + 1) fun v6 => (rc s5 v6))) else some ((zS s 0 14), s))
noncomputable def f_X11_hours_L27 (y1 : Int32) : Nat → SS → Int32 → Option (Int32 × SS)
  | 0, _, _ => none
  | n + 1, s, x2 => f_X11_hours_L27_b y1 (f_X11_hours_L27 y1 n) s x2
set_option maxRecDepth 4000 in
theorem t_X11_hours_L27 {r9 : Int32} {s0 sb s9 : SS} {y1 : Int32} (mb : Mo s0 sb)  : ∀ (n : Nat) (s : SS) (h : List aE) (x2 : Int32), HH s h → Mo sb s → f_X11_hours_L27 y1 n s x2 = some (r9, s9) → AW mX11_hours (rmD (5) 0 0) (fin (PI fun r' h' => r9 = r' ∧ HH s9 h' ∧ Mo s0 s9) 0 0) 27 [some (.ref 8), some (.int y1), some (.int x2)] [] h 0 0 := by
  intro n
  induction n with
  | zero =>
    intro s h x2 H ms hf
    cases hf
  | succ n ih =>
    intro s h x2 H ms hf
    replace hf : f_X11_hours_L27_b y1 (f_X11_hours_L27 y1 n) s x2 = some (r9, s9) := hf
    unfold f_X11_hours_L27_b at hf
    refine aw_iload_n (pc' := 28) dX11_hours_27 rfl rfl ?_
    refine aw_iload_n (pc' := 29) dX11_hours_28 rfl rfl ?_
    refine aw_cge (tgt := 42) (pc' := 32) dX11_hours_29 rfl rfl (fun c4 => ?_) (fun c4 => ?_)
    · replace hf := ifn c4 hf
      refine aw_aload_n (pc' := 43) dX11_hours_42 rfl rfl rfl ?_
      refine aw_gi (q := 0) (pc' := 46) H (H.fo rfl rfl) (by decide) rfl dX11_hours_43 rfl fl_RX11_168 ?_
      obtain ⟨rfl, rfl⟩ := so2 hf
      exact aw_ri dX11_hours_46 rfl rfl (Nat.le_of_ble_eq_true rfl) (Nat.le_of_ble_eq_true rfl) ⟨rfl, H, (mb.tr ms)⟩
    · replace hf := ifp c4 hf
      refine aw_aload_n (pc' := 33) dX11_hours_32 rfl rfl rfl ?_
      obtain ⟨s5, ec5, hf⟩ := b1_e hf
      refine aw_callVv (M' := mX11_hourGoesBy) (nc' := 0) (ns' := 0) (pc' := 36) dX11_hours_33 rfl ml_RX11_292 kX11_hourGoesBy (t_X11_hourGoesBy H ec5) (H.ob (H.fo rfl rfl) (by decide)) rfl rfl rfl (Nat.le_of_ble_eq_true rfl) (rokD (by omega) (Nat.le_of_ble_eq_true rfl) (Nat.le_of_ble_eq_true rfl) (Nat.le_of_ble_eq_true rfl)) rfl rfl (fun h5 q5 => ?_)
      obtain ⟨H5, m5⟩ := q5
      obtain ⟨v6, ev6, hf⟩ := vl_e hf
      refine aw_iincV (y := v6) (lv' := [_, _, _]) (pc' := 39) dX11_hours_36 rfl rfl (Nat.le_of_ble_eq_true rfl) ev6 rfl ?_
      refine aw_goto (tgt := 27) dX11_hours_39 rfl ?_
      exact ih _ _ _ H5 (ms.tr m5) hf
noncomputable def f_X11_hours (s0 : SS) (a0 : Int32) : Option (Int32 × SS) := (if a0 < (1 : Int32) then some ((-1), s0) else (if (48 : Int32) < a0 then some ((-1), s0) else (if (1699 : Int32) < ((zS s0 0 14) + a0) then some ((-1), s0) else (f_X11_hours_L27 a0 4000 s0 0))))
set_option maxRecDepth 4000 in
theorem t_X11_hours {r9 : Int32} {s0 s9 : SS} {h0 : List aE} {a0 : Int32} (H0 : HH s0 h0) (hf : f_X11_hours s0 a0 = some (r9, s9)) : AM mX11_hours (5) [.ref 8, .int a0] h0 0 0 (PI fun r' h' => r9 = r' ∧ HH s9 h' ∧ Mo s0 s9) := by
  unfold f_X11_hours at hf
  refine am_of (lv := [some (.ref 8), some (.int a0), none]) rfl (Nat.le_of_ble_eq_true rfl) rfl ?_
  refine aw_iload_n (pc' := 1) dX11_hours_0 rfl rfl ?_
  refine aw_iconst (v := 1) (pc' := 2) dX11_hours_1 rfl ic_1 ?_
  refine aw_clt (tgt := 23) (pc' := 5) dX11_hours_2 rfl rfl (fun c1 => ?_) (fun c1 => ?_)
  · replace hf := ifp c1 hf
    refine aw_iconst (v := (-1)) (pc' := 24) dX11_hours_23 rfl ic_m1 ?_
    obtain ⟨rfl, rfl⟩ := so2 hf
    exact aw_ri dX11_hours_24 rfl rfl (Nat.le_of_ble_eq_true rfl) (Nat.le_of_ble_eq_true rfl) ⟨rfl, H0, (Mo.rf _)⟩
  · replace hf := ifn c1 hf
    refine aw_iload_n (pc' := 6) dX11_hours_5 rfl rfl ?_
    refine aw_bipush (v := 48) (pc' := 8) dX11_hours_6 rfl bp_48 ?_
    refine aw_cgt (tgt := 23) (pc' := 11) dX11_hours_8 rfl rfl (fun c2 => ?_) (fun c2 => ?_)
    · replace hf := ifp c2 hf
      refine aw_iconst (v := (-1)) (pc' := 24) dX11_hours_23 rfl ic_m1 ?_
      obtain ⟨rfl, rfl⟩ := so2 hf
      exact aw_ri dX11_hours_24 rfl rfl (Nat.le_of_ble_eq_true rfl) (Nat.le_of_ble_eq_true rfl) ⟨rfl, H0, (Mo.rf _)⟩
    · replace hf := ifn c2 hf
      refine aw_aload_n (pc' := 12) dX11_hours_11 rfl rfl rfl ?_
      refine aw_gi (q := 0) (pc' := 15) H0 (H0.fo rfl rfl) (l13 rfl) rfl dX11_hours_12 rfl fl_RX11_168 ?_
      refine aw_iload_n (pc' := 16) dX11_hours_15 rfl rfl ?_
      refine aw_iadd (pc' := 17) dX11_hours_16 rfl ?_
      refine aw_sipush (v := 1699) (pc' := 20) dX11_hours_17 rfl sp_1699 ?_
      refine aw_cle (tgt := 25) (pc' := 23) dX11_hours_20 rfl rfl (fun c3 => ?_) (fun c3 => ?_)
      · replace hf := ifn c3 hf
        refine aw_iconst (v := 0) (pc' := 26) dX11_hours_25 rfl ic_0 ?_
        refine aw_istore_n (lv' := [_, _, _]) (pc' := 27) dX11_hours_26 rfl (Nat.le_of_ble_eq_true rfl) rfl ?_
        refine t_X11_hours_L27 (Mo.rf _)  4000 _ _ _ H0 (Mo.rf _) hf
      · replace hf := ifp c3 hf
        refine aw_iconst (v := (-1)) (pc' := 24) dX11_hours_23 rfl ic_m1 ?_
        obtain ⟨rfl, rfl⟩ := so2 hf
        exact aw_ri dX11_hours_24 rfl rfl (Nat.le_of_ble_eq_true rfl) (Nat.le_of_ble_eq_true rfl) ⟨rfl, H0, (Mo.rf _)⟩
/-! ThirtyThreeBelow.spoons -/
noncomputable def f_X11_spoons (s0 : SS) (a0 : Int32) : Option (Int32 × SS) := (if a0 < (0 : Int32) then some ((-1), s0) else (if (9999 : Int32) < a0 then some ((-1), s0) else (vl ((zS s0 30 0)) fun v3 => (st (pS s0 30 0 a0) fun s4 => some (v3, s4)))))
set_option maxRecDepth 4000 in
theorem t_X11_spoons {r9 : Int32} {s0 s9 : SS} {h0 : List aE} {a0 : Int32} (H0 : HH s0 h0) (hf : f_X11_spoons s0 a0 = some (r9, s9)) : AM mX11_spoons (0) [.ref 8, .int a0] h0 0 0 (PI fun r' h' => r9 = r' ∧ HH s9 h' ∧ Mo s0 s9) := by
  unfold f_X11_spoons at hf
  refine am_of (lv := [some (.ref 8), some (.int a0), none]) rfl (Nat.le_of_ble_eq_true rfl) rfl ?_
  refine aw_iload_n (pc' := 1) dX11_spoons_0 rfl rfl ?_
  refine aw_zlt (tgt := 11) (pc' := 4) dX11_spoons_1 rfl rfl (fun c1 => ?_) (fun c1 => ?_)
  · replace hf := ifp c1 hf
    refine aw_iconst (v := (-1)) (pc' := 12) dX11_spoons_11 rfl ic_m1 ?_
    obtain ⟨rfl, rfl⟩ := so2 hf
    exact aw_ri dX11_spoons_12 rfl rfl (Nat.le_of_ble_eq_true rfl) (Nat.le_of_ble_eq_true rfl) ⟨rfl, H0, (Mo.rf _)⟩
  · replace hf := ifn c1 hf
    refine aw_iload_n (pc' := 5) dX11_spoons_4 rfl rfl ?_
    refine aw_sipush (v := 9999) (pc' := 8) dX11_spoons_5 rfl sp_9999 ?_
    refine aw_cle (tgt := 13) (pc' := 11) dX11_spoons_8 rfl rfl (fun c2 => ?_) (fun c2 => ?_)
    · replace hf := ifn c2 hf
      refine aw_aload_n (pc' := 14) dX11_spoons_13 rfl rfl rfl ?_
      refine aw_gr (q := 0) (e := 61) (v := .ref 38) (pc' := 17) H0 (H0.fo rfl rfl) (l13 rfl) rfl rfl dX11_spoons_14 rfl fl_RX11_76 ?_
      refine aw_gi (q := 30) (pc' := 20) H0 (H0.fo rfl rfl) (l13 rfl) rfl dX11_spoons_17 rfl fl_RX11_295 ?_
      obtain ⟨v3, ev3, hf⟩ := vl_e hf
      refine aw_topi ev3 ?_
      refine aw_istore_n (lv' := [_, _, _]) (pc' := 21) dX11_spoons_20 rfl (Nat.le_of_ble_eq_true rfl) rfl ?_
      refine aw_aload_n (pc' := 22) dX11_spoons_21 rfl rfl rfl ?_
      refine aw_gr (q := 0) (e := 61) (v := .ref 38) (pc' := 25) H0 (H0.fo rfl rfl) (l13 rfl) rfl rfl dX11_spoons_22 rfl fl_RX11_76 ?_
      refine aw_iload_n (pc' := 26) dX11_spoons_25 rfl rfl ?_
      obtain ⟨s4, es4, hf⟩ := st_e hf
      refine aw_pi (q := 30) (pc' := 29) es4 H0 (H0.fo rfl rfl) (by decide) rfl dX11_spoons_26 rfl fl_RX11_295 rfl (fun h4 H4 => ?_)
      have m4 := Mo.ofS es4
      refine aw_iload_n (pc' := 30) dX11_spoons_29 rfl rfl ?_
      obtain ⟨rfl, rfl⟩ := so2 hf
      exact aw_ri dX11_spoons_30 rfl rfl (Nat.le_of_ble_eq_true rfl) (Nat.le_of_ble_eq_true rfl) ⟨rfl, H4, m4⟩
    · replace hf := ifp c2 hf
      refine aw_iconst (v := (-1)) (pc' := 12) dX11_spoons_11 rfl ic_m1 ?_
      obtain ⟨rfl, rfl⟩ := so2 hf
      exact aw_ri dX11_spoons_12 rfl rfl (Nat.le_of_ble_eq_true rfl) (Nat.le_of_ble_eq_true rfl) ⟨rfl, H0, (Mo.rf _)⟩
/-! ThirtyThreeBelow.move -/
noncomputable def f_X11_move (s0 : SS) (a0 : Int32) (a1 : Int32) : Option (Int32 × SS) := (b1 (f_X11_placeOf a0) fun r1 => (if r1 < (0 : Int32) then some ((-1), s0) else (if (zS s0 0 14) < a1 then (if (1699 : Int32) < a1 then some ((-1), s0) else (bd (f_X5_moveTold s0 a0 a1) fun r5 s5 => some (r5, s5))) else some ((-1), s0))))
set_option maxRecDepth 4000 in
theorem t_X11_move {r9 : Int32} {s0 s9 : SS} {h0 : List aE} {a0 : Int32} {a1 : Int32} (H0 : HH s0 h0) (hf : f_X11_move s0 a0 a1 = some (r9, s9)) : AM mX11_move (2) [.ref 8, .int a0, .int a1] h0 0 0 (PI fun r' h' => r9 = r' ∧ HH s9 h' ∧ Mo s0 s9) := by
  unfold f_X11_move at hf
  refine am_of (lv := [some (.ref 8), some (.int a0), some (.int a1), none]) rfl (Nat.le_of_ble_eq_true rfl) rfl ?_
  refine aw_iload_n (pc' := 1) dX11_move_0 rfl rfl ?_
  obtain ⟨r1, ec1, hf⟩ := b1_e hf
  refine aw_callSi (M' := mX11_placeOf) (nc' := 0) (ns' := 0) (pc' := 4) dX11_move_1 rfl ml_RX11_101 kX11_placeOf (t_X11_placeOf ec1) rfl rfl (Nat.le_of_ble_eq_true rfl) (rokD (by omega) (Nat.le_of_ble_eq_true rfl) (Nat.le_of_ble_eq_true rfl) (Nat.le_of_ble_eq_true rfl)) rfl rfl (fun _ h1 q1 => ?_)
  obtain ⟨rfl, rfl⟩ := q1
  refine aw_istore_n (lv' := [_, _, _, _]) (pc' := 5) dX11_move_4 rfl (Nat.le_of_ble_eq_true rfl) rfl ?_
  refine aw_iload_n (pc' := 6) dX11_move_5 rfl rfl ?_
  refine aw_zlt (tgt := 24) (pc' := 9) dX11_move_6 rfl rfl (fun c2 => ?_) (fun c2 => ?_)
  · replace hf := ifp c2 hf
    refine aw_iconst (v := (-1)) (pc' := 25) dX11_move_24 rfl ic_m1 ?_
    obtain ⟨rfl, rfl⟩ := so2 hf
    exact aw_ri dX11_move_25 rfl rfl (Nat.le_of_ble_eq_true rfl) (Nat.le_of_ble_eq_true rfl) ⟨rfl, H0, (Mo.rf _)⟩
  · replace hf := ifn c2 hf
    refine aw_iload_n (pc' := 10) dX11_move_9 rfl rfl ?_
    refine aw_aload_n (pc' := 11) dX11_move_10 rfl rfl rfl ?_
    refine aw_gi (q := 0) (pc' := 14) H0 (H0.fo rfl rfl) (l13 rfl) rfl dX11_move_11 rfl fl_RX11_168 ?_
    refine aw_cle (tgt := 24) (pc' := 17) dX11_move_14 rfl rfl (fun c3 => ?_) (fun c3 => ?_)
    · replace hf := ifn c3 hf
      refine aw_iconst (v := (-1)) (pc' := 25) dX11_move_24 rfl ic_m1 ?_
      obtain ⟨rfl, rfl⟩ := so2 hf
      exact aw_ri dX11_move_25 rfl rfl (Nat.le_of_ble_eq_true rfl) (Nat.le_of_ble_eq_true rfl) ⟨rfl, H0, (Mo.rf _)⟩
    · replace hf := ifp c3 hf
      refine aw_iload_n (pc' := 18) dX11_move_17 rfl rfl ?_
      refine aw_sipush (v := 1699) (pc' := 21) dX11_move_18 rfl sp_1699 ?_
      refine aw_cle (tgt := 26) (pc' := 24) dX11_move_21 rfl rfl (fun c4 => ?_) (fun c4 => ?_)
      · replace hf := ifn c4 hf
        refine aw_aload_n (pc' := 27) dX11_move_26 rfl rfl rfl ?_
        refine aw_gr (q := 0) (e := 3) (v := .ref 9) (pc' := 30) H0 (H0.fo rfl rfl) (l13 rfl) rfl rfl dX11_move_27 rfl fl_RX11_10 ?_
        refine aw_iload_n (pc' := 31) dX11_move_30 rfl rfl ?_
        refine aw_iload_n (pc' := 32) dX11_move_31 rfl rfl ?_
        obtain ⟨r5, s5, ec5, hf⟩ := bd_e hf
        refine aw_callVi (M' := mX5_moveTold) (nc' := 0) (ns' := 0) (pc' := 35) dX11_move_32 rfl ml_RX11_298 kX5_moveTold (t_X5_moveTold H0 ec5) (H0.ob (H0.fo rfl rfl) (by decide)) rfl rfl rfl (Nat.le_of_ble_eq_true rfl) (rokD (by omega) (Nat.le_of_ble_eq_true rfl) (Nat.le_of_ble_eq_true rfl) (Nat.le_of_ble_eq_true rfl)) rfl rfl (fun _ h5 q5 => ?_)
        obtain ⟨rfl, H5, m5⟩ := q5
        obtain ⟨rfl, rfl⟩ := so2 hf
        exact aw_ri dX11_move_35 rfl rfl (Nat.le_of_ble_eq_true rfl) (Nat.le_of_ble_eq_true rfl) ⟨rfl, H5, m5⟩
      · replace hf := ifp c4 hf
        refine aw_iconst (v := (-1)) (pc' := 25) dX11_move_24 rfl ic_m1 ?_
        obtain ⟨rfl, rfl⟩ := so2 hf
        exact aw_ri dX11_move_25 rfl rfl (Nat.le_of_ble_eq_true rfl) (Nat.le_of_ble_eq_true rfl) ⟨rfl, H0, (Mo.rf _)⟩
/-! ThirtyThreeBelow.last -/
noncomputable def f_X11_last (s0 : SS) (a0 : Int32) (a1 : Int32) : Option (Int32 × SS) := (if a0 < (0 : Int32) then some ((-1), s0) else (if (999 : Int32) < a0 then some ((-1), s0) else (if a1 < (0 : Int32) then some ((-1), s0) else (if (9 : Int32) < a1 then some ((-1), s0) else (if (zS s0 6 4) = (0 : Int32) then some ((-2), s0) else (bd (f_X2_daysKept s0 a0 a1 (zS s0 30 0)) fun r6 s6 => some (r6, s6)))))))
set_option maxRecDepth 4000 in
theorem t_X11_last {r9 : Int32} {s0 s9 : SS} {h0 : List aE} {a0 : Int32} {a1 : Int32} (H0 : HH s0 h0) (hf : f_X11_last s0 a0 a1 = some (r9, s9)) : AM mX11_last (4) [.ref 8, .int a0, .int a1] h0 0 0 (PI fun r' h' => r9 = r' ∧ HH s9 h' ∧ Mo s0 s9) := by
  unfold f_X11_last at hf
  refine am_of (lv := [some (.ref 8), some (.int a0), some (.int a1)]) rfl (Nat.le_of_ble_eq_true rfl) rfl ?_
  refine aw_iload_n (pc' := 1) dX11_last_0 rfl rfl ?_
  refine aw_zlt (tgt := 21) (pc' := 4) dX11_last_1 rfl rfl (fun c1 => ?_) (fun c1 => ?_)
  · replace hf := ifp c1 hf
    refine aw_iconst (v := (-1)) (pc' := 22) dX11_last_21 rfl ic_m1 ?_
    obtain ⟨rfl, rfl⟩ := so2 hf
    exact aw_ri dX11_last_22 rfl rfl (Nat.le_of_ble_eq_true rfl) (Nat.le_of_ble_eq_true rfl) ⟨rfl, H0, (Mo.rf _)⟩
  · replace hf := ifn c1 hf
    refine aw_iload_n (pc' := 5) dX11_last_4 rfl rfl ?_
    refine aw_sipush (v := 999) (pc' := 8) dX11_last_5 rfl sp_999 ?_
    refine aw_cgt (tgt := 21) (pc' := 11) dX11_last_8 rfl rfl (fun c2 => ?_) (fun c2 => ?_)
    · replace hf := ifp c2 hf
      refine aw_iconst (v := (-1)) (pc' := 22) dX11_last_21 rfl ic_m1 ?_
      obtain ⟨rfl, rfl⟩ := so2 hf
      exact aw_ri dX11_last_22 rfl rfl (Nat.le_of_ble_eq_true rfl) (Nat.le_of_ble_eq_true rfl) ⟨rfl, H0, (Mo.rf _)⟩
    · replace hf := ifn c2 hf
      refine aw_iload_n (pc' := 12) dX11_last_11 rfl rfl ?_
      refine aw_zlt (tgt := 21) (pc' := 15) dX11_last_12 rfl rfl (fun c3 => ?_) (fun c3 => ?_)
      · replace hf := ifp c3 hf
        refine aw_iconst (v := (-1)) (pc' := 22) dX11_last_21 rfl ic_m1 ?_
        obtain ⟨rfl, rfl⟩ := so2 hf
        exact aw_ri dX11_last_22 rfl rfl (Nat.le_of_ble_eq_true rfl) (Nat.le_of_ble_eq_true rfl) ⟨rfl, H0, (Mo.rf _)⟩
      · replace hf := ifn c3 hf
        refine aw_iload_n (pc' := 16) dX11_last_15 rfl rfl ?_
        refine aw_bipush (v := 9) (pc' := 18) dX11_last_16 rfl bp_9 ?_
        refine aw_cle (tgt := 23) (pc' := 21) dX11_last_18 rfl rfl (fun c4 => ?_) (fun c4 => ?_)
        · replace hf := ifn c4 hf
          refine aw_aload_n (pc' := 24) dX11_last_23 rfl rfl rfl ?_
          refine aw_gr (q := 0) (e := 13) (v := .ref 14) (pc' := 27) H0 (H0.fo rfl rfl) (l13 rfl) rfl rfl dX11_last_24 rfl fl_RX11_19 ?_
          refine aw_gi (q := 6) (pc' := 30) H0 (H0.fo rfl rfl) (l13 rfl) rfl dX11_last_27 rfl fl_RX11_301 ?_
          refine aw_if_ne (tgt := 36) (pc' := 33) dX11_last_30 rfl rfl (fun c5 => ?_) (fun c5 => ?_)
          · replace hf := ifn c5 hf
            refine aw_aload_n (pc' := 37) dX11_last_36 rfl rfl rfl ?_
            refine aw_gr (q := 0) (e := 13) (v := .ref 14) (pc' := 40) H0 (H0.fo rfl rfl) (l13 rfl) rfl rfl dX11_last_37 rfl fl_RX11_19 ?_
            refine aw_iload_n (pc' := 41) dX11_last_40 rfl rfl ?_
            refine aw_iload_n (pc' := 42) dX11_last_41 rfl rfl ?_
            refine aw_aload_n (pc' := 43) dX11_last_42 rfl rfl rfl ?_
            refine aw_gr (q := 0) (e := 61) (v := .ref 38) (pc' := 46) H0 (H0.fo rfl rfl) (l13 rfl) rfl rfl dX11_last_43 rfl fl_RX11_76 ?_
            refine aw_gi (q := 30) (pc' := 49) H0 (H0.fo rfl rfl) (l13 rfl) rfl dX11_last_46 rfl fl_RX11_295 ?_
            obtain ⟨r6, s6, ec6, hf⟩ := bd_e hf
            refine aw_callVi (M' := mX2_daysKept) (nc' := 0) (ns' := 0) (pc' := 52) dX11_last_49 rfl ml_RX11_304 kX2_daysKept (t_X2_daysKept H0 ec6) (H0.ob (H0.fo rfl rfl) (by decide)) rfl rfl rfl (Nat.le_of_ble_eq_true rfl) (rokD (by omega) (Nat.le_of_ble_eq_true rfl) (Nat.le_of_ble_eq_true rfl) (Nat.le_of_ble_eq_true rfl)) rfl rfl (fun _ h6 q6 => ?_)
            obtain ⟨rfl, H6, m6⟩ := q6
            obtain ⟨rfl, rfl⟩ := so2 hf
            exact aw_ri dX11_last_52 rfl rfl (Nat.le_of_ble_eq_true rfl) (Nat.le_of_ble_eq_true rfl) ⟨rfl, H6, m6⟩
          · replace hf := ifp c5 hf
            refine aw_bipush (v := (-2)) (pc' := 35) dX11_last_33 rfl bp_m2 ?_
            obtain ⟨rfl, rfl⟩ := so2 hf
            exact aw_ri dX11_last_35 rfl rfl (Nat.le_of_ble_eq_true rfl) (Nat.le_of_ble_eq_true rfl) ⟨rfl, H0, (Mo.rf _)⟩
        · replace hf := ifp c4 hf
          refine aw_iconst (v := (-1)) (pc' := 22) dX11_last_21 rfl ic_m1 ?_
          obtain ⟨rfl, rfl⟩ := so2 hf
          exact aw_ri dX11_last_22 rfl rfl (Nat.le_of_ble_eq_true rfl) (Nat.le_of_ble_eq_true rfl) ⟨rfl, H0, (Mo.rf _)⟩
