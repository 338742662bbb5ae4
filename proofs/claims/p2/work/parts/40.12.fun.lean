/-! ThirtyThreeBelowModel.order -/
def f_X12_order_L32_b (q0 : SS → Option (Int32 × SS)) (y1 : Int32) (rc : SS → Int32 → Option (Int32 × SS)) (s : SS) (x2 : Int32) : Option (Int32 × SS) := (if x2 < (zS s 59 67) then (jn (fun (s6 : SS)  => (vl (x2 + 1) fun v7 => (rc s6 v7))) fun k6 => (if ((y1 >>> (x2 &&& 31)) &&& (1 : Int32)) = (0 : Int32) then (k6 s) else (b1 (f_X12_costNext s x2 y1) fun r9 => (vl ((y1 &&& (((1 : Int32) <<< (x2 &&& 31)) ^^^ ((-1) : Int32)))) fun v10 => (gd (inB v10 1024) (vl ((r9 + (zI s 109 (v10.toInt.toNat)))) fun v12 => (gd (inB y1 1024) (if v12 < (zI s 109 (y1.toInt.toNat)) then (gd (inB y1 1024) (st (pI s 109 (y1.toInt.toNat) v12) fun s16 => (k6 s16))) else (k6 s))))))))) else (q0 s))
def f_X12_order_L32 (q0 : SS → Option (Int32 × SS)) (y1 : Int32) : Nat → SS → Int32 → Option (Int32 × SS)
  | 0, _, _ => none
  | n + 1, s, x2 => f_X12_order_L32_b q0 y1 (f_X12_order_L32 q0 y1 n) s x2
set_option maxRecDepth 4000 in
theorem t_X12_order_L32 {r9 : Int32} {s0 sb s9 : SS} {q0 : SS → Option (Int32 × SS} {y1 : Int32} (mb : Mo s0 sb) (hq0 : ∀ (s : SS) (h : List aE), HH s h → Mo sb s → q0 s = some (r9, s9) → AW mX12_order (rmD (1) 0 0) (fin (PI fun r' h' => r9 = r' ∧ HH s9 h' ∧ Mo s0 s9) 0 0) 94 [some (.ref 67), some (.int y1), none, none, none] [] h 0 0) : ∀ (n : Nat) (s : SS) (h : List aE) (x2 : Int32), HH s h → Mo sb s → f_X12_order_L32 q0 y1 n s x2 = some (r9, s9) → AW mX12_order (rmD (1) 0 0) (fin (PI fun r' h' => r9 = r' ∧ HH s9 h' ∧ Mo s0 s9) 0 0) 32 [some (.ref 67), some (.int y1), some (.int x2), none, none] [] h 0 0 := by
  intro n
  induction n with
  | zero =>
    intro s h x2 H ms hf
    cases hf
  | succ n ih =>
    intro s h x2 H ms hf
    replace hf : f_X12_order_L32_b q0 y1 (f_X12_order_L32 q0 y1 n) s x2 = some (r9, s9) := hf
    unfold f_X12_order_L32_b at hf
    refine aw_iload_n (pc' := 33) dX12_order_32 rfl rfl ?_
    refine aw_aload_n (pc' := 34) dX12_order_33 rfl rfl rfl ?_
    refine aw_gi (q := 59) (pc' := 37) H (H.fo rfl rfl) (by decide) rfl dX12_order_34 rfl fl_RX12_431 ?_
    refine aw_cge (tgt := 94) (pc' := 40) dX12_order_37 (by decide) rfl (fun c5 => ?_) (fun c5 => ?_)
    · replace hf := ifn c5 hf
      refine AW.lv_le (lz_k (lz_k (lz_d (lz_d (lz_d lz_0))))) ?_
      exact hq0 _ _ H ms hf
    · replace hf := ifp c5 hf
      refine aw_iload_n (pc' := 41) dX12_order_40 rfl rfl ?_
      refine aw_iload_n (pc' := 42) dX12_order_41 rfl rfl ?_
      refine aw_ishr (pc' := 43) dX12_order_42 rfl ?_
      refine aw_iconst (v := 1) (pc' := 44) dX12_order_43 rfl (by decide) ?_
      refine aw_iand (pc' := 45) dX12_order_44 rfl ?_
      obtain ⟨k6, ek6, hf⟩ := jn_e hf
      have hk6 : ∀ (s6 : SS) (h6 : List aE), HH s6 h6 → Mo s s6 → k6 s6 = some (r9, s9) → AW mX12_order (rmD (1) 0 0) (fin (PI fun r' h' => r9 = r' ∧ HH s9 h' ∧ Mo s0 s9) 0 0) 88 [some (.ref 67), some (.int y1), some (.int x2), none, none] [] h6 0 0 := by
        intro s6 h6 H6 m6 hf
        subst ek6
        obtain ⟨v7, ev7, hf⟩ := vl_e hf
        refine aw_iincV (y := v7) (lv' := [_, _, _, _, _]) (pc' := 91) dX12_order_88 rfl rfl (Nat.le_of_ble_eq_true rfl) ev7 rfl ?_
        refine aw_goto (tgt := 32) dX12_order_91 (by decide) ?_
        exact ih _ _ _ H6 (ms.tr m6) hf
      clear ek6
      refine aw_if_ne (tgt := 51) (pc' := 48) dX12_order_45 (by decide) rfl (fun c8 => ?_) (fun c8 => ?_)
      · replace hf := ifn c8 hf
        refine aw_aload_n (pc' := 52) dX12_order_51 rfl rfl rfl ?_
        refine aw_iload_n (pc' := 53) dX12_order_52 rfl rfl ?_
        refine aw_iload_n (pc' := 54) dX12_order_53 rfl rfl ?_
        obtain ⟨r9, ec9, hf⟩ := b1_e hf
        refine aw_callVi (M' := mX12_costNext) (nc' := 0) (ns' := 0) (pc' := 57) dX12_order_54 rfl ml_RX12_437 kX12_costNext (t_X12_costNext H ec9) (H.ob (H.fo rfl rfl) (by decide)) rfl rfl rfl (Nat.le_of_ble_eq_true rfl) (rokD (by omega) (Nat.le_of_ble_eq_true rfl) (Nat.le_of_ble_eq_true rfl) (Nat.le_of_ble_eq_true rfl)) rfl rfl (fun _ h9 q9 => ?_)
        obtain ⟨rfl, rfl⟩ := q9
        refine aw_aload_n (pc' := 58) dX12_order_57 rfl rfl rfl ?_
        refine aw_gr (q := 59) (e := 101) (v := .ref 117) (pc' := 61) H (H.fo rfl rfl) (by decide) rfl rfl dX12_order_58 rfl fl_RX12_166 ?_
        refine aw_iload_n (pc' := 62) dX12_order_61 rfl rfl ?_
        refine aw_iconst (v := 1) (pc' := 63) dX12_order_62 rfl (by decide) ?_
        refine aw_iload_n (pc' := 64) dX12_order_63 rfl rfl ?_
        refine aw_ishl (pc' := 65) dX12_order_64 rfl ?_
        refine aw_iconst (v := (-1)) (pc' := 66) dX12_order_65 rfl (by decide) ?_
        refine aw_ixor (pc' := 67) dX12_order_66 rfl ?_
        refine aw_iand (pc' := 68) dX12_order_67 rfl ?_
        obtain ⟨v10, ev10, hf⟩ := vl_e hf
        refine aw_topi ev10 ?_
        obtain ⟨g11, hf⟩ := gd_e hf
        refine aw_ia (q := 109) (pc' := 69) H (H.fa rfl rfl rfl) g11 dX12_order_68 rfl ?_
        refine aw_iadd (pc' := 70) dX12_order_69 rfl ?_
        obtain ⟨v12, ev12, hf⟩ := vl_e hf
        refine aw_topi ev12 ?_
        refine aw_istore_n (lv' := [_, _, _, _, _]) (pc' := 71) dX12_order_70 rfl (Nat.le_of_ble_eq_true rfl) rfl ?_
        refine aw_iload_n (pc' := 72) dX12_order_71 rfl rfl ?_
        refine aw_aload_n (pc' := 73) dX12_order_72 rfl rfl rfl ?_
        refine aw_gr (q := 59) (e := 101) (v := .ref 117) (pc' := 76) H (H.fo rfl rfl) (by decide) rfl rfl dX12_order_73 rfl fl_RX12_166 ?_
        refine aw_iload_n (pc' := 77) dX12_order_76 rfl rfl ?_
        obtain ⟨g13, hf⟩ := gd_e hf
        refine aw_ia (q := 109) (pc' := 78) H (H.fa rfl rfl rfl) g13 dX12_order_77 rfl ?_
        refine aw_cge (tgt := 88) (pc' := 81) dX12_order_78 (by decide) rfl (fun c14 => ?_) (fun c14 => ?_)
        · replace hf := ifn c14 hf
          refine AW.lv_le (lz_k (lz_k (lz_k (lz_d (lz_d lz_0))))) ?_
          exact hk6 _ _ H (Mo.rf _) hf
        · replace hf := ifp c14 hf
          refine aw_aload_n (pc' := 82) dX12_order_81 rfl rfl rfl ?_
          refine aw_gr (q := 59) (e := 101) (v := .ref 117) (pc' := 85) H (H.fo rfl rfl) (by decide) rfl rfl dX12_order_82 rfl fl_RX12_166 ?_
          refine aw_iload_n (pc' := 86) dX12_order_85 rfl rfl ?_
          refine aw_iload_n (pc' := 87) dX12_order_86 rfl rfl ?_
          obtain ⟨g15, hf⟩ := gd_e hf
          obtain ⟨s16, es16, hf⟩ := st_e hf
          refine aw_is (q := 109) (pc' := 88) es16 H (H.fa rfl rfl rfl) g15 dX12_order_87 rfl (fun h16 H16 => ?_)
          have m16 := Mo.ofI es16
          refine AW.lv_le (lz_k (lz_k (lz_k (lz_d (lz_d lz_0))))) ?_
          exact hk6 _ _ H16 m16 hf
      · replace hf := ifp c8 hf
        refine aw_goto (tgt := 88) dX12_order_48 (by decide) ?_
        exact hk6 _ _ H (Mo.rf _) hf
def f_X12_order_L11_b (q0 : SS → Option (Int32 × SS)) (rc : SS → Int32 → Option (Int32 × SS)) (s : SS) (x1 : Int32) : Option (Int32 × SS) := (if x1 < ((1 : Int32) <<< ((zS s 59 67) &&& 31)) then (gd (inB x1 1024) (st (pI s 109 (x1.toInt.toNat) 2147483647) fun s4 => (f_X12_order_L32 (fun (s17 : SS)  => (vl (x1 + 1) fun v18 => (rc s17 v18))) x1 4000 s4 0))) else (q0 s))
def f_X12_order_L11 (q0 : SS → Option (Int32 × SS)) : Nat → SS → Int32 → Option (Int32 × SS)
  | 0, _, _ => none
  | n + 1, s, x1 => f_X12_order_L11_b q0 (f_X12_order_L11 q0 n) s x1
set_option maxRecDepth 4000 in
theorem t_X12_order_L11 {r9 : Int32} {s0 sb s9 : SS} {q0 : SS → Option (Int32 × SS} (mb : Mo s0 sb) (hq0 : ∀ (s : SS) (h : List aE), HH s h → Mo sb s → q0 s = some (r9, s9) → AW mX12_order (rmD (1) 0 0) (fin (PI fun r' h' => r9 = r' ∧ HH s9 h' ∧ Mo s0 s9) 0 0) 100 [some (.ref 67), none, none, none, none] [] h 0 0) : ∀ (n : Nat) (s : SS) (h : List aE) (x1 : Int32), HH s h → Mo sb s → f_X12_order_L11 q0 n s x1 = some (r9, s9) → AW mX12_order (rmD (1) 0 0) (fin (PI fun r' h' => r9 = r' ∧ HH s9 h' ∧ Mo s0 s9) 0 0) 11 [some (.ref 67), some (.int x1), none, none, none] [] h 0 0 := by
  intro n
  induction n with
  | zero =>
    intro s h x1 H ms hf
    cases hf
  | succ n ih =>
    intro s h x1 H ms hf
    replace hf : f_X12_order_L11_b q0 (f_X12_order_L11 q0 n) s x1 = some (r9, s9) := hf
    unfold f_X12_order_L11_b at hf
    refine aw_iload_n (pc' := 12) dX12_order_11 rfl rfl ?_
    refine aw_iconst (v := 1) (pc' := 13) dX12_order_12 rfl (by decide) ?_
    refine aw_aload_n (pc' := 14) dX12_order_13 rfl rfl rfl ?_
    refine aw_gi (q := 59) (pc' := 17) H (H.fo rfl rfl) (by decide) rfl dX12_order_14 rfl fl_RX12_431 ?_
    refine aw_ishl (pc' := 18) dX12_order_17 rfl ?_
    refine aw_cge (tgt := 100) (pc' := 21) dX12_order_18 (by decide) rfl (fun c2 => ?_) (fun c2 => ?_)
    · replace hf := ifn c2 hf
      refine AW.lv_le (lz_k (lz_d (lz_d (lz_d (lz_d lz_0))))) ?_
      exact hq0 _ _ H ms hf
    · replace hf := ifp c2 hf
      refine aw_aload_n (pc' := 22) dX12_order_21 rfl rfl rfl ?_
      refine aw_gr (q := 59) (e := 101) (v := .ref 117) (pc' := 25) H (H.fo rfl rfl) (by decide) rfl rfl dX12_order_22 rfl fl_RX12_166 ?_
      refine aw_iload_n (pc' := 26) dX12_order_25 rfl rfl ?_
      refine aw_ldcw (pc' := 29) dX12_order_26 rfl ct_RX12_436 ?_
      obtain ⟨g3, hf⟩ := gd_e hf
      obtain ⟨s4, es4, hf⟩ := st_e hf
      refine aw_is (q := 109) (pc' := 30) es4 H (H.fa rfl rfl rfl) g3 dX12_order_29 rfl (fun h4 H4 => ?_)
      have m4 := Mo.ofI es4
      refine aw_iconst (v := 0) (pc' := 31) dX12_order_30 rfl (by decide) ?_
      refine aw_istore_n (lv' := [_, _, _, _, _]) (pc' := 32) dX12_order_31 rfl (Nat.le_of_ble_eq_true rfl) rfl ?_
      refine t_X12_order_L32 ((mb.tr ms).tr m4) (fun s17 h17 H17 m17 hf => ?_) 4000 _ _ _ H4 (Mo.rf _) hf
      obtain ⟨v18, ev18, hf⟩ := vl_e hf
      refine aw_iincV (y := v18) (lv' := [_, _, _, _, _]) (pc' := 97) dX12_order_94 rfl rfl (Nat.le_of_ble_eq_true rfl) ev18 rfl ?_
      refine aw_goto (tgt := 11) dX12_order_97 (by decide) ?_
      exact ih _ _ _ H17 ((ms.tr m4).tr m17) hf
def f_X12_order_L129_b (q0 : Int32 → Option (Int32 × SS)) (sb : SS) (y1 : Int32) (y2 : Int32) (y3 : Int32) (rc : Int32 → Option (Int32 × SS)) (x4 : Int32) : Option (Int32 × SS) := (jn ((vl (x4 + 1) fun v25 => (rc v25))) fun k24 => (if ((y1 >>> (x4 &&& 31)) &&& (1 : Int32)) = (0 : Int32) then k24 else (b1 (f_X12_costNext sb x4 y1) fun r27 => (vl ((y1 &&& (((1 : Int32) <<< (x4 &&& 31)) ^^^ ((-1) : Int32)))) fun v28 => (gd (inB v28 1024) (gd (inB y1 1024) (if (r27 + (zI sb 109 (v28.toInt.toNat))) = (zI sb 109 (y1.toInt.toNat)) then (q0 x4) else k24)))))))
def f_X12_order_L129 (q0 : Int32 → Option (Int32 × SS)) (sb : SS) (y1 : Int32) (y2 : Int32) (y3 : Int32) : Nat → Int32 → Option (Int32 × SS)
  | 0, _ => none
  | n + 1, x4 => f_X12_order_L129_b q0 sb y1 y2 y3 (f_X12_order_L129 q0 sb y1 y2 y3 n) x4
set_option maxRecDepth 4000 in
theorem t_X12_order_L129 {r9 : Int32} {s0 sb s9 : SS} {hb : List aE} {q0 : Int32 → Option (Int32 × SS} {y1 : Int32} {y2 : Int32} {y3 : Int32} (Hb : HH sb hb) (mb : Mo s0 sb) (hq0 : ∀ (x4 : Int32), q0 x4 = some (r9, s9) → AW mX12_order (rmD (1) 0 0) (fin (PI fun r' h' => r9 = r' ∧ HH s9 h' ∧ Mo s0 s9) 0 0) 174 [some (.ref 67), some (.int y1), some (.int y2), some (.int y3), some (.int x4)] [] hb 0 0) : ∀ (n : Nat) (x4 : Int32), f_X12_order_L129 q0 sb y1 y2 y3 n x4 = some (r9, s9) → AW mX12_order (rmD (1) 0 0) (fin (PI fun r' h' => r9 = r' ∧ HH s9 h' ∧ Mo s0 s9) 0 0) 129 [some (.ref 67), some (.int y1), some (.int y2), some (.int y3), some (.int x4)] [] hb 0 0 := by
  intro n
  induction n with
  | zero =>
    intro x4 hf
    cases hf
  | succ n ih =>
    intro x4 hf
    replace hf : f_X12_order_L129_b q0 sb y1 y2 y3 (f_X12_order_L129 q0 sb y1 y2 y3 n) x4 = some (r9, s9) := hf
    unfold f_X12_order_L129_b at hf
    refine aw_iload_n (pc' := 130) dX12_order_129 rfl rfl ?_
    refine aw_iload (pc' := 132) dX12_order_130 rfl rfl ?_
    refine aw_ishr (pc' := 133) dX12_order_132 rfl ?_
    refine aw_iconst (v := 1) (pc' := 134) dX12_order_133 rfl (by decide) ?_
    refine aw_iand (pc' := 135) dX12_order_134 rfl ?_
    obtain ⟨k24, ek24, hf⟩ := jn_e hf
    have hk24 : k24 = some (r9, s9) → AW mX12_order (rmD (1) 0 0) (fin (PI fun r' h' => r9 = r' ∧ HH s9 h' ∧ Mo s0 s9) 0 0) 168 [some (.ref 67), some (.int y1), some (.int y2), some (.int y3), some (.int x4)] [] hb 0 0 := by
      intro hf
      subst ek24
      obtain ⟨v25, ev25, hf⟩ := vl_e hf
      refine aw_iincV (y := v25) (lv' := [_, _, _, _, _]) (pc' := 171) dX12_order_168 rfl rfl (Nat.le_of_ble_eq_true rfl) ev25 rfl ?_
      refine aw_goto (tgt := 129) dX12_order_171 (by decide) ?_
      exact ih _ hf
    clear ek24
    refine aw_if_eq (tgt := 168) (pc' := 138) dX12_order_135 (by decide) rfl (fun c26 => ?_) (fun c26 => ?_)
    · replace hf := ifp c26 hf
      exact hk24  hf
    · replace hf := ifn c26 hf
      refine aw_aload_n (pc' := 139) dX12_order_138 rfl rfl rfl ?_
      refine aw_iload (pc' := 141) dX12_order_139 rfl rfl ?_
      refine aw_iload_n (pc' := 142) dX12_order_141 rfl rfl ?_
      obtain ⟨r27, ec27, hf⟩ := b1_e hf
      refine aw_callVi (M' := mX12_costNext) (nc' := 0) (ns' := 0) (pc' := 145) dX12_order_142 rfl ml_RX12_437 kX12_costNext (t_X12_costNext Hb ec27) (Hb.ob (Hb.fo rfl rfl) (by decide)) rfl rfl rfl (Nat.le_of_ble_eq_true rfl) (rokD (by omega) (Nat.le_of_ble_eq_true rfl) (Nat.le_of_ble_eq_true rfl) (Nat.le_of_ble_eq_true rfl)) rfl rfl (fun _ h27 q27 => ?_)
      obtain ⟨rfl, rfl⟩ := q27
      refine aw_aload_n (pc' := 146) dX12_order_145 rfl rfl rfl ?_
      refine aw_gr (q := 59) (e := 101) (v := .ref 117) (pc' := 149) Hb (Hb.fo rfl rfl) (by decide) rfl rfl dX12_order_146 rfl fl_RX12_166 ?_
      refine aw_iload_n (pc' := 150) dX12_order_149 rfl rfl ?_
      refine aw_iconst (v := 1) (pc' := 151) dX12_order_150 rfl (by decide) ?_
      refine aw_iload (pc' := 153) dX12_order_151 rfl rfl ?_
      refine aw_ishl (pc' := 154) dX12_order_153 rfl ?_
      refine aw_iconst (v := (-1)) (pc' := 155) dX12_order_154 rfl (by decide) ?_
      refine aw_ixor (pc' := 156) dX12_order_155 rfl ?_
      refine aw_iand (pc' := 157) dX12_order_156 rfl ?_
      obtain ⟨v28, ev28, hf⟩ := vl_e hf
      refine aw_topi ev28 ?_
      obtain ⟨g29, hf⟩ := gd_e hf
      refine aw_ia (q := 109) (pc' := 158) Hb (Hb.fa rfl rfl rfl) g29 dX12_order_157 rfl ?_
      refine aw_iadd (pc' := 159) dX12_order_158 rfl ?_
      refine aw_aload_n (pc' := 160) dX12_order_159 rfl rfl rfl ?_
      refine aw_gr (q := 59) (e := 101) (v := .ref 117) (pc' := 163) Hb (Hb.fo rfl rfl) (by decide) rfl rfl dX12_order_160 rfl fl_RX12_166 ?_
      refine aw_iload_n (pc' := 164) dX12_order_163 rfl rfl ?_
      obtain ⟨g30, hf⟩ := gd_e hf
      refine aw_ia (q := 109) (pc' := 165) Hb (Hb.fa rfl rfl rfl) g30 dX12_order_164 rfl ?_
      refine aw_icmp_eq (tgt := 174) (pc' := 168) dX12_order_165 (by decide) rfl (fun c31 => ?_) (fun c31 => ?_)
      · replace hf := ifp c31 hf
        exact hq0 _ hf
      · replace hf := ifn c31 hf
        exact hk24  hf
def f_X12_order_L118_b (q0 : SS → Option (Int32 × SS)) (y2 : Int32) (rc : SS → Int32 → Int32 → Option (Int32 × SS)) (s : SS) (x1 : Int32) (x3 : Int32) : Option (Int32 × SS) := (if x3 < (zS s 59 67) then (f_X12_order_L129 (fun (x32_4 : Int32) => (gd (inB x3 10) (st (pI s 110 (x3.toInt.toNat) x32_4) fun s34 => (vl ((x1 &&& (((1 : Int32) <<< (x32_4 &&& 31)) ^^^ ((-1) : Int32)))) fun v35 => (vl (x3 + 1) fun v36 => (rc s34 v35 v36)))))) s x1 y2 x3 4000 0) else (q0 s))
def f_X12_order_L118 (q0 : SS → Option (Int32 × SS)) (y2 : Int32) : Nat → SS → Int32 → Int32 → Option (Int32 × SS)
  | 0, _, _, _ => none
  | n + 1, s, x1, x3 => f_X12_order_L118_b q0 y2 (f_X12_order_L118 q0 y2 n) s x1 x3
set_option maxRecDepth 4000 in
theorem t_X12_order_L118 {r9 : Int32} {s0 sb s9 : SS} {q0 : SS → Option (Int32 × SS} {y2 : Int32} (mb : Mo s0 sb) (hq0 : ∀ (s : SS) (h : List aE), HH s h → Mo sb s → q0 s = some (r9, s9) → AW mX12_order (rmD (1) 0 0) (fin (PI fun r' h' => r9 = r' ∧ HH s9 h' ∧ Mo s0 s9) 0 0) 197 [some (.ref 67), none, some (.int y2), none, none] [] h 0 0) : ∀ (n : Nat) (s : SS) (h : List aE) (x1 : Int32) (x3 : Int32), HH s h → Mo sb s → f_X12_order_L118 q0 y2 n s x1 x3 = some (r9, s9) → AW mX12_order (rmD (1) 0 0) (fin (PI fun r' h' => r9 = r' ∧ HH s9 h' ∧ Mo s0 s9) 0 0) 118 [some (.ref 67), some (.int x1), some (.int y2), some (.int x3), none] [] h 0 0 := by
  intro n
  induction n with
  | zero =>
    intro s h x1 x3 H ms hf
    cases hf
  | succ n ih =>
    intro s h x1 x3 H ms hf
    replace hf : f_X12_order_L118_b q0 y2 (f_X12_order_L118 q0 y2 n) s x1 x3 = some (r9, s9) := hf
    unfold f_X12_order_L118_b at hf
    refine aw_iload_n (pc' := 119) dX12_order_118 rfl rfl ?_
    refine aw_aload_n (pc' := 120) dX12_order_119 rfl rfl rfl ?_
    refine aw_gi (q := 59) (pc' := 123) H (H.fo rfl rfl) (by decide) rfl dX12_order_120 rfl fl_RX12_431 ?_
    refine aw_cge (tgt := 197) (pc' := 126) dX12_order_123 (by decide) rfl (fun c23 => ?_) (fun c23 => ?_)
    · replace hf := ifn c23 hf
      refine AW.lv_le (lz_k (lz_d (lz_k (lz_d (lz_d lz_0))))) ?_
      exact hq0 _ _ H ms hf
    · replace hf := ifp c23 hf
      refine aw_iconst (v := 0) (pc' := 127) dX12_order_126 rfl (by decide) ?_
      refine aw_istore (lv' := [_, _, _, _, _]) (pc' := 129) dX12_order_127 rfl (Nat.le_of_ble_eq_true rfl) rfl ?_
      refine t_X12_order_L129 H (mb.tr ms) (fun x32_4 hf => ?_) 4000 _ hf
      refine aw_aload_n (pc' := 175) dX12_order_174 rfl rfl rfl ?_
      refine aw_gr (q := 59) (e := 103) (v := .ref 118) (pc' := 178) H (H.fo rfl rfl) (by decide) rfl rfl dX12_order_175 rfl fl_RX12_172 ?_
      refine aw_iload_n (pc' := 179) dX12_order_178 rfl rfl ?_
      refine aw_iload (pc' := 181) dX12_order_179 rfl rfl ?_
      obtain ⟨g33, hf⟩ := gd_e hf
      obtain ⟨s34, es34, hf⟩ := st_e hf
      refine aw_is (q := 110) (pc' := 182) es34 H (H.fa rfl rfl rfl) g33 dX12_order_181 rfl (fun h34 H34 => ?_)
      have m34 := Mo.ofI es34
      refine aw_iload_n (pc' := 183) dX12_order_182 rfl rfl ?_
      refine aw_iconst (v := 1) (pc' := 184) dX12_order_183 rfl (by decide) ?_
      refine aw_iload (pc' := 186) dX12_order_184 rfl rfl ?_
      refine aw_ishl (pc' := 187) dX12_order_186 rfl ?_
      refine aw_iconst (v := (-1)) (pc' := 188) dX12_order_187 rfl (by decide) ?_
      refine aw_ixor (pc' := 189) dX12_order_188 rfl ?_
      refine aw_iand (pc' := 190) dX12_order_189 rfl ?_
      obtain ⟨v35, ev35, hf⟩ := vl_e hf
      refine aw_topi ev35 ?_
      refine aw_istore_n (lv' := [_, _, _, _, _]) (pc' := 191) dX12_order_190 rfl (Nat.le_of_ble_eq_true rfl) rfl ?_
      obtain ⟨v36, ev36, hf⟩ := vl_e hf
      refine aw_iincV (y := v36) (lv' := [_, _, _, _, _]) (pc' := 194) dX12_order_191 rfl rfl (Nat.le_of_ble_eq_true rfl) ev36 rfl ?_
      refine aw_goto (tgt := 118) dX12_order_194 (by decide) ?_
      refine AW.lv_le (lz_k (lz_k (lz_k (lz_k (lz_d lz_0))))) ?_
      exact ih _ _ _ _ H34 (ms.tr m34) hf
def f_X12_order (s0 : SS)  : Option (Int32 × SS) := (if (zS s0 59 67) = (0 : Int32) then some ((-1), s0) else (f_X12_order_L11 (fun (s19 : SS)  => (vl ((((1 : Int32) <<< ((zS s19 59 67) &&& 31)) - (1 : Int32))) fun v20 => (gd (inB v20 1024) (vl ((zI s19 109 (v20.toInt.toNat))) fun v22 => (f_X12_order_L118 (fun (s37 : SS)  => (vl ((zS s37 59 67)) fun v38 => (st (pS s37 59 72 v38) fun s39 => (st (pS s39 59 67 0) fun s40 => some (v22, s40))))) v22 4000 s19 v20 0))))) 4000 s0 1))
set_option maxRecDepth 4000 in
theorem t_X12_order {r9 : Int32} {s0 s9 : SS} {h0 : List aE}  (H0 : HH s0 h0) (hf : f_X12_order s0 = some (r9, s9)) : AM mX12_order (1) [.ref 67] h0 0 0 (PI fun r' h' => r9 = r' ∧ HH s9 h' ∧ Mo s0 s9) := by
  unfold f_X12_order at hf
  refine am_of (lv := [some (.ref 67), none, none, none, none]) rfl (Nat.le_of_ble_eq_true rfl) rfl ?_
  refine aw_aload_n (pc' := 1) dX12_order_0 rfl rfl rfl ?_
  refine aw_gi (q := 59) (pc' := 4) H0 (H0.fo rfl rfl) (by decide) rfl dX12_order_1 rfl fl_RX12_431 ?_
  refine aw_if_ne (tgt := 9) (pc' := 7) dX12_order_4 (by decide) rfl (fun c1 => ?_) (fun c1 => ?_)
  · replace hf := ifn c1 hf
    refine aw_iconst (v := 1) (pc' := 10) dX12_order_9 rfl (by decide) ?_
    refine aw_istore_n (lv' := [_, _, _, _, _]) (pc' := 11) dX12_order_10 rfl (Nat.le_of_ble_eq_true rfl) rfl ?_
    refine t_X12_order_L11 (Mo.rf _) (fun s19 h19 H19 m19 hf => ?_) 4000 _ _ _ H0 (Mo.rf _) hf
    refine aw_iconst (v := 1) (pc' := 101) dX12_order_100 rfl (by decide) ?_
    refine aw_aload_n (pc' := 102) dX12_order_101 rfl rfl rfl ?_
    refine aw_gi (q := 59) (pc' := 105) H19 (H19.fo rfl rfl) (by decide) rfl dX12_order_102 rfl fl_RX12_431 ?_
    refine aw_ishl (pc' := 106) dX12_order_105 rfl ?_
    refine aw_iconst (v := 1) (pc' := 107) dX12_order_106 rfl (by decide) ?_
    refine aw_isub (pc' := 108) dX12_order_107 rfl ?_
    obtain ⟨v20, ev20, hf⟩ := vl_e hf
    refine aw_topi ev20 ?_
    refine aw_istore_n (lv' := [_, _, _, _, _]) (pc' := 109) dX12_order_108 rfl (Nat.le_of_ble_eq_true rfl) rfl ?_
    refine aw_aload_n (pc' := 110) dX12_order_109 rfl rfl rfl ?_
    refine aw_gr (q := 59) (e := 101) (v := .ref 117) (pc' := 113) H19 (H19.fo rfl rfl) (by decide) rfl rfl dX12_order_110 rfl fl_RX12_166 ?_
    refine aw_iload_n (pc' := 114) dX12_order_113 rfl rfl ?_
    obtain ⟨g21, hf⟩ := gd_e hf
    refine aw_ia (q := 109) (pc' := 115) H19 (H19.fa rfl rfl rfl) g21 dX12_order_114 rfl ?_
    obtain ⟨v22, ev22, hf⟩ := vl_e hf
    refine aw_topi ev22 ?_
    refine aw_istore_n (lv' := [_, _, _, _, _]) (pc' := 116) dX12_order_115 rfl (Nat.le_of_ble_eq_true rfl) rfl ?_
    refine aw_iconst (v := 0) (pc' := 117) dX12_order_116 rfl (by decide) ?_
    refine aw_istore_n (lv' := [_, _, _, _, _]) (pc' := 118) dX12_order_117 rfl (Nat.le_of_ble_eq_true rfl) rfl ?_
    refine t_X12_order_L118 m19 (fun s37 h37 H37 m37 hf => ?_) 4000 _ _ _ _ H19 (Mo.rf _) hf
    refine aw_aload_n (pc' := 198) dX12_order_197 rfl rfl rfl ?_
    refine aw_aload_n (pc' := 199) dX12_order_198 rfl rfl rfl ?_
    refine aw_gi (q := 59) (pc' := 202) H37 (H37.fo rfl rfl) (by decide) rfl dX12_order_199 rfl fl_RX12_431 ?_
    obtain ⟨v38, ev38, hf⟩ := vl_e hf
    refine aw_topi ev38 ?_
    obtain ⟨s39, es39, hf⟩ := st_e hf
    refine aw_pi (q := 59) (pc' := 205) es39 H37 (H37.fo rfl rfl) (by decide) rfl dX12_order_202 rfl fl_RX12_169 rfl (fun h39 H39 => ?_)
    have m39 := Mo.ofS es39
    refine aw_aload_n (pc' := 206) dX12_order_205 rfl rfl rfl ?_
    refine aw_iconst (v := 0) (pc' := 207) dX12_order_206 rfl (by decide) ?_
    obtain ⟨s40, es40, hf⟩ := st_e hf
    refine aw_pi (q := 59) (pc' := 210) es40 H39 (H39.fo rfl rfl) (by decide) rfl dX12_order_207 rfl fl_RX12_431 rfl (fun h40 H40 => ?_)
    have m40 := Mo.ofS es40
    refine aw_iload_n (pc' := 211) dX12_order_210 rfl rfl ?_
    obtain ⟨rfl, rfl⟩ := so2 hf
    exact aw_ri dX12_order_211 rfl rfl (Nat.le_of_ble_eq_true rfl) (Nat.le_of_ble_eq_true rfl) ⟨rfl, H40, (((m19.tr m37).tr m39).tr m40)⟩
  · replace hf := ifp c1 hf
    refine aw_iconst (v := (-1)) (pc' := 8) dX12_order_7 rfl (by decide) ?_
    obtain ⟨rfl, rfl⟩ := so2 hf
    exact aw_ri dX12_order_8 rfl rfl (Nat.le_of_ble_eq_true rfl) (Nat.le_of_ble_eq_true rfl) ⟨rfl, H0, (Mo.rf _)⟩
/-! ThirtyThreeBelowModel.ordered -/
def f_X12_ordered (s0 : SS) (a0 : Int32) : Option Int32 := (b1 (f_X12_in a0 (0 : Int32) ((zS s0 59 72) - (1 : Int32))) fun r1 => (if r1 = (0 : Int32) then some (-1) else (gd (inB a0 10) some (zI s0 110 (a0.toInt.toNat)))))
set_option maxRecDepth 4000 in
theorem t_X12_ordered {r9 : Int32} {s0 : SS} {h0 : List aE} {a0 : Int32} (H0 : HH s0 h0) (hf : f_X12_ordered s0 a0 = some r9) : AM mX12_ordered (1) [.ref 67, .int a0] h0 0 0 (PI fun r' h' => r9 = r' ∧ h0 = h') := by
  unfold f_X12_ordered at hf
  refine am_of (lv := [some (.ref 67), some (.int a0)]) rfl (Nat.le_of_ble_eq_true rfl) rfl ?_
  refine aw_iload_n (pc' := 1) dX12_ordered_0 rfl rfl ?_
  refine aw_iconst (v := 0) (pc' := 2) dX12_ordered_1 rfl (by decide) ?_
  refine aw_aload_n (pc' := 3) dX12_ordered_2 rfl rfl rfl ?_
  refine aw_gi (q := 59) (pc' := 6) H0 (H0.fo rfl rfl) (by decide) rfl dX12_ordered_3 rfl fl_RX12_169 ?_
  refine aw_iconst (v := 1) (pc' := 7) dX12_ordered_6 rfl (by decide) ?_
  refine aw_isub (pc' := 8) dX12_ordered_7 rfl ?_
  obtain ⟨r1, ec1, hf⟩ := b1_e hf
  refine aw_callSi (M' := mX12_in) (nc' := 0) (ns' := 0) (pc' := 11) dX12_ordered_8 rfl ml_RX12_230 kX12_in (t_X12_in ec1) rfl rfl (Nat.le_of_ble_eq_true rfl) (rokD (by omega) (Nat.le_of_ble_eq_true rfl) (Nat.le_of_ble_eq_true rfl) (Nat.le_of_ble_eq_true rfl)) rfl rfl (fun _ h1 q1 => ?_)
  obtain ⟨rfl, rfl, zb1⟩ := q1
  refine aw_if_eq (tgt := 23) (pc' := 14) dX12_ordered_11 (by decide) rfl (fun c2 => ?_) (fun c2 => ?_)
  · replace hf := ifp c2 hf
    refine aw_iconst (v := (-1)) (pc' := 24) dX12_ordered_23 rfl (by decide) ?_
    obtain rfl := Option.some.inj hf
    exact aw_ri dX12_ordered_24 rfl rfl (Nat.le_of_ble_eq_true rfl) (Nat.le_of_ble_eq_true rfl) ⟨rfl, rfl⟩
  · replace hf := ifn c2 hf
    refine aw_aload_n (pc' := 15) dX12_ordered_14 rfl rfl rfl ?_
    refine aw_gr (q := 59) (e := 103) (v := .ref 118) (pc' := 18) H0 (H0.fo rfl rfl) (by decide) rfl rfl dX12_ordered_15 rfl fl_RX12_172 ?_
    refine aw_iload_n (pc' := 19) dX12_ordered_18 rfl rfl ?_
    obtain ⟨g3, hf⟩ := gd_e hf
    refine aw_ia (q := 110) (pc' := 20) H0 (H0.fa rfl rfl rfl) g3 dX12_ordered_19 rfl ?_
    refine aw_goto (tgt := 24) dX12_ordered_20 (by decide) ?_
    obtain rfl := Option.some.inj hf
    exact aw_ri dX12_ordered_24 rfl rfl (Nat.le_of_ble_eq_true rfl) (Nat.le_of_ble_eq_true rfl) ⟨rfl, rfl⟩
/-! ThirtyThreeBelowModel.watch -/
def f_X12_watch_L29_b (q0 : SS → Int32 → Option (Int32 × SS)) (y1 : Int32) (y2 : Int32) (rc : SS → Int32 → Int32 → Int32 → Option (Int32 × SS)) (s : SS) (x3 : Int32) (x4 : Int32) (x5 : Int32) : Option (Int32 × SS) := (if x5 < (zS s 59 4) then (if x4 < (9 : Int32) then (gd (inB x5 120) (jn (fun (s8 : SS) (j8_3 : Int32) (j8_4 : Int32) => (vl (x5 + 1) fun v9 => (rc s8 j8_3 j8_4 v9))) fun k8 => (if (zI s 77 (x5.toInt.toNat)) = (0 : Int32) then (k8 s x3 x4) else (vl (x4 + 1) fun v11 => (gd (inB x5 120) (if y2 < (zI s 76 (x5.toInt.toNat)) then (k8 s x3 v11) else (if x3 = ((3 : Int32) * y1) then (k8 s x3 v11) else (gd (inB x3 9) (st (pI s 111 (x3.toInt.toNat) x5) fun s16 => (vl (x3 + 1) fun v17 => (k8 s16 v17 v11))))))))))) else (q0 s x3)) else (q0 s x3))
def f_X12_watch_L29 (q0 : SS → Int32 → Option (Int32 × SS)) (y1 : Int32) (y2 : Int32) : Nat → SS → Int32 → Int32 → Int32 → Option (Int32 × SS)
  | 0, _, _, _, _ => none
  | n + 1, s, x3, x4, x5 => f_X12_watch_L29_b q0 y1 y2 (f_X12_watch_L29 q0 y1 y2 n) s x3 x4 x5
set_option maxRecDepth 4000 in
theorem t_X12_watch_L29 {r9 : Int32} {s0 sb s9 : SS} {q0 : SS → Int32 → Option (Int32 × SS} {y1 : Int32} {y2 : Int32} (mb : Mo s0 sb) (hq0 : ∀ (s : SS) (h : List aE) (x3 : Int32), HH s h → Mo sb s → q0 s x3 = some (r9, s9) → AW mX12_watch (rmD (1) 0 0) (fin (PI fun r' h' => r9 = r' ∧ HH s9 h' ∧ Mo s0 s9) 0 0) 99 [some (.ref 67), some (.int y1), none, some (.int x3), none, none] [] h 0 0) : ∀ (n : Nat) (s : SS) (h : List aE) (x3 : Int32) (x4 : Int32) (x5 : Int32), HH s h → Mo sb s → f_X12_watch_L29 q0 y1 y2 n s x3 x4 x5 = some (r9, s9) → AW mX12_watch (rmD (1) 0 0) (fin (PI fun r' h' => r9 = r' ∧ HH s9 h' ∧ Mo s0 s9) 0 0) 29 [some (.ref 67), some (.int y1), some (.int y2), some (.int x3), some (.int x4), some (.int x5)] [] h 0 0 := by
  intro n
  induction n with
  | zero =>
    intro s h x3 x4 x5 H ms hf
    cases hf
  | succ n ih =>
    intro s h x3 x4 x5 H ms hf
    replace hf : f_X12_watch_L29_b q0 y1 y2 (f_X12_watch_L29 q0 y1 y2 n) s x3 x4 x5 = some (r9, s9) := hf
    unfold f_X12_watch_L29_b at hf
    refine aw_iload (pc' := 31) dX12_watch_29 rfl rfl ?_
    refine aw_aload_n (pc' := 32) dX12_watch_31 rfl rfl rfl ?_
    refine aw_gi (q := 59) (pc' := 35) H (H.fo rfl rfl) (by decide) rfl dX12_watch_32 rfl fl_RX12_242 ?_
    refine aw_cge (tgt := 99) (pc' := 38) dX12_watch_35 (by decide) rfl (fun c5 => ?_) (fun c5 => ?_)
    · replace hf := ifn c5 hf
      refine AW.lv_le (lz_k (lz_k (lz_d (lz_k (lz_d (lz_d lz_0)))))) ?_
      exact hq0 _ _ _ H ms hf
    · replace hf := ifp c5 hf
      refine aw_iload (pc' := 40) dX12_watch_38 rfl rfl ?_
      refine aw_bipush (v := 9) (pc' := 42) dX12_watch_40 rfl (by decide) ?_
      refine aw_cge (tgt := 99) (pc' := 45) dX12_watch_42 (by decide) rfl (fun c6 => ?_) (fun c6 => ?_)
      · replace hf := ifn c6 hf
        refine AW.lv_le (lz_k (lz_k (lz_d (lz_k (lz_d (lz_d lz_0)))))) ?_
        exact hq0 _ _ _ H ms hf
      · replace hf := ifp c6 hf
        refine aw_aload_n (pc' := 46) dX12_watch_45 rfl rfl rfl ?_
        refine aw_gr (q := 59) (e := 37) (v := .ref 85) (pc' := 49) H (H.fo rfl rfl) (by decide) rfl rfl dX12_watch_46 rfl fl_RX12_62 ?_
        refine aw_iload (pc' := 51) dX12_watch_49 rfl rfl ?_
        obtain ⟨g7, hf⟩ := gd_e hf
        refine aw_za (q := 77) (pc' := 52) H (H.fa rfl rfl rfl) g7 dX12_watch_51 rfl ?_
        obtain ⟨k8, ek8, hf⟩ := jn_e hf
        have hk8 : ∀ (s8 : SS) (h8 : List aE) (j8_3 : Int32) (j8_4 : Int32), HH s8 h8 → Mo s s8 → k8 s8 j8_3 j8_4 = some (r9, s9) → AW mX12_watch (rmD (1) 0 0) (fin (PI fun r' h' => r9 = r' ∧ HH s9 h' ∧ Mo s0 s9) 0 0) 93 [some (.ref 67), some (.int y1), some (.int y2), some (.int j8_3), some (.int j8_4), some (.int x5)] [] h8 0 0 := by
          intro s8 h8 j8_3 j8_4 H8 m8 hf
          subst ek8
          obtain ⟨v9, ev9, hf⟩ := vl_e hf
          refine aw_iincV (y := v9) (lv' := [_, _, _, _, _, _]) (pc' := 96) dX12_watch_93 rfl rfl (Nat.le_of_ble_eq_true rfl) ev9 rfl ?_
          refine aw_goto (tgt := 29) dX12_watch_96 (by decide) ?_
          exact ih _ _ _ _ _ H8 (ms.tr m8) hf
        clear ek8
        refine aw_if_ne (tgt := 58) (pc' := 55) dX12_watch_52 (by decide) rfl (fun c10 => ?_) (fun c10 => ?_)
        · replace hf := ifn c10 hf
          obtain ⟨v11, ev11, hf⟩ := vl_e hf
          refine aw_iincV (y := v11) (lv' := [_, _, _, _, _, _]) (pc' := 61) dX12_watch_58 rfl rfl (Nat.le_of_ble_eq_true rfl) ev11 rfl ?_
          refine aw_aload_n (pc' := 62) dX12_watch_61 rfl rfl rfl ?_
          refine aw_gr (q := 59) (e := 35) (v := .ref 84) (pc' := 65) H (H.fo rfl rfl) (by decide) rfl rfl dX12_watch_62 rfl fl_RX12_59 ?_
          refine aw_iload (pc' := 67) dX12_watch_65 rfl rfl ?_
          obtain ⟨g12, hf⟩ := gd_e hf
          refine aw_ia (q := 76) (pc' := 68) H (H.fa rfl rfl rfl) g12 dX12_watch_67 rfl ?_
          refine aw_iload_n (pc' := 69) dX12_watch_68 rfl rfl ?_
          refine aw_cgt (tgt := 93) (pc' := 72) dX12_watch_69 (by decide) rfl (fun c13 => ?_) (fun c13 => ?_)
          · replace hf := ifp c13 hf
            exact hk8 _ _ _ _ H (Mo.rf _) hf
          · replace hf := ifn c13 hf
            refine aw_iload_n (pc' := 73) dX12_watch_72 rfl rfl ?_
            refine aw_iconst (v := 3) (pc' := 74) dX12_watch_73 rfl (by decide) ?_
            refine aw_iload_n (pc' := 75) dX12_watch_74 rfl rfl ?_
            refine aw_imul (pc' := 76) dX12_watch_75 rfl ?_
            refine aw_icmp_ne (tgt := 82) (pc' := 79) dX12_watch_76 (by decide) rfl (fun c14 => ?_) (fun c14 => ?_)
            · replace hf := ifn c14 hf
              refine aw_aload_n (pc' := 83) dX12_watch_82 rfl rfl rfl ?_
              refine aw_gr (q := 59) (e := 105) (v := .ref 119) (pc' := 86) H (H.fo rfl rfl) (by decide) rfl rfl dX12_watch_83 rfl fl_RX12_178 ?_
              refine aw_iload_n (pc' := 87) dX12_watch_86 rfl rfl ?_
              refine aw_iload (pc' := 89) dX12_watch_87 rfl rfl ?_
              obtain ⟨g15, hf⟩ := gd_e hf
              obtain ⟨s16, es16, hf⟩ := st_e hf
              refine aw_is (q := 111) (pc' := 90) es16 H (H.fa rfl rfl rfl) g15 dX12_watch_89 rfl (fun h16 H16 => ?_)
              have m16 := Mo.ofI es16
              obtain ⟨v17, ev17, hf⟩ := vl_e hf
              refine aw_iincV (y := v17) (lv' := [_, _, _, _, _, _]) (pc' := 93) dX12_watch_90 rfl rfl (Nat.le_of_ble_eq_true rfl) ev17 rfl ?_
              exact hk8 _ _ _ _ H16 m16 hf
            · replace hf := ifp c14 hf
              refine aw_goto (tgt := 93) dX12_watch_79 (by decide) ?_
              exact hk8 _ _ _ _ H (Mo.rf _) hf
        · replace hf := ifp c10 hf
          refine aw_goto (tgt := 93) dX12_watch_55 (by decide) ?_
          exact hk8 _ _ _ _ H (Mo.rf _) hf
def f_X12_watch_L102_b (q0 : SS → Option (Int32 × SS)) (y1 : Int32) (y3 : Int32) (rc : SS → Int32 → Option (Int32 × SS)) (s : SS) (x5 : Int32) : Option (Int32 × SS) := (if x5 < (9 : Int32) then (gd (inB x5 9) (st (pI s 111 (x5.toInt.toNat) (-2)) fun s21 => (vl (x5 + 1) fun v22 => (rc s21 v22)))) else (q0 s))
def f_X12_watch_L102 (q0 : SS → Option (Int32 × SS)) (y1 : Int32) (y3 : Int32) : Nat → SS → Int32 → Option (Int32 × SS)
  | 0, _, _ => none
  | n + 1, s, x5 => f_X12_watch_L102_b q0 y1 y3 (f_X12_watch_L102 q0 y1 y3 n) s x5
set_option maxRecDepth 4000 in
theorem t_X12_watch_L102 {r9 : Int32} {s0 sb s9 : SS} {q0 : SS → Option (Int32 × SS} {y1 : Int32} {y3 : Int32} (mb : Mo s0 sb) (hq0 : ∀ (s : SS) (h : List aE), HH s h → Mo sb s → q0 s = some (r9, s9) → AW mX12_watch (rmD (1) 0 0) (fin (PI fun r' h' => r9 = r' ∧ HH s9 h' ∧ Mo s0 s9) 0 0) 124 [some (.ref 67), some (.int y1), none, some (.int y3), none, none] [] h 0 0) : ∀ (n : Nat) (s : SS) (h : List aE) (x5 : Int32), HH s h → Mo sb s → f_X12_watch_L102 q0 y1 y3 n s x5 = some (r9, s9) → AW mX12_watch (rmD (1) 0 0) (fin (PI fun r' h' => r9 = r' ∧ HH s9 h' ∧ Mo s0 s9) 0 0) 102 [some (.ref 67), some (.int y1), none, some (.int y3), none, some (.int x5)] [] h 0 0 := by
  intro n
  induction n with
  | zero =>
    intro s h x5 H ms hf
    cases hf
  | succ n ih =>
    intro s h x5 H ms hf
    replace hf : f_X12_watch_L102_b q0 y1 y3 (f_X12_watch_L102 q0 y1 y3 n) s x5 = some (r9, s9) := hf
    unfold f_X12_watch_L102_b at hf
    refine aw_iload (pc' := 104) dX12_watch_102 rfl rfl ?_
    refine aw_bipush (v := 9) (pc' := 106) dX12_watch_104 rfl (by decide) ?_
    refine aw_cge (tgt := 124) (pc' := 109) dX12_watch_106 (by decide) rfl (fun c19 => ?_) (fun c19 => ?_)
    · replace hf := ifn c19 hf
      refine AW.lv_le (lz_k (lz_k (lz_d (lz_k (lz_d (lz_d lz_0)))))) ?_
      exact hq0 _ _ H ms hf
    · replace hf := ifp c19 hf
      refine aw_aload_n (pc' := 110) dX12_watch_109 rfl rfl rfl ?_
      refine aw_gr (q := 59) (e := 105) (v := .ref 119) (pc' := 113) H (H.fo rfl rfl) (by decide) rfl rfl dX12_watch_110 rfl fl_RX12_178 ?_
      refine aw_iload (pc' := 115) dX12_watch_113 rfl rfl ?_
      refine aw_bipush (v := (-2)) (pc' := 117) dX12_watch_115 rfl (by decide) ?_
      obtain ⟨g20, hf⟩ := gd_e hf
      obtain ⟨s21, es21, hf⟩ := st_e hf
      refine aw_is (q := 111) (pc' := 118) es21 H (H.fa rfl rfl rfl) g20 dX12_watch_117 rfl (fun h21 H21 => ?_)
      have m21 := Mo.ofI es21
      obtain ⟨v22, ev22, hf⟩ := vl_e hf
      refine aw_iincV (y := v22) (lv' := [_, _, _, _, _, _]) (pc' := 121) dX12_watch_118 rfl rfl (Nat.le_of_ble_eq_true rfl) ev22 rfl ?_
      refine aw_goto (tgt := 102) dX12_watch_121 (by decide) ?_
      exact ih _ _ _ H21 (ms.tr m21) hf
def f_X12_watch (s0 : SS) (a0 : Int32) (a1 : Int32) : Option (Int32 × SS) := (b1 (f_X12_in a0 (1 : Int32) (3 : Int32)) fun r1 => (if r1 = (0 : Int32) then some ((-1), s0) else (b1 (f_X12_in a1 (0 : Int32) (9 : Int32)) fun r3 => (if r3 = (0 : Int32) then some ((-1), s0) else (f_X12_watch_L29 (fun (s18 : SS) (x18_3 : Int32) => (f_X12_watch_L102 (fun (s23 : SS)  => (st (pS s23 59 74 a0) fun s24 => some (x18_3, s24))) a0 x18_3 4000 s18 x18_3)) a0 a1 4000 s0 0 0 0)))))
set_option maxRecDepth 4000 in
theorem t_X12_watch {r9 : Int32} {s0 s9 : SS} {h0 : List aE} {a0 : Int32} {a1 : Int32} (H0 : HH s0 h0) (hf : f_X12_watch s0 a0 a1 = some (r9, s9)) : AM mX12_watch (1) [.ref 67, .int a0, .int a1] h0 0 0 (PI fun r' h' => r9 = r' ∧ HH s9 h' ∧ Mo s0 s9) := by
  unfold f_X12_watch at hf
  refine am_of (lv := [some (.ref 67), some (.int a0), some (.int a1), none, none, none]) rfl (Nat.le_of_ble_eq_true rfl) rfl ?_
  refine aw_iload_n (pc' := 1) dX12_watch_0 rfl rfl ?_
  refine aw_iconst (v := 1) (pc' := 2) dX12_watch_1 rfl (by decide) ?_
  refine aw_iconst (v := 3) (pc' := 3) dX12_watch_2 rfl (by decide) ?_
  obtain ⟨r1, ec1, hf⟩ := b1_e hf
  refine aw_callSi (M' := mX12_in) (nc' := 0) (ns' := 0) (pc' := 6) dX12_watch_3 rfl ml_RX12_230 kX12_in (t_X12_in ec1) rfl rfl (Nat.le_of_ble_eq_true rfl) (rokD (by omega) (Nat.le_of_ble_eq_true rfl) (Nat.le_of_ble_eq_true rfl) (Nat.le_of_ble_eq_true rfl)) rfl rfl (fun _ h1 q1 => ?_)
  obtain ⟨rfl, rfl, zb1⟩ := q1
  refine aw_if_eq (tgt := 19) (pc' := 9) dX12_watch_6 (by decide) rfl (fun c2 => ?_) (fun c2 => ?_)
  · replace hf := ifp c2 hf
    refine aw_iconst (v := (-1)) (pc' := 20) dX12_watch_19 rfl (by decide) ?_
    obtain ⟨rfl, rfl⟩ := so2 hf
    exact aw_ri dX12_watch_20 rfl rfl (Nat.le_of_ble_eq_true rfl) (Nat.le_of_ble_eq_true rfl) ⟨rfl, H0, (Mo.rf _)⟩
  · replace hf := ifn c2 hf
    refine aw_iload_n (pc' := 10) dX12_watch_9 rfl rfl ?_
    refine aw_iconst (v := 0) (pc' := 11) dX12_watch_10 rfl (by decide) ?_
    refine aw_bipush (v := 9) (pc' := 13) dX12_watch_11 rfl (by decide) ?_
    obtain ⟨r3, ec3, hf⟩ := b1_e hf
    refine aw_callSi (M' := mX12_in) (nc' := 0) (ns' := 0) (pc' := 16) dX12_watch_13 rfl ml_RX12_230 kX12_in (t_X12_in ec3) rfl rfl (Nat.le_of_ble_eq_true rfl) (rokD (by omega) (Nat.le_of_ble_eq_true rfl) (Nat.le_of_ble_eq_true rfl) (Nat.le_of_ble_eq_true rfl)) rfl rfl (fun _ h3 q3 => ?_)
    obtain ⟨rfl, rfl, zb3⟩ := q3
    refine aw_if_ne (tgt := 21) (pc' := 19) dX12_watch_16 (by decide) rfl (fun c4 => ?_) (fun c4 => ?_)
    · replace hf := ifn c4 hf
      refine aw_iconst (v := 0) (pc' := 22) dX12_watch_21 rfl (by decide) ?_
      refine aw_istore_n (lv' := [_, _, _, _, _, _]) (pc' := 23) dX12_watch_22 rfl (Nat.le_of_ble_eq_true rfl) rfl ?_
      refine aw_iconst (v := 0) (pc' := 24) dX12_watch_23 rfl (by decide) ?_
      refine aw_istore (lv' := [_, _, _, _, _, _]) (pc' := 26) dX12_watch_24 rfl (Nat.le_of_ble_eq_true rfl) rfl ?_
      refine aw_iconst (v := 0) (pc' := 27) dX12_watch_26 rfl (by decide) ?_
      refine aw_istore (lv' := [_, _, _, _, _, _]) (pc' := 29) dX12_watch_27 rfl (Nat.le_of_ble_eq_true rfl) rfl ?_
      refine t_X12_watch_L29 (Mo.rf _) (fun s18 h18 x18_3 H18 m18 hf => ?_) 4000 _ _ _ _ _ H0 (Mo.rf _) hf
      refine aw_iload_n (pc' := 100) dX12_watch_99 rfl rfl ?_
      refine aw_istore (lv' := [_, _, _, _, _, _]) (pc' := 102) dX12_watch_100 rfl (Nat.le_of_ble_eq_true rfl) rfl ?_
      refine t_X12_watch_L102 m18 (fun s23 h23 H23 m23 hf => ?_) 4000 _ _ _ H18 (Mo.rf _) hf
      refine aw_aload_n (pc' := 125) dX12_watch_124 rfl rfl rfl ?_
      refine aw_iload_n (pc' := 126) dX12_watch_125 rfl rfl ?_
      obtain ⟨s24, es24, hf⟩ := st_e hf
      refine aw_pi (q := 59) (pc' := 129) es24 H23 (H23.fo rfl rfl) (by decide) rfl dX12_watch_126 rfl fl_RX12_175 rfl (fun h24 H24 => ?_)
      have m24 := Mo.ofS es24
      refine aw_iload_n (pc' := 130) dX12_watch_129 rfl rfl ?_
      obtain ⟨rfl, rfl⟩ := so2 hf
      exact aw_ri dX12_watch_130 rfl rfl (Nat.le_of_ble_eq_true rfl) (Nat.le_of_ble_eq_true rfl) ⟨rfl, H24, ((m18.tr m23).tr m24)⟩
    · replace hf := ifp c4 hf
      refine aw_iconst (v := (-1)) (pc' := 20) dX12_watch_19 rfl (by decide) ?_
      obtain ⟨rfl, rfl⟩ := so2 hf
      exact aw_ri dX12_watch_20 rfl rfl (Nat.le_of_ble_eq_true rfl) (Nat.le_of_ble_eq_true rfl) ⟨rfl, H0, (Mo.rf _)⟩
/-! ThirtyThreeBelowModel.watched -/
def f_X12_watched (s0 : SS) (a0 : Int32) (a1 : Int32) : Option Int32 := (b1 (f_X12_in a0 (0 : Int32) (2 : Int32)) fun r1 => (if r1 = (0 : Int32) then some (-1) else (b1 (f_X12_in a1 (0 : Int32) ((zS s0 59 74) - (1 : Int32))) fun r3 => (if r3 = (0 : Int32) then some (-1) else (vl ((((zS s0 59 74) * a0) + a1)) fun v5 => (gd (inB v5 9) some (zI s0 111 (v5.toInt.toNat))))))))
set_option maxRecDepth 4000 in
theorem t_X12_watched {r9 : Int32} {s0 : SS} {h0 : List aE} {a0 : Int32} {a1 : Int32} (H0 : HH s0 h0) (hf : f_X12_watched s0 a0 a1 = some r9) : AM mX12_watched (1) [.ref 67, .int a0, .int a1] h0 0 0 (PI fun r' h' => r9 = r' ∧ h0 = h') := by
  unfold f_X12_watched at hf
  refine am_of (lv := [some (.ref 67), some (.int a0), some (.int a1)]) rfl (Nat.le_of_ble_eq_true rfl) rfl ?_
  refine aw_iload_n (pc' := 1) dX12_watched_0 rfl rfl ?_
  refine aw_iconst (v := 0) (pc' := 2) dX12_watched_1 rfl (by decide) ?_
  refine aw_iconst (v := 2) (pc' := 3) dX12_watched_2 rfl (by decide) ?_
  obtain ⟨r1, ec1, hf⟩ := b1_e hf
  refine aw_callSi (M' := mX12_in) (nc' := 0) (ns' := 0) (pc' := 6) dX12_watched_3 rfl ml_RX12_230 kX12_in (t_X12_in ec1) rfl rfl (Nat.le_of_ble_eq_true rfl) (rokD (by omega) (Nat.le_of_ble_eq_true rfl) (Nat.le_of_ble_eq_true rfl) (Nat.le_of_ble_eq_true rfl)) rfl rfl (fun _ h1 q1 => ?_)
  obtain ⟨rfl, rfl, zb1⟩ := q1
  refine aw_if_eq (tgt := 39) (pc' := 9) dX12_watched_6 (by decide) rfl (fun c2 => ?_) (fun c2 => ?_)
  · replace hf := ifp c2 hf
    refine aw_iconst (v := (-1)) (pc' := 40) dX12_watched_39 rfl (by decide) ?_
    obtain rfl := Option.some.inj hf
    exact aw_ri dX12_watched_40 rfl rfl (Nat.le_of_ble_eq_true rfl) (Nat.le_of_ble_eq_true rfl) ⟨rfl, rfl⟩
  · replace hf := ifn c2 hf
    refine aw_iload_n (pc' := 10) dX12_watched_9 rfl rfl ?_
    refine aw_iconst (v := 0) (pc' := 11) dX12_watched_10 rfl (by decide) ?_
    refine aw_aload_n (pc' := 12) dX12_watched_11 rfl rfl rfl ?_
    refine aw_gi (q := 59) (pc' := 15) H0 (H0.fo rfl rfl) (by decide) rfl dX12_watched_12 rfl fl_RX12_175 ?_
    refine aw_iconst (v := 1) (pc' := 16) dX12_watched_15 rfl (by decide) ?_
    refine aw_isub (pc' := 17) dX12_watched_16 rfl ?_
    obtain ⟨r3, ec3, hf⟩ := b1_e hf
    refine aw_callSi (M' := mX12_in) (nc' := 0) (ns' := 0) (pc' := 20) dX12_watched_17 rfl ml_RX12_230 kX12_in (t_X12_in ec3) rfl rfl (Nat.le_of_ble_eq_true rfl) (rokD (by omega) (Nat.le_of_ble_eq_true rfl) (Nat.le_of_ble_eq_true rfl) (Nat.le_of_ble_eq_true rfl)) rfl rfl (fun _ h3 q3 => ?_)
    obtain ⟨rfl, rfl, zb3⟩ := q3
    refine aw_if_eq (tgt := 39) (pc' := 23) dX12_watched_20 (by decide) rfl (fun c4 => ?_) (fun c4 => ?_)
    · replace hf := ifp c4 hf
      refine aw_iconst (v := (-1)) (pc' := 40) dX12_watched_39 rfl (by decide) ?_
      obtain rfl := Option.some.inj hf
      exact aw_ri dX12_watched_40 rfl rfl (Nat.le_of_ble_eq_true rfl) (Nat.le_of_ble_eq_true rfl) ⟨rfl, rfl⟩
    · replace hf := ifn c4 hf
      refine aw_aload_n (pc' := 24) dX12_watched_23 rfl rfl rfl ?_
      refine aw_gr (q := 59) (e := 105) (v := .ref 119) (pc' := 27) H0 (H0.fo rfl rfl) (by decide) rfl rfl dX12_watched_24 rfl fl_RX12_178 ?_
      refine aw_aload_n (pc' := 28) dX12_watched_27 rfl rfl rfl ?_
      refine aw_gi (q := 59) (pc' := 31) H0 (H0.fo rfl rfl) (by decide) rfl dX12_watched_28 rfl fl_RX12_175 ?_
      refine aw_iload_n (pc' := 32) dX12_watched_31 rfl rfl ?_
      refine aw_imul (pc' := 33) dX12_watched_32 rfl ?_
      refine aw_iload_n (pc' := 34) dX12_watched_33 rfl rfl ?_
      refine aw_iadd (pc' := 35) dX12_watched_34 rfl ?_
      obtain ⟨v5, ev5, hf⟩ := vl_e hf
      refine aw_topi ev5 ?_
      obtain ⟨g6, hf⟩ := gd_e hf
      refine aw_ia (q := 111) (pc' := 36) H0 (H0.fa rfl rfl rfl) g6 dX12_watched_35 rfl ?_
      refine aw_goto (tgt := 40) dX12_watched_36 (by decide) ?_
      obtain rfl := Option.some.inj hf
      exact aw_ri dX12_watched_40 rfl rfl (Nat.le_of_ble_eq_true rfl) (Nat.le_of_ble_eq_true rfl) ⟨rfl, rfl⟩
/-! ThirtyThreeBelowModel.aim -/
def f_X12_aim (s0 : SS) (a0 : Int32) (a1 : Int32) : Option (Int32 × SS) := (b1 (f_X12_in a0 (0 : Int32) (31 : Int32)) fun r1 => (if r1 = (0 : Int32) then some ((-1), s0) else (b1 (f_X12_in a1 (0 : Int32) (9 : Int32)) fun r3 => (if r3 = (0 : Int32) then some ((-1), s0) else (if (zS s0 59 76) = (6 : Int32) then some ((-3), s0) else (vl ((zS s0 59 76)) fun v6 => (gd (inB v6 6) (st (pI s0 112 (v6.toInt.toNat) a1) fun s8 => (vl (((zS s8 59 76) + (1 : Int32))) fun v9 => (st (pS s8 59 76 v9) fun s10 => some ((zS s10 59 76), s10)))))))))))
set_option maxRecDepth 4000 in
theorem t_X12_aim {r9 : Int32} {s0 s9 : SS} {h0 : List aE} {a0 : Int32} {a1 : Int32} (H0 : HH s0 h0) (hf : f_X12_aim s0 a0 a1 = some (r9, s9)) : AM mX12_aim (1) [.ref 67, .int a0, .int a1] h0 0 0 (PI fun r' h' => r9 = r' ∧ HH s9 h' ∧ Mo s0 s9) := by
  unfold f_X12_aim at hf
  refine am_of (lv := [some (.ref 67), some (.int a0), some (.int a1)]) rfl (Nat.le_of_ble_eq_true rfl) rfl ?_
  refine aw_iload_n (pc' := 1) dX12_aim_0 rfl rfl ?_
  refine aw_iconst (v := 0) (pc' := 2) dX12_aim_1 rfl (by decide) ?_
  refine aw_bipush (v := 31) (pc' := 4) dX12_aim_2 rfl (by decide) ?_
  obtain ⟨r1, ec1, hf⟩ := b1_e hf
  refine aw_callSi (M' := mX12_in) (nc' := 0) (ns' := 0) (pc' := 7) dX12_aim_4 rfl ml_RX12_230 kX12_in (t_X12_in ec1) rfl rfl (Nat.le_of_ble_eq_true rfl) (rokD (by omega) (Nat.le_of_ble_eq_true rfl) (Nat.le_of_ble_eq_true rfl) (Nat.le_of_ble_eq_true rfl)) rfl rfl (fun _ h1 q1 => ?_)
  obtain ⟨rfl, rfl, zb1⟩ := q1
  refine aw_if_eq (tgt := 20) (pc' := 10) dX12_aim_7 (by decide) rfl (fun c2 => ?_) (fun c2 => ?_)
  · replace hf := ifp c2 hf
    refine aw_iconst (v := (-1)) (pc' := 21) dX12_aim_20 rfl (by decide) ?_
    obtain ⟨rfl, rfl⟩ := so2 hf
    exact aw_ri dX12_aim_21 rfl rfl (Nat.le_of_ble_eq_true rfl) (Nat.le_of_ble_eq_true rfl) ⟨rfl, H0, (Mo.rf _)⟩
  · replace hf := ifn c2 hf
    refine aw_iload_n (pc' := 11) dX12_aim_10 rfl rfl ?_
    refine aw_iconst (v := 0) (pc' := 12) dX12_aim_11 rfl (by decide) ?_
    refine aw_bipush (v := 9) (pc' := 14) dX12_aim_12 rfl (by decide) ?_
    obtain ⟨r3, ec3, hf⟩ := b1_e hf
    refine aw_callSi (M' := mX12_in) (nc' := 0) (ns' := 0) (pc' := 17) dX12_aim_14 rfl ml_RX12_230 kX12_in (t_X12_in ec3) rfl rfl (Nat.le_of_ble_eq_true rfl) (rokD (by omega) (Nat.le_of_ble_eq_true rfl) (Nat.le_of_ble_eq_true rfl) (Nat.le_of_ble_eq_true rfl)) rfl rfl (fun _ h3 q3 => ?_)
    obtain ⟨rfl, rfl, zb3⟩ := q3
    refine aw_if_ne (tgt := 22) (pc' := 20) dX12_aim_17 (by decide) rfl (fun c4 => ?_) (fun c4 => ?_)
    · replace hf := ifn c4 hf
      refine aw_aload_n (pc' := 23) dX12_aim_22 rfl rfl rfl ?_
      refine aw_gi (q := 59) (pc' := 26) H0 (H0.fo rfl rfl) (by decide) rfl dX12_aim_23 rfl fl_RX12_440 ?_
      refine aw_bipush (v := 6) (pc' := 28) dX12_aim_26 rfl (by decide) ?_
      refine aw_icmp_ne (tgt := 34) (pc' := 31) dX12_aim_28 (by decide) rfl (fun c5 => ?_) (fun c5 => ?_)
      · replace hf := ifn c5 hf
        refine aw_aload_n (pc' := 35) dX12_aim_34 rfl rfl rfl ?_
        refine aw_gr (q := 59) (e := 107) (v := .ref 120) (pc' := 38) H0 (H0.fo rfl rfl) (by decide) rfl rfl dX12_aim_35 rfl fl_RX12_181 ?_
        refine aw_aload_n (pc' := 39) dX12_aim_38 rfl rfl rfl ?_
        refine aw_gi (q := 59) (pc' := 42) H0 (H0.fo rfl rfl) (by decide) rfl dX12_aim_39 rfl fl_RX12_440 ?_
        refine aw_iload_n (pc' := 43) dX12_aim_42 rfl rfl ?_
        obtain ⟨v6, ev6, hf⟩ := vl_e hf
        refine aw_sndi ev6 ?_
        obtain ⟨g7, hf⟩ := gd_e hf
        obtain ⟨s8, es8, hf⟩ := st_e hf
        refine aw_is (q := 112) (pc' := 44) es8 H0 (H0.fa rfl rfl rfl) g7 dX12_aim_43 rfl (fun h8 H8 => ?_)
        have m8 := Mo.ofI es8
        refine aw_aload_n (pc' := 45) dX12_aim_44 rfl rfl rfl ?_
        refine aw_dup (pc' := 46) dX12_aim_45 rfl rfl ?_
        refine aw_gi (q := 59) (pc' := 49) H8 (H8.fo rfl rfl) (by decide) rfl dX12_aim_46 rfl fl_RX12_440 ?_
        refine aw_iconst (v := 1) (pc' := 50) dX12_aim_49 rfl (by decide) ?_
        refine aw_iadd (pc' := 51) dX12_aim_50 rfl ?_
        obtain ⟨v9, ev9, hf⟩ := vl_e hf
        refine aw_topi ev9 ?_
        obtain ⟨s10, es10, hf⟩ := st_e hf
        refine aw_pi (q := 59) (pc' := 54) es10 H8 (H8.fo rfl rfl) (by decide) rfl dX12_aim_51 rfl fl_RX12_440 rfl (fun h10 H10 => ?_)
        have m10 := Mo.ofS es10
        refine aw_aload_n (pc' := 55) dX12_aim_54 rfl rfl rfl ?_
        refine aw_gi (q := 59) (pc' := 58) H10 (H10.fo rfl rfl) (by decide) rfl dX12_aim_55 rfl fl_RX12_440 ?_
        obtain ⟨rfl, rfl⟩ := so2 hf
        exact aw_ri dX12_aim_58 rfl rfl (Nat.le_of_ble_eq_true rfl) (Nat.le_of_ble_eq_true rfl) ⟨rfl, H10, (m8.tr m10)⟩
      · replace hf := ifp c5 hf
        refine aw_bipush (v := (-3)) (pc' := 33) dX12_aim_31 rfl (by decide) ?_
        obtain ⟨rfl, rfl⟩ := so2 hf
        exact aw_ri dX12_aim_33 rfl rfl (Nat.le_of_ble_eq_true rfl) (Nat.le_of_ble_eq_true rfl) ⟨rfl, H0, (Mo.rf _)⟩
    · replace hf := ifp c4 hf
      refine aw_iconst (v := (-1)) (pc' := 21) dX12_aim_20 rfl (by decide) ?_
      obtain ⟨rfl, rfl⟩ := so2 hf
      exact aw_ri dX12_aim_21 rfl rfl (Nat.le_of_ble_eq_true rfl) (Nat.le_of_ble_eq_true rfl) ⟨rfl, H0, (Mo.rf _)⟩
/-! ThirtyThreeBelowModel.rock -/
def f_X12_rock (s0 : SS) (a0 : Int32) (a1 : Int32) (a2 : Int32) : Option (Int32 × SS) := (b1 (f_X12_in a0 (0 : Int32) (3 : Int32)) fun r1 => (if r1 = (0 : Int32) then some ((-1), s0) else (b1 (f_X12_in a1 (0 : Int32) (5 : Int32)) fun r3 => (if r3 = (0 : Int32) then some ((-1), s0) else (b1 (f_X12_in a2 (1 : Int32) (9 : Int32)) fun r5 => (if r5 = (0 : Int32) then some ((-1), s0) else (vl ((((6 : Int32) * a0) + a1)) fun v7 => (gd (inB v7 24) (vl ((zI s0 113 (v7.toInt.toNat))) fun v9 => (vl ((((6 : Int32) * a0) + a1)) fun v10 => (gd (inB v10 24) (st (pI s0 113 (v10.toInt.toNat) a2) fun s12 => some (v9, s12)))))))))))))
set_option maxRecDepth 4000 in
theorem t_X12_rock {r9 : Int32} {s0 s9 : SS} {h0 : List aE} {a0 : Int32} {a1 : Int32} {a2 : Int32} (H0 : HH s0 h0) (hf : f_X12_rock s0 a0 a1 a2 = some (r9, s9)) : AM mX12_rock (1) [.ref 67, .int a0, .int a1, .int a2] h0 0 0 (PI fun r' h' => r9 = r' ∧ HH s9 h' ∧ Mo s0 s9) := by
  unfold f_X12_rock at hf
  refine am_of (lv := [some (.ref 67), some (.int a0), some (.int a1), some (.int a2), none]) rfl (Nat.le_of_ble_eq_true rfl) rfl ?_
  refine aw_iload_n (pc' := 1) dX12_rock_0 rfl rfl ?_
  refine aw_iconst (v := 0) (pc' := 2) dX12_rock_1 rfl (by decide) ?_
  refine aw_iconst (v := 3) (pc' := 3) dX12_rock_2 rfl (by decide) ?_
  obtain ⟨r1, ec1, hf⟩ := b1_e hf
  refine aw_callSi (M' := mX12_in) (nc' := 0) (ns' := 0) (pc' := 6) dX12_rock_3 rfl ml_RX12_230 kX12_in (t_X12_in ec1) rfl rfl (Nat.le_of_ble_eq_true rfl) (rokD (by omega) (Nat.le_of_ble_eq_true rfl) (Nat.le_of_ble_eq_true rfl) (Nat.le_of_ble_eq_true rfl)) rfl rfl (fun _ h1 q1 => ?_)
  obtain ⟨rfl, rfl, zb1⟩ := q1
  refine aw_if_eq (tgt := 28) (pc' := 9) dX12_rock_6 (by decide) rfl (fun c2 => ?_) (fun c2 => ?_)
  · replace hf := ifp c2 hf
    refine aw_iconst (v := (-1)) (pc' := 29) dX12_rock_28 rfl (by decide) ?_
    obtain ⟨rfl, rfl⟩ := so2 hf
    exact aw_ri dX12_rock_29 rfl rfl (Nat.le_of_ble_eq_true rfl) (Nat.le_of_ble_eq_true rfl) ⟨rfl, H0, (Mo.rf _)⟩
  · replace hf := ifn c2 hf
    refine aw_iload_n (pc' := 10) dX12_rock_9 rfl rfl ?_
    refine aw_iconst (v := 0) (pc' := 11) dX12_rock_10 rfl (by decide) ?_
    refine aw_iconst (v := 5) (pc' := 12) dX12_rock_11 rfl (by decide) ?_
    obtain ⟨r3, ec3, hf⟩ := b1_e hf
    refine aw_callSi (M' := mX12_in) (nc' := 0) (ns' := 0) (pc' := 15) dX12_rock_12 rfl ml_RX12_230 kX12_in (t_X12_in ec3) rfl rfl (Nat.le_of_ble_eq_true rfl) (rokD (by omega) (Nat.le_of_ble_eq_true rfl) (Nat.le_of_ble_eq_true rfl) (Nat.le_of_ble_eq_true rfl)) rfl rfl (fun _ h3 q3 => ?_)
    obtain ⟨rfl, rfl, zb3⟩ := q3
    refine aw_if_eq (tgt := 28) (pc' := 18) dX12_rock_15 (by decide) rfl (fun c4 => ?_) (fun c4 => ?_)
    · replace hf := ifp c4 hf
      refine aw_iconst (v := (-1)) (pc' := 29) dX12_rock_28 rfl (by decide) ?_
      obtain ⟨rfl, rfl⟩ := so2 hf
      exact aw_ri dX12_rock_29 rfl rfl (Nat.le_of_ble_eq_true rfl) (Nat.le_of_ble_eq_true rfl) ⟨rfl, H0, (Mo.rf _)⟩
    · replace hf := ifn c4 hf
      refine aw_iload_n (pc' := 19) dX12_rock_18 rfl rfl ?_
      refine aw_iconst (v := 1) (pc' := 20) dX12_rock_19 rfl (by decide) ?_
      refine aw_bipush (v := 9) (pc' := 22) dX12_rock_20 rfl (by decide) ?_
      obtain ⟨r5, ec5, hf⟩ := b1_e hf
      refine aw_callSi (M' := mX12_in) (nc' := 0) (ns' := 0) (pc' := 25) dX12_rock_22 rfl ml_RX12_230 kX12_in (t_X12_in ec5) rfl rfl (Nat.le_of_ble_eq_true rfl) (rokD (by omega) (Nat.le_of_ble_eq_true rfl) (Nat.le_of_ble_eq_true rfl) (Nat.le_of_ble_eq_true rfl)) rfl rfl (fun _ h5 q5 => ?_)
      obtain ⟨rfl, rfl, zb5⟩ := q5
      refine aw_if_ne (tgt := 30) (pc' := 28) dX12_rock_25 (by decide) rfl (fun c6 => ?_) (fun c6 => ?_)
      · replace hf := ifn c6 hf
        refine aw_aload_n (pc' := 31) dX12_rock_30 rfl rfl rfl ?_
        refine aw_gr (q := 59) (e := 109) (v := .ref 121) (pc' := 34) H0 (H0.fo rfl rfl) (by decide) rfl rfl dX12_rock_31 rfl fl_RX12_184 ?_
        refine aw_bipush (v := 6) (pc' := 36) dX12_rock_34 rfl (by decide) ?_
        refine aw_iload_n (pc' := 37) dX12_rock_36 rfl rfl ?_
        refine aw_imul (pc' := 38) dX12_rock_37 rfl ?_
        refine aw_iload_n (pc' := 39) dX12_rock_38 rfl rfl ?_
        refine aw_iadd (pc' := 40) dX12_rock_39 rfl ?_
        obtain ⟨v7, ev7, hf⟩ := vl_e hf
        refine aw_topi ev7 ?_
        obtain ⟨g8, hf⟩ := gd_e hf
        refine aw_ia (q := 113) (pc' := 41) H0 (H0.fa rfl rfl rfl) g8 dX12_rock_40 rfl ?_
        obtain ⟨v9, ev9, hf⟩ := vl_e hf
        refine aw_topi ev9 ?_
        refine aw_istore (lv' := [_, _, _, _, _]) (pc' := 43) dX12_rock_41 rfl (Nat.le_of_ble_eq_true rfl) rfl ?_
        refine aw_aload_n (pc' := 44) dX12_rock_43 rfl rfl rfl ?_
        refine aw_gr (q := 59) (e := 109) (v := .ref 121) (pc' := 47) H0 (H0.fo rfl rfl) (by decide) rfl rfl dX12_rock_44 rfl fl_RX12_184 ?_
        refine aw_bipush (v := 6) (pc' := 49) dX12_rock_47 rfl (by decide) ?_
        refine aw_iload_n (pc' := 50) dX12_rock_49 rfl rfl ?_
        refine aw_imul (pc' := 51) dX12_rock_50 rfl ?_
        refine aw_iload_n (pc' := 52) dX12_rock_51 rfl rfl ?_
        refine aw_iadd (pc' := 53) dX12_rock_52 rfl ?_
        refine aw_iload_n (pc' := 54) dX12_rock_53 rfl rfl ?_
        obtain ⟨v10, ev10, hf⟩ := vl_e hf
        refine aw_sndi ev10 ?_
        obtain ⟨g11, hf⟩ := gd_e hf
        obtain ⟨s12, es12, hf⟩ := st_e hf
        refine aw_is (q := 113) (pc' := 55) es12 H0 (H0.fa rfl rfl rfl) g11 dX12_rock_54 rfl (fun h12 H12 => ?_)
        have m12 := Mo.ofI es12
        refine aw_iload (pc' := 57) dX12_rock_55 rfl rfl ?_
        obtain ⟨rfl, rfl⟩ := so2 hf
        exact aw_ri dX12_rock_57 rfl rfl (Nat.le_of_ble_eq_true rfl) (Nat.le_of_ble_eq_true rfl) ⟨rfl, H12, m12⟩
      · replace hf := ifp c6 hf
        refine aw_iconst (v := (-1)) (pc' := 29) dX12_rock_28 rfl (by decide) ?_
        obtain ⟨rfl, rfl⟩ := so2 hf
        exact aw_ri dX12_rock_29 rfl rfl (Nat.le_of_ble_eq_true rfl) (Nat.le_of_ble_eq_true rfl) ⟨rfl, H0, (Mo.rf _)⟩
/-! ThirtyThreeBelowModel.minutesAt -/
def f_X12_minutesAt_L6_b (s0 : SS) (y1 : Int32) (y2 : Int32) (y3 : Int32) (y4 : Int32) (rc : Int32 → Int32 → Option Int32) (x5 : Int32) (x6 : Int32) : Option Int32 := (if x6 < y3 then (gd (inB y1 6) (gd (inB y2 3) (vl ((((6 : Int32) * x6) + y1)) fun v4 => (gd (inB v4 24) (vl ((((((zI s0 112 (y1.toInt.toNat)) + (1 : Int32)) * y4) * (zI s0 78 (y2.toInt.toNat))) * (zI s0 113 (v4.toInt.toNat)))) fun v6 => (jn (fun (t7_0 : Int32) => (vl (x6 + 1) fun v8 => (rc t7_0 v8))) fun k7 => (if x5 < v6 then (k7 v6) else (k7 x5)))))))) else some x5)
def f_X12_minutesAt_L6 (s0 : SS) (y1 : Int32) (y2 : Int32) (y3 : Int32) (y4 : Int32) : Nat → Int32 → Int32 → Option Int32
  | 0, _, _ => none
  | n + 1, x5, x6 => f_X12_minutesAt_L6_b s0 y1 y2 y3 y4 (f_X12_minutesAt_L6 s0 y1 y2 y3 y4 n) x5 x6
set_option maxRecDepth 4000 in
theorem t_X12_minutesAt_L6 {r9 : Int32} {s0 : SS} {h0 : List aE} {y1 : Int32} {y2 : Int32} {y3 : Int32} {y4 : Int32} (H0 : HH s0 h0)  : ∀ (n : Nat) (x5 : Int32) (x6 : Int32), f_X12_minutesAt_L6 s0 y1 y2 y3 y4 n x5 x6 = some r9 → AW mX12_minutesAt (rmD (0) 0 0) (fin (PI fun r' h' => r9 = r' ∧ h0 = h') 0 0) 6 [some (.ref 67), some (.int y1), some (.int y2), some (.int y3), some (.int y4), some (.int x5), some (.int x6), none] [] h0 0 0 := by
  intro n
  induction n with
  | zero =>
    intro x5 x6 hf
    cases hf
  | succ n ih =>
    intro x5 x6 hf
    replace hf : f_X12_minutesAt_L6_b s0 y1 y2 y3 y4 (f_X12_minutesAt_L6 s0 y1 y2 y3 y4 n) x5 x6 = some r9 := hf
    unfold f_X12_minutesAt_L6_b at hf
    refine aw_iload (pc' := 8) dX12_minutesAt_6 rfl rfl ?_
    refine aw_iload_n (pc' := 9) dX12_minutesAt_8 rfl rfl ?_
    refine aw_cge (tgt := 67) (pc' := 12) dX12_minutesAt_9 (by decide) rfl (fun c1 => ?_) (fun c1 => ?_)
    · replace hf := ifn c1 hf
      refine aw_iload (pc' := 69) dX12_minutesAt_67 rfl rfl ?_
      obtain rfl := Option.some.inj hf
      exact aw_ri dX12_minutesAt_69 rfl rfl (Nat.le_of_ble_eq_true rfl) (Nat.le_of_ble_eq_true rfl) ⟨rfl, rfl⟩
    · replace hf := ifp c1 hf
      refine aw_aload_n (pc' := 13) dX12_minutesAt_12 rfl rfl rfl ?_
      refine aw_gr (q := 59) (e := 107) (v := .ref 120) (pc' := 16) H0 (H0.fo rfl rfl) (by decide) rfl rfl dX12_minutesAt_13 rfl fl_RX12_181 ?_
      refine aw_iload_n (pc' := 17) dX12_minutesAt_16 rfl rfl ?_
      obtain ⟨g2, hf⟩ := gd_e hf
      refine aw_ia (q := 112) (pc' := 18) H0 (H0.fa rfl rfl rfl) g2 dX12_minutesAt_17 rfl ?_
      refine aw_iconst (v := 1) (pc' := 19) dX12_minutesAt_18 rfl (by decide) ?_
      refine aw_iadd (pc' := 20) dX12_minutesAt_19 rfl ?_
      refine aw_iload (pc' := 22) dX12_minutesAt_20 rfl rfl ?_
      refine aw_imul (pc' := 23) dX12_minutesAt_22 rfl ?_
      refine aw_aload_n (pc' := 24) dX12_minutesAt_23 rfl rfl rfl ?_
      refine aw_gr (q := 59) (e := 39) (v := .ref 86) (pc' := 27) H0 (H0.fo rfl rfl) (by decide) rfl rfl dX12_minutesAt_24 rfl fl_RX12_69 ?_
      refine aw_iload_n (pc' := 28) dX12_minutesAt_27 rfl rfl ?_
      obtain ⟨g3, hf⟩ := gd_e hf
      refine aw_ia (q := 78) (pc' := 29) H0 (H0.fa rfl rfl rfl) g3 dX12_minutesAt_28 rfl ?_
      refine aw_imul (pc' := 30) dX12_minutesAt_29 rfl ?_
      refine aw_aload_n (pc' := 31) dX12_minutesAt_30 rfl rfl rfl ?_
      refine aw_gr (q := 59) (e := 109) (v := .ref 121) (pc' := 34) H0 (H0.fo rfl rfl) (by decide) rfl rfl dX12_minutesAt_31 rfl fl_RX12_184 ?_
      refine aw_bipush (v := 6) (pc' := 36) dX12_minutesAt_34 rfl (by decide) ?_
      refine aw_iload (pc' := 38) dX12_minutesAt_36 rfl rfl ?_
      refine aw_imul (pc' := 39) dX12_minutesAt_38 rfl ?_
      refine aw_iload_n (pc' := 40) dX12_minutesAt_39 rfl rfl ?_
      refine aw_iadd (pc' := 41) dX12_minutesAt_40 rfl ?_
      obtain ⟨v4, ev4, hf⟩ := vl_e hf
      refine aw_topi ev4 ?_
      obtain ⟨g5, hf⟩ := gd_e hf
      refine aw_ia (q := 113) (pc' := 42) H0 (H0.fa rfl rfl rfl) g5 dX12_minutesAt_41 rfl ?_
      refine aw_imul (pc' := 43) dX12_minutesAt_42 rfl ?_
      obtain ⟨v6, ev6, hf⟩ := vl_e hf
      refine aw_topi ev6 ?_
      refine aw_istore (lv' := [_, _, _, _, _, _, _, _]) (pc' := 45) dX12_minutesAt_43 rfl (Nat.le_of_ble_eq_true rfl) rfl ?_
      refine aw_iload (pc' := 47) dX12_minutesAt_45 rfl rfl ?_
      refine aw_iload (pc' := 49) dX12_minutesAt_47 rfl rfl ?_
      obtain ⟨k7, ek7, hf⟩ := jn_e hf
      have hk7 : ∀ (t7_0 : Int32), k7 t7_0 = some r9 → AW mX12_minutesAt (rmD (0) 0 0) (fin (PI fun r' h' => r9 = r' ∧ h0 = h') 0 0) 59 [some (.ref 67), some (.int y1), some (.int y2), some (.int y3), some (.int y4), none, some (.int x6), none] [.int t7_0] h0 0 0 := by
        intro t7_0 hf
        subst ek7
        refine aw_istore (lv' := [_, _, _, _, _, _, _, _]) (pc' := 61) dX12_minutesAt_59 rfl (Nat.le_of_ble_eq_true rfl) rfl ?_
        obtain ⟨v8, ev8, hf⟩ := vl_e hf
        refine aw_iincV (y := v8) (lv' := [_, _, _, _, _, _, _, _]) (pc' := 64) dX12_minutesAt_61 rfl rfl (Nat.le_of_ble_eq_true rfl) ev8 rfl ?_
        refine aw_goto (tgt := 6) dX12_minutesAt_64 (by decide) ?_
        exact ih _ _ hf
      clear ek7
      refine aw_cle (tgt := 57) (pc' := 52) dX12_minutesAt_49 (by decide) rfl (fun c9 => ?_) (fun c9 => ?_)
      · replace hf := ifn c9 hf
        refine aw_iload (pc' := 59) dX12_minutesAt_57 rfl rfl ?_
        refine AW.lv_le (lz_k (lz_k (lz_k (lz_k (lz_k (lz_d (lz_k (lz_d lz_0)))))))) ?_
        exact hk7 _ hf
      · replace hf := ifp c9 hf
        refine aw_iload (pc' := 54) dX12_minutesAt_52 rfl rfl ?_
        refine aw_goto (tgt := 59) dX12_minutesAt_54 (by decide) ?_
        refine AW.lv_le (lz_k (lz_k (lz_k (lz_k (lz_k (lz_d (lz_k (lz_d lz_0)))))))) ?_
        exact hk7 _ hf
def f_X12_minutesAt (s0 : SS) (a0 : Int32) (a1 : Int32) (a2 : Int32) (a3 : Int32) : Option Int32 := (f_X12_minutesAt_L6 s0 a0 a1 a2 a3 4000 0 0)
set_option maxRecDepth 4000 in
theorem t_X12_minutesAt {r9 : Int32} {s0 : SS} {h0 : List aE} {a0 : Int32} {a1 : Int32} {a2 : Int32} {a3 : Int32} (H0 : HH s0 h0) (hf : f_X12_minutesAt s0 a0 a1 a2 a3 = some r9) : AM mX12_minutesAt (0) [.ref 67, .int a0, .int a1, .int a2, .int a3] h0 0 0 (PI fun r' h' => r9 = r' ∧ h0 = h') := by
  unfold f_X12_minutesAt at hf
  refine am_of (lv := [some (.ref 67), some (.int a0), some (.int a1), some (.int a2), some (.int a3), none, none, none]) rfl (Nat.le_of_ble_eq_true rfl) rfl ?_
  refine aw_iconst (v := 0) (pc' := 1) dX12_minutesAt_0 rfl (by decide) ?_
  refine aw_istore (lv' := [_, _, _, _, _, _, _, _]) (pc' := 3) dX12_minutesAt_1 rfl (Nat.le_of_ble_eq_true rfl) rfl ?_
  refine aw_iconst (v := 0) (pc' := 4) dX12_minutesAt_3 rfl (by decide) ?_
  refine aw_istore (lv' := [_, _, _, _, _, _, _, _]) (pc' := 6) dX12_minutesAt_4 rfl (Nat.le_of_ble_eq_true rfl) rfl ?_
  refine t_X12_minutesAt_L6 H0  4000 _ _ hf
/-! ThirtyThreeBelowModel.aimed -/
def f_X12_aimed_L130_b (q0 : SS → Int32 → Option (Int32 × SS)) (y1 : Int32) (y2 : Int32) (y3 : Int32) (y5 : Int32) (y6 : Int32) (y7 : Int32) (rc : SS → Int32 → Int32 → Option (Int32 × SS)) (s : SS) (x4 : Int32) (x8 : Int32) : Option (Int32 × SS) := (if x8 < (3 : Int32) then (b1 (f_X12_minutesAt s y5 y7 y1 y2) fun r18 => (jn (fun (t19_0 : Int32) => (jn (fun (t20_0 : Int32) => (jn (fun (s21 : SS) (j21_4 : Int32) => (vl (x8 + 1) fun v22 => (rc s21 j21_4 v22))) fun k21 => (if t20_0 < x4 then (st (pI s 114 ((0 : Int32).toInt.toNat) y5) fun s24 => (st (pI s24 115 ((0 : Int32).toInt.toNat) y7) fun s25 => (st (pI s25 114 ((1 : Int32).toInt.toNat) y6) fun s26 => (st (pI s26 115 ((1 : Int32).toInt.toNat) x8) fun s27 => (k21 s27 t20_0))))) else (k21 s x4)))) fun k20 => (if r18 < t19_0 then (k20 t19_0) else (k20 r18)))) fun k19 => (if y3 = (2 : Int32) then (b1 (f_X12_minutesAt s y6 x8 y1 y2) fun r30 => (k19 r30)) else (k19 0)))) else (q0 s x4))
def f_X12_aimed_L130 (q0 : SS → Int32 → Option (Int32 × SS)) (y1 : Int32) (y2 : Int32) (y3 : Int32) (y5 : Int32) (y6 : Int32) (y7 : Int32) : Nat → SS → Int32 → Int32 → Option (Int32 × SS)
  | 0, _, _, _ => none
  | n + 1, s, x4, x8 => f_X12_aimed_L130_b q0 y1 y2 y3 y5 y6 y7 (f_X12_aimed_L130 q0 y1 y2 y3 y5 y6 y7 n) s x4 x8
set_option maxRecDepth 4000 in
theorem t_X12_aimed_L130 {r9 : Int32} {s0 sb s9 : SS} {q0 : SS → Int32 → Option (Int32 × SS} {y1 : Int32} {y2 : Int32} {y3 : Int32} {y5 : Int32} {y6 : Int32} {y7 : Int32} (mb : Mo s0 sb) (hq0 : ∀ (s : SS) (h : List aE) (x4 : Int32), HH s h → Mo sb s → q0 s x4 = some (r9, s9) → AW mX12_aimed (rmD (1) 0 0) (fin (PI fun r' h' => r9 = r' ∧ HH s9 h' ∧ Mo s0 s9) 0 0) 237 [some (.ref 67), some (.int y1), some (.int y2), some (.int y3), some (.int x4), some (.int y5), some (.int y6), some (.int y7), none, none, none] [] h 0 0) : ∀ (n : Nat) (s : SS) (h : List aE) (x4 : Int32) (x8 : Int32), HH s h → Mo sb s → f_X12_aimed_L130 q0 y1 y2 y3 y5 y6 y7 n s x4 x8 = some (r9, s9) → AW mX12_aimed (rmD (1) 0 0) (fin (PI fun r' h' => r9 = r' ∧ HH s9 h' ∧ Mo s0 s9) 0 0) 130 [some (.ref 67), some (.int y1), some (.int y2), some (.int y3), some (.int x4), some (.int y5), some (.int y6), some (.int y7), some (.int x8), none, none] [] h 0 0 := by
  intro n
  induction n with
  | zero =>
    intro s h x4 x8 H ms hf
    cases hf
  | succ n ih =>
    intro s h x4 x8 H ms hf
    replace hf : f_X12_aimed_L130_b q0 y1 y2 y3 y5 y6 y7 (f_X12_aimed_L130 q0 y1 y2 y3 y5 y6 y7 n) s x4 x8 = some (r9, s9) := hf
    unfold f_X12_aimed_L130_b at hf
    refine aw_iload (pc' := 132) dX12_aimed_130 rfl rfl ?_
    refine aw_iconst (v := 3) (pc' := 133) dX12_aimed_132 rfl (by decide) ?_
    refine aw_cge (tgt := 237) (pc' := 136) dX12_aimed_133 (by decide) rfl (fun c17 => ?_) (fun c17 => ?_)
    · replace hf := ifn c17 hf
      refine AW.lv_le (lz_k (lz_k (lz_k (lz_k (lz_k (lz_k (lz_k (lz_k (lz_d (lz_d (lz_d lz_0))))))))))) ?_
      exact hq0 _ _ _ H ms hf
    · replace hf := ifp c17 hf
      refine aw_aload_n (pc' := 137) dX12_aimed_136 rfl rfl rfl ?_
      refine aw_iload (pc' := 139) dX12_aimed_137 rfl rfl ?_
      refine aw_iload (pc' := 141) dX12_aimed_139 rfl rfl ?_
      refine aw_iload_n (pc' := 142) dX12_aimed_141 rfl rfl ?_
      refine aw_iload_n (pc' := 143) dX12_aimed_142 rfl rfl ?_
      obtain ⟨r18, ec18, hf⟩ := b1_e hf
      refine aw_callVi (M' := mX12_minutesAt) (nc' := 0) (ns' := 0) (pc' := 146) dX12_aimed_143 rfl ml_RX12_443 kX12_minutesAt (t_X12_minutesAt H ec18) (H.ob (H.fo rfl rfl) (by decide)) rfl rfl rfl (Nat.le_of_ble_eq_true rfl) (rokD (by omega) (Nat.le_of_ble_eq_true rfl) (Nat.le_of_ble_eq_true rfl) (Nat.le_of_ble_eq_true rfl)) rfl rfl (fun _ h18 q18 => ?_)
      obtain ⟨rfl, rfl⟩ := q18
      refine aw_istore (lv' := [_, _, _, _, _, _, _, _, _, _, _]) (pc' := 148) dX12_aimed_146 rfl (Nat.le_of_ble_eq_true rfl) rfl ?_
      refine aw_iload_n (pc' := 149) dX12_aimed_148 rfl rfl ?_
      refine aw_iconst (v := 2) (pc' := 150) dX12_aimed_149 rfl (by decide) ?_
      obtain ⟨k19, ek19, hf⟩ := jn_e hf
      have hk19 : ∀ (t19_0 : Int32), k19 t19_0 = some (r9, s9) → AW mX12_aimed (rmD (1) 0 0) (fin (PI fun r' h' => r9 = r' ∧ HH s9 h' ∧ Mo s0 s9) 0 0) 167 [some (.ref 67), some (.int y1), some (.int y2), some (.int y3), some (.int x4), some (.int y5), some (.int y6), some (.int y7), some (.int x8), some (.int r18), none] [.int t19_0] h 0 0 := by
        intro t19_0 hf
        subst ek19
        refine aw_istore (lv' := [_, _, _, _, _, _, _, _, _, _, _]) (pc' := 169) dX12_aimed_167 rfl (Nat.le_of_ble_eq_true rfl) rfl ?_
        refine aw_iload (pc' := 171) dX12_aimed_169 rfl rfl ?_
        refine aw_iload (pc' := 173) dX12_aimed_171 rfl rfl ?_
        obtain ⟨k20, ek20, hf⟩ := jn_e hf
        have hk20 : ∀ (t20_0 : Int32), k20 t20_0 = some (r9, s9) → AW mX12_aimed (rmD (1) 0 0) (fin (PI fun r' h' => r9 = r' ∧ HH s9 h' ∧ Mo s0 s9) 0 0) 183 [some (.ref 67), some (.int y1), some (.int y2), some (.int y3), some (.int x4), some (.int y5), some (.int y6), some (.int y7), some (.int x8), none, none] [.int t20_0] h 0 0 := by
          intro t20_0 hf
          subst ek20
          refine aw_istore (lv' := [_, _, _, _, _, _, _, _, _, _, _]) (pc' := 185) dX12_aimed_183 rfl (Nat.le_of_ble_eq_true rfl) rfl ?_
          refine aw_iload (pc' := 187) dX12_aimed_185 rfl rfl ?_
          refine aw_iload (pc' := 189) dX12_aimed_187 rfl rfl ?_
          obtain ⟨k21, ek21, hf⟩ := jn_e hf
          have hk21 : ∀ (s21 : SS) (h21 : List aE) (j21_4 : Int32), HH s21 h21 → Mo s s21 → k21 s21 j21_4 = some (r9, s9) → AW mX12_aimed (rmD (1) 0 0) (fin (PI fun r' h' => r9 = r' ∧ HH s9 h' ∧ Mo s0 s9) 0 0) 231 [some (.ref 67), some (.int y1), some (.int y2), some (.int y3), some (.int j21_4), some (.int y5), some (.int y6), some (.int y7), some (.int x8), none, none] [] h21 0 0 := by
            intro s21 h21 j21_4 H21 m21 hf
            subst ek21
            obtain ⟨v22, ev22, hf⟩ := vl_e hf
            refine aw_iincV (y := v22) (lv' := [_, _, _, _, _, _, _, _, _, _, _]) (pc' := 234) dX12_aimed_231 rfl rfl (Nat.le_of_ble_eq_true rfl) ev22 rfl ?_
            refine aw_goto (tgt := 130) dX12_aimed_234 (by decide) ?_
            exact ih _ _ _ _ H21 (ms.tr m21) hf
          clear ek21
          refine aw_clt (tgt := 195) (pc' := 192) dX12_aimed_189 (by decide) rfl (fun c23 => ?_) (fun c23 => ?_)
          · replace hf := ifp c23 hf
            refine aw_iload (pc' := 197) dX12_aimed_195 rfl rfl ?_
            refine aw_istore (lv' := [_, _, _, _, _, _, _, _, _, _, _]) (pc' := 199) dX12_aimed_197 rfl (Nat.le_of_ble_eq_true rfl) rfl ?_
            refine aw_aload_n (pc' := 200) dX12_aimed_199 rfl rfl rfl ?_
            refine aw_gr (q := 59) (e := 111) (v := .ref 122) (pc' := 203) H (H.fo rfl rfl) (by decide) rfl rfl dX12_aimed_200 rfl fl_RX12_187 ?_
            refine aw_iconst (v := 0) (pc' := 204) dX12_aimed_203 rfl (by decide) ?_
            refine aw_iload (pc' := 206) dX12_aimed_204 rfl rfl ?_
            obtain ⟨s24, es24, hf⟩ := st_e hf
            refine aw_is (q := 114) (pc' := 207) es24 H (H.fa rfl rfl rfl) (by decide) dX12_aimed_206 rfl (fun h24 H24 => ?_)
            have m24 := Mo.ofI es24
            refine aw_aload_n (pc' := 208) dX12_aimed_207 rfl rfl rfl ?_
            refine aw_gr (q := 59) (e := 113) (v := .ref 123) (pc' := 211) H24 (H24.fo rfl rfl) (by decide) rfl rfl dX12_aimed_208 rfl fl_RX12_190 ?_
            refine aw_iconst (v := 0) (pc' := 212) dX12_aimed_211 rfl (by decide) ?_
            refine aw_iload (pc' := 214) dX12_aimed_212 rfl rfl ?_
            obtain ⟨s25, es25, hf⟩ := st_e hf
            refine aw_is (q := 115) (pc' := 215) es25 H24 (H24.fa rfl rfl rfl) (by decide) dX12_aimed_214 rfl (fun h25 H25 => ?_)
            have m25 := Mo.ofI es25
            refine aw_aload_n (pc' := 216) dX12_aimed_215 rfl rfl rfl ?_
            refine aw_gr (q := 59) (e := 111) (v := .ref 122) (pc' := 219) H25 (H25.fo rfl rfl) (by decide) rfl rfl dX12_aimed_216 rfl fl_RX12_187 ?_
            refine aw_iconst (v := 1) (pc' := 220) dX12_aimed_219 rfl (by decide) ?_
            refine aw_iload (pc' := 222) dX12_aimed_220 rfl rfl ?_
            obtain ⟨s26, es26, hf⟩ := st_e hf
            refine aw_is (q := 114) (pc' := 223) es26 H25 (H25.fa rfl rfl rfl) (by decide) dX12_aimed_222 rfl (fun h26 H26 => ?_)
            have m26 := Mo.ofI es26
            refine aw_aload_n (pc' := 224) dX12_aimed_223 rfl rfl rfl ?_
            refine aw_gr (q := 59) (e := 113) (v := .ref 123) (pc' := 227) H26 (H26.fo rfl rfl) (by decide) rfl rfl dX12_aimed_224 rfl fl_RX12_190 ?_
            refine aw_iconst (v := 1) (pc' := 228) dX12_aimed_227 rfl (by decide) ?_
            refine aw_iload (pc' := 230) dX12_aimed_228 rfl rfl ?_
            obtain ⟨s27, es27, hf⟩ := st_e hf
            refine aw_is (q := 115) (pc' := 231) es27 H26 (H26.fa rfl rfl rfl) (by decide) dX12_aimed_230 rfl (fun h27 H27 => ?_)
            have m27 := Mo.ofI es27
            refine AW.lv_le (lz_k (lz_k (lz_k (lz_k (lz_k (lz_k (lz_k (lz_k (lz_k (lz_d (lz_d lz_0))))))))))) ?_
            exact hk21 _ _ _ H27 (((m24.tr m25).tr m26).tr m27) hf
          · replace hf := ifn c23 hf
            refine aw_goto (tgt := 231) dX12_aimed_192 (by decide) ?_
            refine AW.lv_le (lz_k (lz_k (lz_k (lz_k (lz_k (lz_k (lz_k (lz_k (lz_k (lz_d (lz_d lz_0))))))))))) ?_
            exact hk21 _ _ _ H (Mo.rf _) hf
        clear ek20
        refine aw_cle (tgt := 181) (pc' := 176) dX12_aimed_173 (by decide) rfl (fun c28 => ?_) (fun c28 => ?_)
        · replace hf := ifn c28 hf
          refine aw_iload (pc' := 183) dX12_aimed_181 rfl rfl ?_
          refine AW.lv_le (lz_k (lz_k (lz_k (lz_k (lz_k (lz_k (lz_k (lz_k (lz_k (lz_d (lz_d lz_0))))))))))) ?_
          exact hk20 _ hf
        · replace hf := ifp c28 hf
          refine aw_iload (pc' := 178) dX12_aimed_176 rfl rfl ?_
          refine aw_goto (tgt := 183) dX12_aimed_178 (by decide) ?_
          refine AW.lv_le (lz_k (lz_k (lz_k (lz_k (lz_k (lz_k (lz_k (lz_k (lz_k (lz_d (lz_d lz_0))))))))))) ?_
          exact hk20 _ hf
      clear ek19
      refine aw_icmp_ne (tgt := 166) (pc' := 153) dX12_aimed_150 (by decide) rfl (fun c29 => ?_) (fun c29 => ?_)
      · replace hf := ifn c29 hf
        refine aw_iconst (v := 0) (pc' := 167) dX12_aimed_166 rfl (by decide) ?_
        exact hk19 _ hf
      · replace hf := ifp c29 hf
        refine aw_aload_n (pc' := 154) dX12_aimed_153 rfl rfl rfl ?_
        refine aw_iload (pc' := 156) dX12_aimed_154 rfl rfl ?_
        refine aw_iload (pc' := 158) dX12_aimed_156 rfl rfl ?_
        refine aw_iload_n (pc' := 159) dX12_aimed_158 rfl rfl ?_
        refine aw_iload_n (pc' := 160) dX12_aimed_159 rfl rfl ?_
        obtain ⟨r30, ec30, hf⟩ := b1_e hf
        refine aw_callVi (M' := mX12_minutesAt) (nc' := 0) (ns' := 0) (pc' := 163) dX12_aimed_160 rfl ml_RX12_443 kX12_minutesAt (t_X12_minutesAt H ec30) (H.ob (H.fo rfl rfl) (by decide)) rfl rfl rfl (Nat.le_of_ble_eq_true rfl) (rokD (by omega) (Nat.le_of_ble_eq_true rfl) (Nat.le_of_ble_eq_true rfl) (Nat.le_of_ble_eq_true rfl)) rfl rfl (fun _ h30 q30 => ?_)
        obtain ⟨rfl, rfl⟩ := q30
        refine aw_goto (tgt := 167) dX12_aimed_163 (by decide) ?_
        exact hk19 _ hf
def f_X12_aimed_L109_b (q0 : SS → Int32 → Option (Int32 × SS)) (y1 : Int32) (y2 : Int32) (y3 : Int32) (y5 : Int32) (y6 : Int32) (rc : SS → Int32 → Int32 → Option (Int32 × SS)) (s : SS) (x4 : Int32) (x7 : Int32) : Option (Int32 × SS) := (if x7 < (3 : Int32) then (jn (fun (t16_0 : Int32) => (f_X12_aimed_L130 (fun (s31 : SS) (x31_4 : Int32) => (vl (x7 + 1) fun v32 => (rc s31 x31_4 v32))) y1 y2 y3 y5 y6 x7 4000 s x4 t16_0)) fun k16 => (if y3 = (2 : Int32) then (k16 (x7 + (1 : Int32))) else (k16 2))) else (q0 s x4))
def f_X12_aimed_L109 (q0 : SS → Int32 → Option (Int32 × SS)) (y1 : Int32) (y2 : Int32) (y3 : Int32) (y5 : Int32) (y6 : Int32) : Nat → SS → Int32 → Int32 → Option (Int32 × SS)
  | 0, _, _, _ => none
  | n + 1, s, x4, x7 => f_X12_aimed_L109_b q0 y1 y2 y3 y5 y6 (f_X12_aimed_L109 q0 y1 y2 y3 y5 y6 n) s x4 x7
set_option maxRecDepth 4000 in
theorem t_X12_aimed_L109 {r9 : Int32} {s0 sb s9 : SS} {q0 : SS → Int32 → Option (Int32 × SS} {y1 : Int32} {y2 : Int32} {y3 : Int32} {y5 : Int32} {y6 : Int32} (mb : Mo s0 sb) (hq0 : ∀ (s : SS) (h : List aE) (x4 : Int32), HH s h → Mo sb s → q0 s x4 = some (r9, s9) → AW mX12_aimed (rmD (1) 0 0) (fin (PI fun r' h' => r9 = r' ∧ HH s9 h' ∧ Mo s0 s9) 0 0) 243 [some (.ref 67), some (.int y1), some (.int y2), some (.int y3), some (.int x4), some (.int y5), some (.int y6), none, none, none, none] [] h 0 0) : ∀ (n : Nat) (s : SS) (h : List aE) (x4 : Int32) (x7 : Int32), HH s h → Mo sb s → f_X12_aimed_L109 q0 y1 y2 y3 y5 y6 n s x4 x7 = some (r9, s9) → AW mX12_aimed (rmD (1) 0 0) (fin (PI fun r' h' => r9 = r' ∧ HH s9 h' ∧ Mo s0 s9) 0 0) 109 [some (.ref 67), some (.int y1), some (.int y2), some (.int y3), some (.int x4), some (.int y5), some (.int y6), some (.int x7), none, none, none] [] h 0 0 := by
  intro n
  induction n with
  | zero =>
    intro s h x4 x7 H ms hf
    cases hf
  | succ n ih =>
    intro s h x4 x7 H ms hf
    replace hf : f_X12_aimed_L109_b q0 y1 y2 y3 y5 y6 (f_X12_aimed_L109 q0 y1 y2 y3 y5 y6 n) s x4 x7 = some (r9, s9) := hf
    unfold f_X12_aimed_L109_b at hf
    refine aw_iload (pc' := 111) dX12_aimed_109 rfl rfl ?_
    refine aw_iconst (v := 3) (pc' := 112) dX12_aimed_111 rfl (by decide) ?_
    refine aw_cge (tgt := 243) (pc' := 115) dX12_aimed_112 (by decide) rfl (fun c15 => ?_) (fun c15 => ?_)
    · replace hf := ifn c15 hf
      refine AW.lv_le (lz_k (lz_k (lz_k (lz_k (lz_k (lz_k (lz_k (lz_d (lz_d (lz_d (lz_d lz_0))))))))))) ?_
      exact hq0 _ _ _ H ms hf
    · replace hf := ifp c15 hf
      refine aw_iload_n (pc' := 116) dX12_aimed_115 rfl rfl ?_
      refine aw_iconst (v := 2) (pc' := 117) dX12_aimed_116 rfl (by decide) ?_
      obtain ⟨k16, ek16, hf⟩ := jn_e hf
      have hk16 : ∀ (t16_0 : Int32), k16 t16_0 = some (r9, s9) → AW mX12_aimed (rmD (1) 0 0) (fin (PI fun r' h' => r9 = r' ∧ HH s9 h' ∧ Mo s0 s9) 0 0) 128 [some (.ref 67), some (.int y1), some (.int y2), some (.int y3), some (.int x4), some (.int y5), some (.int y6), some (.int x7), none, none, none] [.int t16_0] h 0 0 := by
        intro t16_0 hf
        subst ek16
        refine aw_istore (lv' := [_, _, _, _, _, _, _, _, _, _, _]) (pc' := 130) dX12_aimed_128 rfl (Nat.le_of_ble_eq_true rfl) rfl ?_
        refine t_X12_aimed_L130 (mb.tr ms) (fun s31 h31 x31_4 H31 m31 hf => ?_) 4000 _ _ _ _ H (Mo.rf _) hf
        obtain ⟨v32, ev32, hf⟩ := vl_e hf
        refine aw_iincV (y := v32) (lv' := [_, _, _, _, _, _, _, _, _, _, _]) (pc' := 240) dX12_aimed_237 rfl rfl (Nat.le_of_ble_eq_true rfl) ev32 rfl ?_
        refine aw_goto (tgt := 109) dX12_aimed_240 (by decide) ?_
        exact ih _ _ _ _ H31 (ms.tr m31) hf
      clear ek16
      refine aw_icmp_ne (tgt := 127) (pc' := 120) dX12_aimed_117 (by decide) rfl (fun c33 => ?_) (fun c33 => ?_)
      · replace hf := ifn c33 hf
        refine aw_iconst (v := 2) (pc' := 128) dX12_aimed_127 rfl (by decide) ?_
        exact hk16 _ hf
      · replace hf := ifp c33 hf
        refine aw_iload (pc' := 122) dX12_aimed_120 rfl rfl ?_
        refine aw_iconst (v := 1) (pc' := 123) dX12_aimed_122 rfl (by decide) ?_
        refine aw_iadd (pc' := 124) dX12_aimed_123 rfl ?_
        refine aw_goto (tgt := 128) dX12_aimed_124 (by decide) ?_
        exact hk16 _ hf
def f_X12_aimed_L73_b (q0 : SS → Int32 → Option (Int32 × SS)) (y1 : Int32) (y2 : Int32) (y3 : Int32) (y5 : Int32) (rc : SS → Int32 → Int32 → Option (Int32 × SS)) (s : SS) (x4 : Int32) (x6 : Int32) : Option (Int32 × SS) := (jn (fun (t10_0 : Int32) => (if x6 < t10_0 then (jn (fun (s12 : SS) (j12_4 : Int32) => (vl (x6 + 1) fun v13 => (rc s12 j12_4 v13))) fun k12 => (jn ((f_X12_aimed_L109 (fun (s34 : SS) (x34_4 : Int32) => (k12 s34 x34_4)) y1 y2 y3 y5 x6 4000 s x4 0)) fun k14 => (if y3 = (2 : Int32) then (if x6 = y5 then (k12 s x4) else k14) else k14))) else (q0 s x4))) fun k10 => (if y3 = (2 : Int32) then (k10 (zS s 59 76)) else (k10 1)))
def f_X12_aimed_L73 (q0 : SS → Int32 → Option (Int32 × SS)) (y1 : Int32) (y2 : Int32) (y3 : Int32) (y5 : Int32) : Nat → SS → Int32 → Int32 → Option (Int32 × SS)
  | 0, _, _, _ => none
  | n + 1, s, x4, x6 => f_X12_aimed_L73_b q0 y1 y2 y3 y5 (f_X12_aimed_L73 q0 y1 y2 y3 y5 n) s x4 x6
set_option maxRecDepth 4000 in
theorem t_X12_aimed_L73 {r9 : Int32} {s0 sb s9 : SS} {q0 : SS → Int32 → Option (Int32 × SS} {y1 : Int32} {y2 : Int32} {y3 : Int32} {y5 : Int32} (mb : Mo s0 sb) (hq0 : ∀ (s : SS) (h : List aE) (x4 : Int32), HH s h → Mo sb s → q0 s x4 = some (r9, s9) → AW mX12_aimed (rmD (1) 0 0) (fin (PI fun r' h' => r9 = r' ∧ HH s9 h' ∧ Mo s0 s9) 0 0) 249 [some (.ref 67), some (.int y1), some (.int y2), some (.int y3), some (.int x4), some (.int y5), none, none, none, none, none] [] h 0 0) : ∀ (n : Nat) (s : SS) (h : List aE) (x4 : Int32) (x6 : Int32), HH s h → Mo sb s → f_X12_aimed_L73 q0 y1 y2 y3 y5 n s x4 x6 = some (r9, s9) → AW mX12_aimed (rmD (1) 0 0) (fin (PI fun r' h' => r9 = r' ∧ HH s9 h' ∧ Mo s0 s9) 0 0) 73 [some (.ref 67), some (.int y1), some (.int y2), some (.int y3), some (.int x4), some (.int y5), some (.int x6), none, none, none, none] [] h 0 0 := by
  intro n
  induction n with
  | zero =>
    intro s h x4 x6 H ms hf
    cases hf
  | succ n ih =>
    intro s h x4 x6 H ms hf
    replace hf : f_X12_aimed_L73_b q0 y1 y2 y3 y5 (f_X12_aimed_L73 q0 y1 y2 y3 y5 n) s x4 x6 = some (r9, s9) := hf
    unfold f_X12_aimed_L73_b at hf
    refine aw_iload (pc' := 75) dX12_aimed_73 rfl rfl ?_
    refine aw_iload_n (pc' := 76) dX12_aimed_75 rfl rfl ?_
    refine aw_iconst (v := 2) (pc' := 77) dX12_aimed_76 rfl (by decide) ?_
    obtain ⟨k10, ek10, hf⟩ := jn_e hf
    have hk10 : ∀ (t10_0 : Int32), k10 t10_0 = some (r9, s9) → AW mX12_aimed (rmD (1) 0 0) (fin (PI fun r' h' => r9 = r' ∧ HH s9 h' ∧ Mo s0 s9) 0 0) 88 [some (.ref 67), some (.int y1), some (.int y2), some (.int y3), some (.int x4), some (.int y5), some (.int x6), none, none, none, none] [.int t10_0, .int x6] h 0 0 := by
      intro t10_0 hf
      subst ek10
      refine aw_cge (tgt := 249) (pc' := 91) dX12_aimed_88 (by decide) rfl (fun c11 => ?_) (fun c11 => ?_)
      · replace hf := ifn c11 hf
        refine AW.lv_le (lz_k (lz_k (lz_k (lz_k (lz_k (lz_k (lz_d (lz_d (lz_d (lz_d (lz_d lz_0))))))))))) ?_
        exact hq0 _ _ _ H ms hf
      · replace hf := ifp c11 hf
        refine aw_iload_n (pc' := 92) dX12_aimed_91 rfl rfl ?_
        refine aw_iconst (v := 2) (pc' := 93) dX12_aimed_92 rfl (by decide) ?_
        obtain ⟨k12, ek12, hf⟩ := jn_e hf
        have hk12 : ∀ (s12 : SS) (h12 : List aE) (j12_4 : Int32), HH s12 h12 → Mo s s12 → k12 s12 j12_4 = some (r9, s9) → AW mX12_aimed (rmD (1) 0 0) (fin (PI fun r' h' => r9 = r' ∧ HH s9 h' ∧ Mo s0 s9) 0 0) 243 [some (.ref 67), some (.int y1), some (.int y2), some (.int y3), some (.int j12_4), some (.int y5), some (.int x6), none, none, none, none] [] h12 0 0 := by
          intro s12 h12 j12_4 H12 m12 hf
          subst ek12
          obtain ⟨v13, ev13, hf⟩ := vl_e hf
          refine aw_iincV (y := v13) (lv' := [_, _, _, _, _, _, _, _, _, _, _]) (pc' := 246) dX12_aimed_243 rfl rfl (Nat.le_of_ble_eq_true rfl) ev13 rfl ?_
          refine aw_goto (tgt := 73) dX12_aimed_246 (by decide) ?_
          exact ih _ _ _ _ H12 (ms.tr m12) hf
        clear ek12
        obtain ⟨k14, ek14, hf⟩ := jn_e hf
        have hk14 : k14 = some (r9, s9) → AW mX12_aimed (rmD (1) 0 0) (fin (PI fun r' h' => r9 = r' ∧ HH s9 h' ∧ Mo s0 s9) 0 0) 106 [some (.ref 67), some (.int y1), some (.int y2), some (.int y3), some (.int x4), some (.int y5), some (.int x6), none, none, none, none] [] h 0 0 := by
          intro hf
          subst ek14
          refine aw_iconst (v := 0) (pc' := 107) dX12_aimed_106 rfl (by decide) ?_
          refine aw_istore (lv' := [_, _, _, _, _, _, _, _, _, _, _]) (pc' := 109) dX12_aimed_107 rfl (Nat.le_of_ble_eq_true rfl) rfl ?_
          refine t_X12_aimed_L109 (mb.tr ms) (fun s34 h34 x34_4 H34 m34 hf => ?_) 4000 _ _ _ _ H (Mo.rf _) hf
          exact hk12 _ _ _ H34 m34 hf
        clear ek14
        refine aw_icmp_ne (tgt := 106) (pc' := 96) dX12_aimed_93 (by decide) rfl (fun c35 => ?_) (fun c35 => ?_)
        · replace hf := ifn c35 hf
          exact hk14  hf
        · replace hf := ifp c35 hf
          refine aw_iload (pc' := 98) dX12_aimed_96 rfl rfl ?_
          refine aw_iload (pc' := 100) dX12_aimed_98 rfl rfl ?_
          refine aw_icmp_ne (tgt := 106) (pc' := 103) dX12_aimed_100 (by decide) rfl (fun c36 => ?_) (fun c36 => ?_)
          · replace hf := ifn c36 hf
            exact hk14  hf
          · replace hf := ifp c36 hf
            refine aw_goto (tgt := 243) dX12_aimed_103 (by decide) ?_
            exact hk12 _ _ _ H (Mo.rf _) hf
    clear ek10
    refine aw_icmp_ne (tgt := 87) (pc' := 80) dX12_aimed_77 (by decide) rfl (fun c37 => ?_) (fun c37 => ?_)
    · replace hf := ifn c37 hf
      refine aw_iconst (v := 1) (pc' := 88) dX12_aimed_87 rfl (by decide) ?_
      exact hk10 _ hf
    · replace hf := ifp c37 hf
      refine aw_aload_n (pc' := 81) dX12_aimed_80 rfl rfl rfl ?_
      refine aw_gi (q := 59) (pc' := 84) H (H.fo rfl rfl) (by decide) rfl dX12_aimed_81 rfl fl_RX12_440 ?_
      refine aw_goto (tgt := 88) dX12_aimed_84 (by decide) ?_
      exact hk10 _ hf
def f_X12_aimed_L61_b (q0 : SS → Int32 → Option (Int32 × SS)) (y1 : Int32) (y2 : Int32) (y3 : Int32) (rc : SS → Int32 → Int32 → Option (Int32 × SS)) (s : SS) (x4 : Int32) (x5 : Int32) : Option (Int32 × SS) := (if x5 < (zS s 59 76) then (f_X12_aimed_L73 (fun (s38 : SS) (x38_4 : Int32) => (vl (x5 + 1) fun v39 => (rc s38 x38_4 v39))) y1 y2 y3 x5 4000 s x4 0) else (q0 s x4))
def f_X12_aimed_L61 (q0 : SS → Int32 → Option (Int32 × SS)) (y1 : Int32) (y2 : Int32) (y3 : Int32) : Nat → SS → Int32 → Int32 → Option (Int32 × SS)
  | 0, _, _, _ => none
  | n + 1, s, x4, x5 => f_X12_aimed_L61_b q0 y1 y2 y3 (f_X12_aimed_L61 q0 y1 y2 y3 n) s x4 x5
set_option maxRecDepth 4000 in
theorem t_X12_aimed_L61 {r9 : Int32} {s0 sb s9 : SS} {q0 : SS → Int32 → Option (Int32 × SS} {y1 : Int32} {y2 : Int32} {y3 : Int32} (mb : Mo s0 sb) (hq0 : ∀ (s : SS) (h : List aE) (x4 : Int32), HH s h → Mo sb s → q0 s x4 = some (r9, s9) → AW mX12_aimed (rmD (1) 0 0) (fin (PI fun r' h' => r9 = r' ∧ HH s9 h' ∧ Mo s0 s9) 0 0) 255 [some (.ref 67), none, none, some (.int y3), some (.int x4), none, none, none, none, none, none] [] h 0 0) : ∀ (n : Nat) (s : SS) (h : List aE) (x4 : Int32) (x5 : Int32), HH s h → Mo sb s → f_X12_aimed_L61 q0 y1 y2 y3 n s x4 x5 = some (r9, s9) → AW mX12_aimed (rmD (1) 0 0) (fin (PI fun r' h' => r9 = r' ∧ HH s9 h' ∧ Mo s0 s9) 0 0) 61 [some (.ref 67), some (.int y1), some (.int y2), some (.int y3), some (.int x4), some (.int x5), none, none, none, none, none] [] h 0 0 := by
  intro n
  induction n with
  | zero =>
    intro s h x4 x5 H ms hf
    cases hf
  | succ n ih =>
    intro s h x4 x5 H ms hf
    replace hf : f_X12_aimed_L61_b q0 y1 y2 y3 (f_X12_aimed_L61 q0 y1 y2 y3 n) s x4 x5 = some (r9, s9) := hf
    unfold f_X12_aimed_L61_b at hf
    refine aw_iload (pc' := 63) dX12_aimed_61 rfl rfl ?_
    refine aw_aload_n (pc' := 64) dX12_aimed_63 rfl rfl rfl ?_
    refine aw_gi (q := 59) (pc' := 67) H (H.fo rfl rfl) (by decide) rfl dX12_aimed_64 rfl fl_RX12_440 ?_
    refine aw_cge (tgt := 255) (pc' := 70) dX12_aimed_67 (by decide) rfl (fun c9 => ?_) (fun c9 => ?_)
    · replace hf := ifn c9 hf
      refine AW.lv_le (lz_k (lz_d (lz_d (lz_k (lz_k (lz_d (lz_d (lz_d (lz_d (lz_d (lz_d lz_0))))))))))) ?_
      exact hq0 _ _ _ H ms hf
    · replace hf := ifp c9 hf
      refine aw_iconst (v := 0) (pc' := 71) dX12_aimed_70 rfl (by decide) ?_
      refine aw_istore (lv' := [_, _, _, _, _, _, _, _, _, _, _]) (pc' := 73) dX12_aimed_71 rfl (Nat.le_of_ble_eq_true rfl) rfl ?_
      refine t_X12_aimed_L73 (mb.tr ms) (fun s38 h38 x38_4 H38 m38 hf => ?_) 4000 _ _ _ _ H (Mo.rf _) hf
      obtain ⟨v39, ev39, hf⟩ := vl_e hf
      refine aw_iincV (y := v39) (lv' := [_, _, _, _, _, _, _, _, _, _, _]) (pc' := 252) dX12_aimed_249 rfl rfl (Nat.le_of_ble_eq_true rfl) ev39 rfl ?_
      refine aw_goto (tgt := 61) dX12_aimed_252 (by decide) ?_
      exact ih _ _ _ _ H38 (ms.tr m38) hf
def f_X12_aimed (s0 : SS) (a0 : Int32) (a1 : Int32) (a2 : Int32) : Option (Int32 × SS) := (b1 (f_X12_in a0 (1 : Int32) (4 : Int32)) fun r1 => (if r1 = (0 : Int32) then some ((-1), s0) else (b1 (f_X12_in a1 (1 : Int32) (60 : Int32)) fun r3 => (if r3 = (0 : Int32) then some ((-1), s0) else (b1 (f_X12_in a2 (1 : Int32) (2 : Int32)) fun r5 => (if r5 = (0 : Int32) then some ((-1), s0) else (if (zS s0 59 76) = (0 : Int32) then some ((-1), s0) else (jn ((f_X12_aimed_L61 (fun (s40 : SS) (x40_4 : Int32) => (st (pS s40 59 79 a2) fun s41 => (st (pS s41 59 76 0) fun s42 => some (x40_4, s42)))) a0 a1 a2 4000 s0 2147483647 0)) fun k8 => (if a2 = (2 : Int32) then (if (zS s0 59 76) < (2 : Int32) then some ((-2), s0) else k8) else k8)))))))))
set_option maxRecDepth 4000 in
theorem t_X12_aimed {r9 : Int32} {s0 s9 : SS} {h0 : List aE} {a0 : Int32} {a1 : Int32} {a2 : Int32} (H0 : HH s0 h0) (hf : f_X12_aimed s0 a0 a1 a2 = some (r9, s9)) : AM mX12_aimed (1) [.ref 67, .int a0, .int a1, .int a2] h0 0 0 (PI fun r' h' => r9 = r' ∧ HH s9 h' ∧ Mo s0 s9) := by
  unfold f_X12_aimed at hf
  refine am_of (lv := [some (.ref 67), some (.int a0), some (.int a1), some (.int a2), none, none, none, none, none, none, none]) rfl (Nat.le_of_ble_eq_true rfl) rfl ?_
  refine aw_iload_n (pc' := 1) dX12_aimed_0 rfl rfl ?_
  refine aw_iconst (v := 1) (pc' := 2) dX12_aimed_1 rfl (by decide) ?_
  refine aw_iconst (v := 4) (pc' := 3) dX12_aimed_2 rfl (by decide) ?_
  obtain ⟨r1, ec1, hf⟩ := b1_e hf
  refine aw_callSi (M' := mX12_in) (nc' := 0) (ns' := 0) (pc' := 6) dX12_aimed_3 rfl ml_RX12_230 kX12_in (t_X12_in ec1) rfl rfl (Nat.le_of_ble_eq_true rfl) (rokD (by omega) (Nat.le_of_ble_eq_true rfl) (Nat.le_of_ble_eq_true rfl) (Nat.le_of_ble_eq_true rfl)) rfl rfl (fun _ h1 q1 => ?_)
  obtain ⟨rfl, rfl, zb1⟩ := q1
  refine aw_if_eq (tgt := 35) (pc' := 9) dX12_aimed_6 (by decide) rfl (fun c2 => ?_) (fun c2 => ?_)
  · replace hf := ifp c2 hf
    refine aw_iconst (v := (-1)) (pc' := 36) dX12_aimed_35 rfl (by decide) ?_
    obtain ⟨rfl, rfl⟩ := so2 hf
    exact aw_ri dX12_aimed_36 rfl rfl (Nat.le_of_ble_eq_true rfl) (Nat.le_of_ble_eq_true rfl) ⟨rfl, H0, (Mo.rf _)⟩
  · replace hf := ifn c2 hf
    refine aw_iload_n (pc' := 10) dX12_aimed_9 rfl rfl ?_
    refine aw_iconst (v := 1) (pc' := 11) dX12_aimed_10 rfl (by decide) ?_
    refine aw_bipush (v := 60) (pc' := 13) dX12_aimed_11 rfl (by decide) ?_
    obtain ⟨r3, ec3, hf⟩ := b1_e hf
    refine aw_callSi (M' := mX12_in) (nc' := 0) (ns' := 0) (pc' := 16) dX12_aimed_13 rfl ml_RX12_230 kX12_in (t_X12_in ec3) rfl rfl (Nat.le_of_ble_eq_true rfl) (rokD (by omega) (Nat.le_of_ble_eq_true rfl) (Nat.le_of_ble_eq_true rfl) (Nat.le_of_ble_eq_true rfl)) rfl rfl (fun _ h3 q3 => ?_)
    obtain ⟨rfl, rfl, zb3⟩ := q3
    refine aw_if_eq (tgt := 35) (pc' := 19) dX12_aimed_16 (by decide) rfl (fun c4 => ?_) (fun c4 => ?_)
    · replace hf := ifp c4 hf
      refine aw_iconst (v := (-1)) (pc' := 36) dX12_aimed_35 rfl (by decide) ?_
      obtain ⟨rfl, rfl⟩ := so2 hf
      exact aw_ri dX12_aimed_36 rfl rfl (Nat.le_of_ble_eq_true rfl) (Nat.le_of_ble_eq_true rfl) ⟨rfl, H0, (Mo.rf _)⟩
    · replace hf := ifn c4 hf
      refine aw_iload_n (pc' := 20) dX12_aimed_19 rfl rfl ?_
      refine aw_iconst (v := 1) (pc' := 21) dX12_aimed_20 rfl (by decide) ?_
      refine aw_iconst (v := 2) (pc' := 22) dX12_aimed_21 rfl (by decide) ?_
      obtain ⟨r5, ec5, hf⟩ := b1_e hf
      refine aw_callSi (M' := mX12_in) (nc' := 0) (ns' := 0) (pc' := 25) dX12_aimed_22 rfl ml_RX12_230 kX12_in (t_X12_in ec5) rfl rfl (Nat.le_of_ble_eq_true rfl) (rokD (by omega) (Nat.le_of_ble_eq_true rfl) (Nat.le_of_ble_eq_true rfl) (Nat.le_of_ble_eq_true rfl)) rfl rfl (fun _ h5 q5 => ?_)
      obtain ⟨rfl, rfl, zb5⟩ := q5
      refine aw_if_eq (tgt := 35) (pc' := 28) dX12_aimed_25 (by decide) rfl (fun c6 => ?_) (fun c6 => ?_)
      · replace hf := ifp c6 hf
        refine aw_iconst (v := (-1)) (pc' := 36) dX12_aimed_35 rfl (by decide) ?_
        obtain ⟨rfl, rfl⟩ := so2 hf
        exact aw_ri dX12_aimed_36 rfl rfl (Nat.le_of_ble_eq_true rfl) (Nat.le_of_ble_eq_true rfl) ⟨rfl, H0, (Mo.rf _)⟩
      · replace hf := ifn c6 hf
        refine aw_aload_n (pc' := 29) dX12_aimed_28 rfl rfl rfl ?_
        refine aw_gi (q := 59) (pc' := 32) H0 (H0.fo rfl rfl) (by decide) rfl dX12_aimed_29 rfl fl_RX12_440 ?_
        refine aw_if_ne (tgt := 37) (pc' := 35) dX12_aimed_32 (by decide) rfl (fun c7 => ?_) (fun c7 => ?_)
        · replace hf := ifn c7 hf
          refine aw_iload_n (pc' := 38) dX12_aimed_37 rfl rfl ?_
          refine aw_iconst (v := 2) (pc' := 39) dX12_aimed_38 rfl (by decide) ?_
          obtain ⟨k8, ek8, hf⟩ := jn_e hf
          have hk8 : k8 = some (r9, s9) → AW mX12_aimed (rmD (1) 0 0) (fin (PI fun r' h' => r9 = r' ∧ HH s9 h' ∧ Mo s0 s9) 0 0) 53 [some (.ref 67), some (.int a0), some (.int a1), some (.int a2), none, none, none, none, none, none, none] [] h0 0 0 := by
            intro hf
            subst ek8
            refine aw_ldcw (pc' := 56) dX12_aimed_53 rfl ct_RX12_436 ?_
            refine aw_istore (lv' := [_, _, _, _, _, _, _, _, _, _, _]) (pc' := 58) dX12_aimed_56 rfl (Nat.le_of_ble_eq_true rfl) rfl ?_
            refine aw_iconst (v := 0) (pc' := 59) dX12_aimed_58 rfl (by decide) ?_
            refine aw_istore (lv' := [_, _, _, _, _, _, _, _, _, _, _]) (pc' := 61) dX12_aimed_59 rfl (Nat.le_of_ble_eq_true rfl) rfl ?_
            refine t_X12_aimed_L61 (Mo.rf _) (fun s40 h40 x40_4 H40 m40 hf => ?_) 4000 _ _ _ _ H0 (Mo.rf _) hf
            refine aw_aload_n (pc' := 256) dX12_aimed_255 rfl rfl rfl ?_
            refine aw_iload_n (pc' := 257) dX12_aimed_256 rfl rfl ?_
            obtain ⟨s41, es41, hf⟩ := st_e hf
            refine aw_pi (q := 59) (pc' := 260) es41 H40 (H40.fo rfl rfl) (by decide) rfl dX12_aimed_257 rfl fl_RX12_447 rfl (fun h41 H41 => ?_)
            have m41 := Mo.ofS es41
            refine aw_aload_n (pc' := 261) dX12_aimed_260 rfl rfl rfl ?_
            refine aw_iconst (v := 0) (pc' := 262) dX12_aimed_261 rfl (by decide) ?_
            obtain ⟨s42, es42, hf⟩ := st_e hf
            refine aw_pi (q := 59) (pc' := 265) es42 H41 (H41.fo rfl rfl) (by decide) rfl dX12_aimed_262 rfl fl_RX12_440 rfl (fun h42 H42 => ?_)
            have m42 := Mo.ofS es42
            refine aw_iload (pc' := 267) dX12_aimed_265 rfl rfl ?_
            obtain ⟨rfl, rfl⟩ := so2 hf
            exact aw_ri dX12_aimed_267 rfl rfl (Nat.le_of_ble_eq_true rfl) (Nat.le_of_ble_eq_true rfl) ⟨rfl, H42, ((m40.tr m41).tr m42)⟩
          clear ek8
          refine aw_icmp_ne (tgt := 53) (pc' := 42) dX12_aimed_39 (by decide) rfl (fun c43 => ?_) (fun c43 => ?_)
          · replace hf := ifn c43 hf
            exact hk8  hf
          · replace hf := ifp c43 hf
            refine aw_aload_n (pc' := 43) dX12_aimed_42 rfl rfl rfl ?_
            refine aw_gi (q := 59) (pc' := 46) H0 (H0.fo rfl rfl) (by decide) rfl dX12_aimed_43 rfl fl_RX12_440 ?_
            refine aw_iconst (v := 2) (pc' := 47) dX12_aimed_46 rfl (by decide) ?_
            refine aw_cge (tgt := 53) (pc' := 50) dX12_aimed_47 (by decide) rfl (fun c44 => ?_) (fun c44 => ?_)
            · replace hf := ifn c44 hf
              exact hk8  hf
            · replace hf := ifp c44 hf
              refine aw_bipush (v := (-2)) (pc' := 52) dX12_aimed_50 rfl (by decide) ?_
              obtain ⟨rfl, rfl⟩ := so2 hf
              exact aw_ri dX12_aimed_52 rfl rfl (Nat.le_of_ble_eq_true rfl) (Nat.le_of_ble_eq_true rfl) ⟨rfl, H0, (Mo.rf _)⟩
        · replace hf := ifp c7 hf
          refine aw_iconst (v := (-1)) (pc' := 36) dX12_aimed_35 rfl (by decide) ?_
          obtain ⟨rfl, rfl⟩ := so2 hf
          exact aw_ri dX12_aimed_36 rfl rfl (Nat.le_of_ble_eq_true rfl) (Nat.le_of_ble_eq_true rfl) ⟨rfl, H0, (Mo.rf _)⟩
/-! ThirtyThreeBelowModel.aimedAt -/
def f_X12_aimedAt (s0 : SS) (a0 : Int32) (a1 : Int32) : Option Int32 := (b1 (f_X12_in a0 (0 : Int32) ((zS s0 59 79) - (1 : Int32))) fun r1 => (if r1 = (0 : Int32) then some (-1) else (b1 (f_X12_in a1 (0 : Int32) (1 : Int32)) fun r3 => (if r3 = (0 : Int32) then some (-1) else (if a1 = (0 : Int32) then (gd (inB a0 2) some (zI s0 114 (a0.toInt.toNat))) else (gd (inB a0 2) some (zI s0 115 (a0.toInt.toNat))))))))
set_option maxRecDepth 4000 in
theorem t_X12_aimedAt {r9 : Int32} {s0 : SS} {h0 : List aE} {a0 : Int32} {a1 : Int32} (H0 : HH s0 h0) (hf : f_X12_aimedAt s0 a0 a1 = some r9) : AM mX12_aimedAt (1) [.ref 67, .int a0, .int a1] h0 0 0 (PI fun r' h' => r9 = r' ∧ h0 = h') := by
  unfold f_X12_aimedAt at hf
  refine am_of (lv := [some (.ref 67), some (.int a0), some (.int a1)]) rfl (Nat.le_of_ble_eq_true rfl) rfl ?_
  refine aw_iload_n (pc' := 1) dX12_aimedAt_0 rfl rfl ?_
  refine aw_iconst (v := 0) (pc' := 2) dX12_aimedAt_1 rfl (by decide) ?_
  refine aw_aload_n (pc' := 3) dX12_aimedAt_2 rfl rfl rfl ?_
  refine aw_gi (q := 59) (pc' := 6) H0 (H0.fo rfl rfl) (by decide) rfl dX12_aimedAt_3 rfl fl_RX12_447 ?_
  refine aw_iconst (v := 1) (pc' := 7) dX12_aimedAt_6 rfl (by decide) ?_
  refine aw_isub (pc' := 8) dX12_aimedAt_7 rfl ?_
  obtain ⟨r1, ec1, hf⟩ := b1_e hf
  refine aw_callSi (M' := mX12_in) (nc' := 0) (ns' := 0) (pc' := 11) dX12_aimedAt_8 rfl ml_RX12_230 kX12_in (t_X12_in ec1) rfl rfl (Nat.le_of_ble_eq_true rfl) (rokD (by omega) (Nat.le_of_ble_eq_true rfl) (Nat.le_of_ble_eq_true rfl) (Nat.le_of_ble_eq_true rfl)) rfl rfl (fun _ h1 q1 => ?_)
  obtain ⟨rfl, rfl, zb1⟩ := q1
  refine aw_if_eq (tgt := 23) (pc' := 14) dX12_aimedAt_11 (by decide) rfl (fun c2 => ?_) (fun c2 => ?_)
  · replace hf := ifp c2 hf
    refine aw_iconst (v := (-1)) (pc' := 24) dX12_aimedAt_23 rfl (by decide) ?_
    refine aw_goto (tgt := 46) dX12_aimedAt_24 (by decide) ?_
    obtain rfl := Option.some.inj hf
    exact aw_ri dX12_aimedAt_46 rfl rfl (Nat.le_of_ble_eq_true rfl) (Nat.le_of_ble_eq_true rfl) ⟨rfl, rfl⟩
  · replace hf := ifn c2 hf
    refine aw_iload_n (pc' := 15) dX12_aimedAt_14 rfl rfl ?_
    refine aw_iconst (v := 0) (pc' := 16) dX12_aimedAt_15 rfl (by decide) ?_
    refine aw_iconst (v := 1) (pc' := 17) dX12_aimedAt_16 rfl (by decide) ?_
    obtain ⟨r3, ec3, hf⟩ := b1_e hf
    refine aw_callSi (M' := mX12_in) (nc' := 0) (ns' := 0) (pc' := 20) dX12_aimedAt_17 rfl ml_RX12_230 kX12_in (t_X12_in ec3) rfl rfl (Nat.le_of_ble_eq_true rfl) (rokD (by omega) (Nat.le_of_ble_eq_true rfl) (Nat.le_of_ble_eq_true rfl) (Nat.le_of_ble_eq_true rfl)) rfl rfl (fun _ h3 q3 => ?_)
    obtain ⟨rfl, rfl, zb3⟩ := q3
    refine aw_if_ne (tgt := 27) (pc' := 23) dX12_aimedAt_20 (by decide) rfl (fun c4 => ?_) (fun c4 => ?_)
    · replace hf := ifn c4 hf
      refine aw_iload_n (pc' := 28) dX12_aimedAt_27 rfl rfl ?_
      refine aw_if_ne (tgt := 40) (pc' := 31) dX12_aimedAt_28 (by decide) rfl (fun c5 => ?_) (fun c5 => ?_)
      · replace hf := ifn c5 hf
        refine aw_aload_n (pc' := 41) dX12_aimedAt_40 rfl rfl rfl ?_
        refine aw_gr (q := 59) (e := 113) (v := .ref 123) (pc' := 44) H0 (H0.fo rfl rfl) (by decide) rfl rfl dX12_aimedAt_41 rfl fl_RX12_190 ?_
        refine aw_iload_n (pc' := 45) dX12_aimedAt_44 rfl rfl ?_
        obtain ⟨g6, hf⟩ := gd_e hf
        refine aw_ia (q := 115) (pc' := 46) H0 (H0.fa rfl rfl rfl) g6 dX12_aimedAt_45 rfl ?_
        obtain rfl := Option.some.inj hf
        exact aw_ri dX12_aimedAt_46 rfl rfl (Nat.le_of_ble_eq_true rfl) (Nat.le_of_ble_eq_true rfl) ⟨rfl, rfl⟩
      · replace hf := ifp c5 hf
        refine aw_aload_n (pc' := 32) dX12_aimedAt_31 rfl rfl rfl ?_
        refine aw_gr (q := 59) (e := 111) (v := .ref 122) (pc' := 35) H0 (H0.fo rfl rfl) (by decide) rfl rfl dX12_aimedAt_32 rfl fl_RX12_187 ?_
        refine aw_iload_n (pc' := 36) dX12_aimedAt_35 rfl rfl ?_
        obtain ⟨g7, hf⟩ := gd_e hf
        refine aw_ia (q := 114) (pc' := 37) H0 (H0.fa rfl rfl rfl) g7 dX12_aimedAt_36 rfl ?_
        refine aw_goto (tgt := 46) dX12_aimedAt_37 (by decide) ?_
        obtain rfl := Option.some.inj hf
        exact aw_ri dX12_aimedAt_46 rfl rfl (Nat.le_of_ble_eq_true rfl) (Nat.le_of_ble_eq_true rfl) ⟨rfl, rfl⟩
    · replace hf := ifp c4 hf
      refine aw_iconst (v := (-1)) (pc' := 24) dX12_aimedAt_23 rfl (by decide) ?_
      refine aw_goto (tgt := 46) dX12_aimedAt_24 (by decide) ?_
      obtain rfl := Option.some.inj hf
      exact aw_ri dX12_aimedAt_46 rfl rfl (Nat.le_of_ble_eq_true rfl) (Nat.le_of_ble_eq_true rfl) ⟨rfl, rfl⟩
/-! ThirtyThreeBelowModel.race -/
def f_X12_race (s0 : SS) (a0 : Int32) (a1 : Int32) (a2 : Int32) : Option Int32 := (b1 (f_X12_isMachine a0) fun r1 => (if r1 = (0 : Int32) then some (-1) else (b1 (f_X12_in a1 (1 : Int32) (60 : Int32)) fun r3 => (if r3 = (0 : Int32) then some (-1) else (b1 (f_X12_in a2 (1 : Int32) (9 : Int32)) fun r5 => (if r5 = (0 : Int32) then some (-1) else (gd (inB a0 3) (vl ((zI s0 79 (a0.toInt.toNat))) fun v8 => (if v8 < (0 : Int32) then some (-2) else (gd (inB v8 120) (if (0 : Int32) < (zI s0 69 (v8.toInt.toNat)) then some (-2) else (gd (inB v8 120) (if (zI s0 67 (v8.toInt.toNat)) < a1 then (gd (inB v8 120) (gd (inB a0 3) (gd (inB v8 120) (vl (((((a1 - (zI s0 67 (v8.toInt.toNat))) * (zI s0 78 (a0.toInt.toNat))) * a2) - (zI s0 68 (v8.toInt.toNat)))) fun v17 => (jn (fun (t18_0 : Int32) => (gd (inB a0 3) (jn (fun (t20_0 : Int32) => (b1 (f_X12_held (t20_0 + t18_0) (0 : Int32) (9999 : Int32)) fun r21 => some r21)) fun k20 => (if (zS s0 59 1) < (zI s0 80 (a0.toInt.toNat)) then (gd (inB a0 3) (k20 (zI s0 80 (a0.toInt.toNat)))) else (k20 (zS s0 59 1)))))) fun k18 => (if (60 : Int32) < v17 then (k18 ((v17 + (59 : Int32)) / (60 : Int32))) else (k18 1))))))) else some (-2))))))))))))))
set_option maxRecDepth 4000 in
theorem t_X12_race {r9 : Int32} {s0 : SS} {h0 : List aE} {a0 : Int32} {a1 : Int32} {a2 : Int32} (H0 : HH s0 h0) (hf : f_X12_race s0 a0 a1 a2 = some r9) : AM mX12_race (2) [.ref 67, .int a0, .int a1, .int a2] h0 0 0 (PI fun r' h' => r9 = r' ∧ h0 = h') := by
  unfold f_X12_race at hf
  refine am_of (lv := [some (.ref 67), some (.int a0), some (.int a1), some (.int a2), none, none, none, none]) rfl (Nat.le_of_ble_eq_true rfl) rfl ?_
  refine aw_iload_n (pc' := 1) dX12_race_0 rfl rfl ?_
  obtain ⟨r1, ec1, hf⟩ := b1_e hf
  refine aw_callSi (M' := mX12_isMachine) (nc' := 0) (ns' := 0) (pc' := 4) dX12_race_1 rfl ml_RX12_278 kX12_isMachine (t_X12_isMachine ec1) rfl rfl (Nat.le_of_ble_eq_true rfl) (rokD (by omega) (Nat.le_of_ble_eq_true rfl) (Nat.le_of_ble_eq_true rfl) (Nat.le_of_ble_eq_true rfl)) rfl rfl (fun _ h1 q1 => ?_)
  obtain ⟨rfl, rfl, zb1⟩ := q1
  refine aw_if_eq (tgt := 27) (pc' := 7) dX12_race_4 (by decide) rfl (fun c2 => ?_) (fun c2 => ?_)
  · replace hf := ifp c2 hf
    refine aw_iconst (v := (-1)) (pc' := 28) dX12_race_27 rfl (by decide) ?_
    obtain rfl := Option.some.inj hf
    exact aw_ri dX12_race_28 rfl rfl (Nat.le_of_ble_eq_true rfl) (Nat.le_of_ble_eq_true rfl) ⟨rfl, rfl⟩
  · replace hf := ifn c2 hf
    refine aw_iload_n (pc' := 8) dX12_race_7 rfl rfl ?_
    refine aw_iconst (v := 1) (pc' := 9) dX12_race_8 rfl (by decide) ?_
    refine aw_bipush (v := 60) (pc' := 11) dX12_race_9 rfl (by decide) ?_
    obtain ⟨r3, ec3, hf⟩ := b1_e hf
    refine aw_callSi (M' := mX12_in) (nc' := 0) (ns' := 0) (pc' := 14) dX12_race_11 rfl ml_RX12_230 kX12_in (t_X12_in ec3) rfl rfl (Nat.le_of_ble_eq_true rfl) (rokD (by omega) (Nat.le_of_ble_eq_true rfl) (Nat.le_of_ble_eq_true rfl) (Nat.le_of_ble_eq_true rfl)) rfl rfl (fun _ h3 q3 => ?_)
    obtain ⟨rfl, rfl, zb3⟩ := q3
    refine aw_if_eq (tgt := 27) (pc' := 17) dX12_race_14 (by decide) rfl (fun c4 => ?_) (fun c4 => ?_)
    · replace hf := ifp c4 hf
      refine aw_iconst (v := (-1)) (pc' := 28) dX12_race_27 rfl (by decide) ?_
      obtain rfl := Option.some.inj hf
      exact aw_ri dX12_race_28 rfl rfl (Nat.le_of_ble_eq_true rfl) (Nat.le_of_ble_eq_true rfl) ⟨rfl, rfl⟩
    · replace hf := ifn c4 hf
      refine aw_iload_n (pc' := 18) dX12_race_17 rfl rfl ?_
      refine aw_iconst (v := 1) (pc' := 19) dX12_race_18 rfl (by decide) ?_
      refine aw_bipush (v := 9) (pc' := 21) dX12_race_19 rfl (by decide) ?_
      obtain ⟨r5, ec5, hf⟩ := b1_e hf
      refine aw_callSi (M' := mX12_in) (nc' := 0) (ns' := 0) (pc' := 24) dX12_race_21 rfl ml_RX12_230 kX12_in (t_X12_in ec5) rfl rfl (Nat.le_of_ble_eq_true rfl) (rokD (by omega) (Nat.le_of_ble_eq_true rfl) (Nat.le_of_ble_eq_true rfl) (Nat.le_of_ble_eq_true rfl)) rfl rfl (fun _ h5 q5 => ?_)
      obtain ⟨rfl, rfl, zb5⟩ := q5
      refine aw_if_ne (tgt := 29) (pc' := 27) dX12_race_24 (by decide) rfl (fun c6 => ?_) (fun c6 => ?_)
      · replace hf := ifn c6 hf
        refine aw_aload_n (pc' := 30) dX12_race_29 rfl rfl rfl ?_
        refine aw_gr (q := 59) (e := 41) (v := .ref 87) (pc' := 33) H0 (H0.fo rfl rfl) (by decide) rfl rfl dX12_race_30 rfl fl_RX12_72 ?_
        refine aw_iload_n (pc' := 34) dX12_race_33 rfl rfl ?_
        obtain ⟨g7, hf⟩ := gd_e hf
        refine aw_ia (q := 79) (pc' := 35) H0 (H0.fa rfl rfl rfl) g7 dX12_race_34 rfl ?_
        obtain ⟨v8, ev8, hf⟩ := vl_e hf
        refine aw_topi ev8 ?_
        refine aw_istore (lv' := [_, _, _, _, _, _, _, _]) (pc' := 37) dX12_race_35 rfl (Nat.le_of_ble_eq_true rfl) rfl ?_
        refine aw_iload (pc' := 39) dX12_race_37 rfl rfl ?_
        refine aw_zlt (tgt := 63) (pc' := 42) dX12_race_39 (by decide) rfl (fun c9 => ?_) (fun c9 => ?_)
        · replace hf := ifp c9 hf
          refine aw_bipush (v := (-2)) (pc' := 65) dX12_race_63 rfl (by decide) ?_
          obtain rfl := Option.some.inj hf
          exact aw_ri dX12_race_65 rfl rfl (Nat.le_of_ble_eq_true rfl) (Nat.le_of_ble_eq_true rfl) ⟨rfl, rfl⟩
        · replace hf := ifn c9 hf
          refine aw_aload_n (pc' := 43) dX12_race_42 rfl rfl rfl ?_
          refine aw_gr (q := 59) (e := 21) (v := .ref 77) (pc' := 46) H0 (H0.fo rfl rfl) (by decide) rfl rfl dX12_race_43 rfl fl_RX12_38 ?_
          refine aw_iload (pc' := 48) dX12_race_46 rfl rfl ?_
          obtain ⟨g10, hf⟩ := gd_e hf
          refine aw_ia (q := 69) (pc' := 49) H0 (H0.fa rfl rfl rfl) g10 dX12_race_48 rfl ?_
          refine aw_zgt (tgt := 63) (pc' := 52) dX12_race_49 (by decide) rfl (fun c11 => ?_) (fun c11 => ?_)
          · replace hf := ifp c11 hf
            refine aw_bipush (v := (-2)) (pc' := 65) dX12_race_63 rfl (by decide) ?_
            obtain rfl := Option.some.inj hf
            exact aw_ri dX12_race_65 rfl rfl (Nat.le_of_ble_eq_true rfl) (Nat.le_of_ble_eq_true rfl) ⟨rfl, rfl⟩
          · replace hf := ifn c11 hf
            refine aw_aload_n (pc' := 53) dX12_race_52 rfl rfl rfl ?_
            refine aw_gr (q := 59) (e := 17) (v := .ref 75) (pc' := 56) H0 (H0.fo rfl rfl) (by decide) rfl rfl dX12_race_53 rfl fl_RX12_32 ?_
            refine aw_iload (pc' := 58) dX12_race_56 rfl rfl ?_
            obtain ⟨g12, hf⟩ := gd_e hf
            refine aw_ia (q := 67) (pc' := 59) H0 (H0.fa rfl rfl rfl) g12 dX12_race_58 rfl ?_
            refine aw_iload_n (pc' := 60) dX12_race_59 rfl rfl ?_
            refine aw_clt (tgt := 66) (pc' := 63) dX12_race_60 (by decide) rfl (fun c13 => ?_) (fun c13 => ?_)
            · replace hf := ifp c13 hf
              refine aw_iload_n (pc' := 67) dX12_race_66 rfl rfl ?_
              refine aw_aload_n (pc' := 68) dX12_race_67 rfl rfl rfl ?_
              refine aw_gr (q := 59) (e := 17) (v := .ref 75) (pc' := 71) H0 (H0.fo rfl rfl) (by decide) rfl rfl dX12_race_68 rfl fl_RX12_32 ?_
              refine aw_iload (pc' := 73) dX12_race_71 rfl rfl ?_
              obtain ⟨g14, hf⟩ := gd_e hf
              refine aw_ia (q := 67) (pc' := 74) H0 (H0.fa rfl rfl rfl) g14 dX12_race_73 rfl ?_
              refine aw_isub (pc' := 75) dX12_race_74 rfl ?_
              refine aw_aload_n (pc' := 76) dX12_race_75 rfl rfl rfl ?_
              refine aw_gr (q := 59) (e := 39) (v := .ref 86) (pc' := 79) H0 (H0.fo rfl rfl) (by decide) rfl rfl dX12_race_76 rfl fl_RX12_69 ?_
              refine aw_iload_n (pc' := 80) dX12_race_79 rfl rfl ?_
              obtain ⟨g15, hf⟩ := gd_e hf
              refine aw_ia (q := 78) (pc' := 81) H0 (H0.fa rfl rfl rfl) g15 dX12_race_80 rfl ?_
              refine aw_imul (pc' := 82) dX12_race_81 rfl ?_
              refine aw_iload_n (pc' := 83) dX12_race_82 rfl rfl ?_
              refine aw_imul (pc' := 84) dX12_race_83 rfl ?_
              refine aw_aload_n (pc' := 85) dX12_race_84 rfl rfl rfl ?_
              refine aw_gr (q := 59) (e := 19) (v := .ref 76) (pc' := 88) H0 (H0.fo rfl rfl) (by decide) rfl rfl dX12_race_85 rfl fl_RX12_35 ?_
              refine aw_iload (pc' := 90) dX12_race_88 rfl rfl ?_
              obtain ⟨g16, hf⟩ := gd_e hf
              refine aw_ia (q := 68) (pc' := 91) H0 (H0.fa rfl rfl rfl) g16 dX12_race_90 rfl ?_
              refine aw_isub (pc' := 92) dX12_race_91 rfl ?_
              obtain ⟨v17, ev17, hf⟩ := vl_e hf
              refine aw_topi ev17 ?_
              refine aw_istore (lv' := [_, _, _, _, _, _, _, _]) (pc' := 94) dX12_race_92 rfl (Nat.le_of_ble_eq_true rfl) rfl ?_
              refine aw_iload (pc' := 96) dX12_race_94 rfl rfl ?_
              refine aw_bipush (v := 60) (pc' := 98) dX12_race_96 rfl (by decide) ?_
              obtain ⟨k18, ek18, hf⟩ := jn_e hf
              have hk18 : ∀ (t18_0 : Int32), k18 t18_0 = some r9 → AW mX12_race (rmD (2) 0 0) (fin (PI fun r' h' => r9 = r' ∧ h0 = h') 0 0) 113 [some (.ref 67), some (.int a0), none, none, none, none, none, none] [.int t18_0] h0 0 0 := by
                intro t18_0 hf
                subst ek18
                refine aw_istore (lv' := [_, _, _, _, _, _, _, _]) (pc' := 115) dX12_race_113 rfl (Nat.le_of_ble_eq_true rfl) rfl ?_
                refine aw_aload_n (pc' := 116) dX12_race_115 rfl rfl rfl ?_
                refine aw_gr (q := 59) (e := 43) (v := .ref 88) (pc' := 119) H0 (H0.fo rfl rfl) (by decide) rfl rfl dX12_race_116 rfl fl_RX12_75 ?_
                refine aw_iload_n (pc' := 120) dX12_race_119 rfl rfl ?_
                obtain ⟨g19, hf⟩ := gd_e hf
                refine aw_ia (q := 80) (pc' := 121) H0 (H0.fa rfl rfl rfl) g19 dX12_race_120 rfl ?_
                refine aw_aload_n (pc' := 122) dX12_race_121 rfl rfl rfl ?_
                refine aw_gi (q := 59) (pc' := 125) H0 (H0.fo rfl rfl) (by decide) rfl dX12_race_122 rfl fl_RX12_281 ?_
                obtain ⟨k20, ek20, hf⟩ := jn_e hf
                have hk20 : ∀ (t20_0 : Int32), k20 t20_0 = some r9 → AW mX12_race (rmD (2) 0 0) (fin (PI fun r' h' => r9 = r' ∧ h0 = h') 0 0) 141 [none, none, none, none, none, none, some (.int t18_0), none] [.int t20_0] h0 0 0 := by
                  intro t20_0 hf
                  subst ek20
                  refine aw_istore (lv' := [_, _, _, _, _, _, _, _]) (pc' := 143) dX12_race_141 rfl (Nat.le_of_ble_eq_true rfl) rfl ?_
                  refine aw_iload (pc' := 145) dX12_race_143 rfl rfl ?_
                  refine aw_iload (pc' := 147) dX12_race_145 rfl rfl ?_
                  refine aw_iadd (pc' := 148) dX12_race_147 rfl ?_
                  refine aw_iconst (v := 0) (pc' := 149) dX12_race_148 rfl (by decide) ?_
                  refine aw_sipush (v := 9999) (pc' := 152) dX12_race_149 rfl (by decide) ?_
                  obtain ⟨r21, ec21, hf⟩ := b1_e hf
                  refine aw_callSi (M' := mX12_held) (nc' := 0) (ns' := 0) (pc' := 155) dX12_race_152 rfl ml_RX12_284 kX12_held (t_X12_held ec21) rfl rfl (Nat.le_of_ble_eq_true rfl) (rokD (by omega) (Nat.le_of_ble_eq_true rfl) (Nat.le_of_ble_eq_true rfl) (Nat.le_of_ble_eq_true rfl)) rfl rfl (fun _ h21 q21 => ?_)
                  obtain ⟨rfl, rfl⟩ := q21
                  obtain rfl := Option.some.inj hf
                  exact aw_ri dX12_race_155 rfl rfl (Nat.le_of_ble_eq_true rfl) (Nat.le_of_ble_eq_true rfl) ⟨rfl, rfl⟩
                clear ek20
                refine aw_cle (tgt := 137) (pc' := 128) dX12_race_125 (by decide) rfl (fun c22 => ?_) (fun c22 => ?_)
                · replace hf := ifn c22 hf
                  refine aw_aload_n (pc' := 138) dX12_race_137 rfl rfl rfl ?_
                  refine aw_gi (q := 59) (pc' := 141) H0 (H0.fo rfl rfl) (by decide) rfl dX12_race_138 rfl fl_RX12_281 ?_
                  refine AW.lv_le (lz_d (lz_d (lz_d (lz_d (lz_d (lz_d (lz_k (lz_d lz_0)))))))) ?_
                  exact hk20 _ hf
                · replace hf := ifp c22 hf
                  refine aw_aload_n (pc' := 129) dX12_race_128 rfl rfl rfl ?_
                  refine aw_gr (q := 59) (e := 43) (v := .ref 88) (pc' := 132) H0 (H0.fo rfl rfl) (by decide) rfl rfl dX12_race_129 rfl fl_RX12_75 ?_
                  refine aw_iload_n (pc' := 133) dX12_race_132 rfl rfl ?_
                  obtain ⟨g23, hf⟩ := gd_e hf
                  refine aw_ia (q := 80) (pc' := 134) H0 (H0.fa rfl rfl rfl) g23 dX12_race_133 rfl ?_
                  refine aw_goto (tgt := 141) dX12_race_134 (by decide) ?_
                  refine AW.lv_le (lz_d (lz_d (lz_d (lz_d (lz_d (lz_d (lz_k (lz_d lz_0)))))))) ?_
                  exact hk20 _ hf
              clear ek18
              refine aw_cgt (tgt := 105) (pc' := 101) dX12_race_98 (by decide) rfl (fun c24 => ?_) (fun c24 => ?_)
              · replace hf := ifp c24 hf
                refine aw_iload (pc' := 107) dX12_race_105 rfl rfl ?_
                refine aw_bipush (v := 59) (pc' := 109) dX12_race_107 rfl (by decide) ?_
                refine aw_iadd (pc' := 110) dX12_race_109 rfl ?_
                refine aw_bipush (v := 60) (pc' := 112) dX12_race_110 rfl (by decide) ?_
                refine aw_idiv (pc' := 113) dX12_race_112 rfl (by decide) ?_
                refine AW.lv_le (lz_k (lz_k (lz_d (lz_d (lz_d (lz_d (lz_d (lz_d lz_0)))))))) ?_
                exact hk18 _ hf
              · replace hf := ifn c24 hf
                refine aw_iconst (v := 1) (pc' := 102) dX12_race_101 rfl (by decide) ?_
                refine aw_goto (tgt := 113) dX12_race_102 (by decide) ?_
                refine AW.lv_le (lz_k (lz_k (lz_d (lz_d (lz_d (lz_d (lz_d (lz_d lz_0)))))))) ?_
                exact hk18 _ hf
            · replace hf := ifn c13 hf
              refine aw_bipush (v := (-2)) (pc' := 65) dX12_race_63 rfl (by decide) ?_
              obtain rfl := Option.some.inj hf
              exact aw_ri dX12_race_65 rfl rfl (Nat.le_of_ble_eq_true rfl) (Nat.le_of_ble_eq_true rfl) ⟨rfl, rfl⟩
      · replace hf := ifp c6 hf
        refine aw_iconst (v := (-1)) (pc' := 28) dX12_race_27 rfl (by decide) ?_
        obtain rfl := Option.some.inj hf
        exact aw_ri dX12_race_28 rfl rfl (Nat.le_of_ble_eq_true rfl) (Nat.le_of_ble_eq_true rfl) ⟨rfl, rfl⟩
