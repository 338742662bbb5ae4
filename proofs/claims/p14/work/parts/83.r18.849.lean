/-! LOG: how many came -/
def LV (i y n L v : Int) : Prop := 0 ≤ v ∧ v ≤ n ∧ (v = 0 ∨ (0 ≤ i ∧ i + v ≤ L ∧ y + v ≤ 61)) ∧ (v = n ∨ 60 < y + v ∨ ¬ (0 ≤ i + v ∧ i + v < L))
theorem LV.u {i y n L v w : Int} (h1 : LV i y n L v) (h2 : LV i y n L w) : v = w := by
  unfold LV at *
  omega
theorem i32_ge {a b : Int32} (h0 : 0 ≤ b.toInt) (h1 : b.toInt ≤ 60) (h : 2147483648 ≤ a.toInt + b.toInt) : (a + b).toInt < 0 := by
  have ha := jlo a
  rw [Int32.toInt_add, Int.bmod_def]
  omega
theorem fS_V {i k : Nat} (hi : i < 6) (hk : k < 4) : fS (47 + 2 * i) k = true := by
  have h : i = 0 ∨ i = 1 ∨ i = 2 ∨ i = 3 ∨ i = 4 ∨ i = 5 := by omega
  have h' : k = 0 ∨ k = 1 ∨ k = 2 ∨ k = 3 := by omega
  rcases h with rfl | rfl | rfl | rfl | rfl | rfl <;> rcases h' with rfl | rfl | rfl | rfl <;> rfl
def LX (s : SS) (i : Nat) : Int := if zS s (47 + 2 * i) 0 = 0 then 0 else (zS s (47 + 2 * i) 3).toInt
def LM (s : SS) (i : Nat) : Int := if zI s 120 i = -1 then 0 else (zI s 121 i).toInt
theorem lgX {b0 : SS} {p0 i : Nat} {y2 y3 y4 : Int32} (hi : i < 6) (o : okH b0 p0) (h3 : 1 ≤ y3.toInt ∧ y3.toInt ≤ 60) (h4 : 1 ≤ y4.toInt ∧ y4.toInt ≤ 60) (hd : zS b0 (47 + 2 * i) 0 = 0 ∨ zS b0 (47 + 2 * i) 0 = 2) : ∀ (n : Nat) (s : SS) (x : Int32), Lk b0 s → 0 ≤ x.toInt → x.toInt ≤ y4.toInt → (x.toInt = 0 ∨ (0 ≤ y2.toInt ∧ y2.toInt + x.toInt ≤ LX b0 i ∧ y3.toInt + x.toInt ≤ 61)) → y4.toInt - x.toInt < n → ∃ v r, f_X3_logged_L6 (fun (s17 : SS) (x17_5 : Int32) (x17_7 : Int32) => (b1 (f_X3_lostFrom s17 p0 x17_7) fun s18 => some (x17_5, s18))) p0 (47 + 2 * i) y2 y3 y4 n s x x = some (v, r) ∧ Lk b0 r ∧ LV y2.toInt y3.toInt y4.toInt (LX b0 i) v.toInt
  | 0, s, x, _, _, _, _, h => by omega
  | n + 1, s, x, K, hx0, hx1, hp, hn => by
    have e0 : zS s (47 + 2 * i) 0 = zS b0 (47 + 2 * i) 0 := K.2.2.1 _ _ (fS_V hi (by omega))
    have e3 : zS s (47 + 2 * i) 3 = zS b0 (47 + 2 * i) 3 := K.2.2.1 _ _ (fS_V hi (by omega))
    have b3 : 0 ≤ (zS b0 (47 + 2 * i) 3).toInt ∧ (zS b0 (47 + 2 * i) 3).toInt ≤ 60 := by
      rw [← e3]
      exact K.1.1.v3 ⟨by omega, by omega, by omega⟩
    have j60 : (60 : Int32).toInt = 60 := rfl
    rw [f_X3_logged_L6, f_X3_logged_L6_b]
    by_cases hl : x < y4
    · have hl' := hl
      rw [jlt] at hl'
      have a3 : (y3 + x).toInt = y3.toInt + x.toInt := i32_add (by omega) (by omega)
      have n1 : (x + 1).toInt = x.toInt + 1 := by rw [i32_add (by rw [jl1]; omega) (by rw [jl1]; omega), jl1]
      rw [if_pos hl]
      by_cases hy : (60 : Int32) < y3 + x
      · rw [if_pos hy]
        rw [jlt, j60, a3] at hy
        refine ⟨x, s, rfl, K, hx0, hx1, ?_, Or.inr (Or.inl hy)⟩
        omega
      rw [if_neg hy, vl]
      rw [jlt, j60, a3] at hy
      have hout : ∀ r4 : Int32, ¬ r4 = 0 → f_X8_refusal s (47 + 2 * i) (y2 + x) = some r4 → ¬ (0 ≤ y2.toInt + x.toInt ∧ y2.toInt + x.toInt < LX b0 i) → ∃ v r, (b1 (f_X8_refusal s (47 + 2 * i) (y2 + x)) fun r4 => (if r4 = (0 : Int32) then (vl ((y2 + x)) fun v6 => (gd (inB v6 60) (wl ((zJ s (47 + 2 * i + 1) (v6.toInt.toNat))) fun v8 => (jn (fun (t10_0 : Int32) => (gd (inB (y3 + x) 61) (st (pI s (p0 + 3) ((y3 + x).toInt.toNat) t10_0) fun s12 => (vl (x + 1) fun v13 => (vl (x + 1) fun v14 => (f_X3_logged_L6 (fun (s17 : SS) (x17_5 : Int32) (x17_7 : Int32) => (b1 (f_X3_lostFrom s17 p0 x17_7) fun s18 => some (x17_5, s18))) p0 (47 + 2 * i) y2 y3 y4 n s12 v13 v14)))))) fun k10 => (if (lg_cmp v8 9223372036854775807) = (0 : Int32) then (b1 (f_X3_logAhead s p0 (y3 + x)) fun r16 => (k10 r16)) else (k10 v8.toInt32)))))) else (b1 (f_X3_lostFrom s p0 (y3 + x)) fun s18 => some (x, s18)))) = some (v, r) ∧ Lk b0 r ∧ LV y2.toInt y3.toInt y4.toInt (LX b0 i) v.toInt := by
        intro r4 h4 er hr
        rw [er, b1_some, if_neg h4]
        obtain ⟨s18, e18, K18⟩ := w_X3_lostFrom (b0 := b0) (pt := p0) (a0 := y3 + x) K o (by rw [a3]; omega)
        rw [e18, b1_some]
        refine ⟨x, s18, rfl, K18, hx0, hx1, ?_, Or.inr (Or.inr hr)⟩
        omega
      rcases hd with hd | hd
      · have el : LX b0 i = 0 := if_pos hd
        refine hout (-11) (by decide) ?_ (by rw [el]; omega)
        unfold f_X8_refusal
        rw [if_pos (by rw [e0]; exact hd)]
      · have el : LX b0 i = (zS b0 (47 + 2 * i) 3).toInt := if_neg (by rw [hd]; decide)
        by_cases hr : 0 ≤ y2.toInt + x.toInt ∧ y2.toInt + x.toInt < LX b0 i
        · have a2 : (y2 + x).toInt = y2.toInt + x.toInt := i32_add (by omega) (by omega)
          rw [el] at hr
          have er : f_X8_refusal s (47 + 2 * i) (y2 + x) = some 0 := by
            unfold f_X8_refusal
            rw [if_neg (by rw [e0, hd]; decide), if_pos (by rw [e0]; exact hd), if_neg (by rw [jlt, jl0]; omega), if_pos (by rw [jlt, e3]; omega)]
          have hp' : (x + 1).toInt = 0 ∨ (0 ≤ y2.toInt ∧ y2.toInt + (x + 1).toInt ≤ LX b0 i ∧ y3.toInt + (x + 1).toInt ≤ 61) := by
            rw [n1, el]
            rw [el] at hp
            omega
          have kk : ∀ t10 : Int32, ∃ v r, (gd (inB (y3 + x) 61) (st (pI s (p0 + 3) ((y3 + x).toInt.toNat) t10) fun s12 => (vl (x + 1) fun v13 => (vl (x + 1) fun v14 => (f_X3_logged_L6 (fun (s17 : SS) (x17_5 : Int32) (x17_7 : Int32) => (b1 (f_X3_lostFrom s17 p0 x17_7) fun s18 => some (x17_5, s18))) p0 (47 + 2 * i) y2 y3 y4 n s12 v13 v14))))) = some (v, r) ∧ Lk b0 r ∧ LV y2.toInt y3.toInt y4.toInt (LX b0 i) v.toInt := by
            intro t10
            rw [gd_t ⟨by rw [a3]; omega, by rw [a3]; omega⟩, st, vl, vl]
            exact lgX hi o h3 h4 (Or.inr hd) n _ (x + 1) (Lk.w3 K o) (by omega) (by omega) hp' (by omega)
          rw [er, b1_some, if_pos rfl, vl, gd_t ⟨by rw [a2]; omega, by rw [a2]; omega⟩, wl, jn]
          by_cases z : lg_cmp (zJ s (47 + 2 * i + 1) (y2 + x).toInt.toNat) 9223372036854775807 = 0
          · rw [if_pos z]
            obtain ⟨r16, e16, -⟩ := w_X3_logAhead (b0 := b0) (pt := p0) (a0 := y3 + x) K o
            rw [e16, b1_some]
            exact kk r16
          · rw [if_neg z]
            exact kk _
        · refine hout (-13) (by decide) ?_ hr
          rw [el] at hr
          unfold f_X8_refusal
          rw [if_neg (by rw [e0, hd]; decide), if_pos (by rw [e0]; exact hd)]
          by_cases ng : y2 + x < 0
          · rw [if_pos ng]
          rw [if_neg ng]
          rw [jlt, jl0] at ng
          by_cases ov : y2.toInt + x.toInt < 2147483648
          · have l2 := jlo y2
            have a2 : (y2 + x).toInt = y2.toInt + x.toInt := i32_add (by omega) ov
            rw [if_neg (by rw [jlt, e3]; omega)]
          · have := i32_ge (a := y2) hx0 (by omega) (Int.not_lt.mp ov)
            omega
    · rw [if_neg hl]
      rw [jlt] at hl
      refine ⟨x, s, rfl, K, hx0, hx1, ?_, Or.inl (by omega)⟩
      omega
theorem lg129 {b0 : SS} {y1 y6 : Int32} (h1 : 0 ≤ y1.toInt ∧ y1.toInt ≤ 119) : ∀ (n : Nat) (s : SS) (x : Int32), Lk b0 s → 1 ≤ x.toInt → x.toInt ≤ 61 → 61 - x.toInt < n → ∃ r, f_X12_log_L129 y1 y6 n s x = some (y6, r) ∧ Lk b0 r
  | 0, s, x, _, _, _, h => by omega
  | n + 1, s, x, K, hx0, hx1, hn => by
    have j60 : (60 : Int32).toInt = 60 := rfl
    have j61 : (61 : Int32).toInt = 61 := rfl
    rw [f_X12_log_L129, f_X12_log_L129_b]
    by_cases hl : (60 : Int32) < x
    · rw [if_pos hl]
      exact ⟨s, rfl, K⟩
    · rw [if_neg hl]
      rw [jlt, j60] at hl
      have m1 : (61 * y1).toInt = 61 * y1.toInt := by rw [i32_mul (by rw [j61]; omega) (by rw [j61]; omega), j61]
      have m2 : (61 * y1 + x).toInt = 61 * y1.toInt + x.toInt := by rw [i32_add (by omega) (by omega), m1]
      have n1 : (x + 1).toInt = x.toInt + 1 := by rw [i32_add (by rw [jl1]; omega) (by rw [jl1]; omega), jl1]
      rw [vl, gd_t ⟨by omega, by omega⟩, st, vl]
      exact lg129 h1 n _ (x + 1) (Lk.wI K (q := 72) (by decide) (by decide) trivial) (by omega) (by omega) (by omega)
theorem lgM {b0 : SS} {y1 y2 y3 y4 y5 : Int32} (h1 : 0 ≤ y1.toInt ∧ y1.toInt ≤ 119) (h2 : 0 ≤ y2.toInt ∧ y2.toInt ≤ 5) (h4 : 1 ≤ y4.toInt ∧ y4.toInt ≤ 60) (h5 : 1 ≤ y5.toInt ∧ y5.toInt ≤ 60) : ∀ (n : Nat) (s : SS) (x : Int32), Lk b0 s → 0 ≤ x.toInt → x.toInt ≤ y5.toInt → (x.toInt = 0 ∨ (0 ≤ y3.toInt ∧ y3.toInt + x.toInt ≤ LM b0 y2.toInt.toNat ∧ y4.toInt + x.toInt ≤ 61)) → y5.toInt - x.toInt < n → ∃ v r, f_X12_log_L63 (fun (s41 : SS) (x41_6 : Int32) (x41_7 : Int32) => (f_X12_log_L129 y1 x41_6 4000 s41 x41_7)) y1 y2 y3 y4 y5 n s x = some (v, r) ∧ Lk b0 r ∧ LV y3.toInt y4.toInt y5.toInt (LM b0 y2.toInt.toNat) v.toInt
  | 0, s, x, _, _, _, _, h => by omega
  | n + 1, s, x, K, hx0, hx1, hp, hn => by
    have e0 : zI s 120 y2.toInt.toNat = zI b0 120 y2.toInt.toNat := K.2.2.2.1 120 _ rfl
    have e3 : zI s 121 y2.toInt.toNat = zI b0 121 y2.toInt.toNat := K.2.2.2.1 121 _ rfl
    have b3 : 0 ≤ (zI b0 121 y2.toInt.toNat).toInt ∧ (zI b0 121 y2.toInt.toNat).toInt ≤ 60 := by
      rw [← e3]
      exact K.1.a (q := 121) rfl
    have j60 : (60 : Int32).toInt = 60 := rfl
    have j61 : (61 : Int32).toInt = 61 := rfl
    have g2 : inB y2 6 := ⟨by omega, by omega⟩
    rw [f_X12_log_L63, f_X12_log_L63_b]
    by_cases hl : x < y5
    · have hl' := hl
      rw [jlt] at hl'
      have a3 : (y4 + x).toInt = y4.toInt + x.toInt := i32_add (by omega) (by omega)
      have n1 : (x + 1).toInt = x.toInt + 1 := by rw [i32_add (by rw [jl1]; omega) (by rw [jl1]; omega), jl1]
      rw [if_pos hl, vl]
      by_cases hy : (60 : Int32) < y4 + x
      · rw [if_pos hy]
        rw [jlt, j60, a3] at hy
        refine ⟨x, s, rfl, K, hx0, hx1, ?_, Or.inr (Or.inl hy)⟩
        omega
      rw [if_neg hy, wl, gd_t g2]
      rw [jlt, j60, a3] at hy
      have hout : ¬ (0 ≤ y3.toInt + x.toInt ∧ y3.toInt + x.toInt < LM b0 y2.toInt.toNat) → ∃ v r, f_X12_log_L129 y1 x 4000 s (y4 + x) = some (v, r) ∧ Lk b0 r ∧ LV y3.toInt y4.toInt y5.toInt (LM b0 y2.toInt.toNat) v.toInt := by
        intro hr
        obtain ⟨r, er, Kr⟩ := lg129 (b0 := b0) (y6 := x) h1 4000 s (y4 + x) K (by omega) (by omega) (by omega)
        refine ⟨x, r, er, Kr, hx0, hx1, ?_, Or.inr (Or.inr hr)⟩
        omega
      by_cases hz : zI s 120 y2.toInt.toNat = -1
      · rw [if_pos hz]
        exact hout (by rw [LM, if_pos (by rw [← e0]; exact hz)]; omega)
      rw [if_neg hz]
      have el : LM b0 y2.toInt.toNat = (zI b0 121 y2.toInt.toNat).toInt := if_neg (by rw [← e0]; exact hz)
      have ls := lgsum y3 x
      by_cases c0 : lg_cmp (y3.toInt64 + x.toInt64) 0 < 0
      · rw [if_pos c0]
        have := lgc_lt c0
        rw [ls, show (0 : Int64).toInt = 0 from rfl] at this
        exact hout (by omega)
      rw [if_neg c0, gd_t g2]
      by_cases c1 : lg_cmp (y3.toInt64 + x.toInt64) (zI s 121 y2.toInt.toNat).toInt64 < 0
      · rw [if_pos c1, vl]
        have g0 := lgc_ge c0
        have g1 := lgc_lt c1
        rw [ls, show (0 : Int64).toInt = 0 from rfl] at g0
        rw [ls, Int32.toInt_toInt64, e3] at g1
        have gi : inB (60 * y2 + (y3.toInt64 + x.toInt64).toInt32) 360 := lgix h2 c0 c1 (K.1.a (q := 121) rfl)
        have m1 : (61 * y1).toInt = 61 * y1.toInt := by rw [i32_mul (by rw [j61]; omega) (by rw [j61]; omega), j61]
        have m2 : (61 * y1 + (y4 + x)).toInt = 61 * y1.toInt + (y4.toInt + x.toInt) := by rw [i32_add (by omega) (by omega), m1, a3]
        have m3 : (61 * y1 + (y4 + x) - 1).toInt = 61 * y1.toInt + (y4.toInt + x.toInt) - 1 := by rw [i32_sub (by rw [m2, jl1]; omega) (by rw [m2, jl1]; omega), m2, jl1]
        have g25 : inB (61 * y1 + (y4 + x)) 7320 := ⟨by omega, by omega⟩
        have kk : ∀ t24 : Int32, ∃ v r, (vl ((((61 : Int32) * y1) + (y4 + x))) fun v25 => (gd (inB v25 7320) (st (pI s 73 (v25.toInt.toNat) t24) fun s27 => (vl ((((61 : Int32) * y1) + (y4 + x))) fun v28 => (gd (inB v28 7320) (st (pI s27 72 (v28.toInt.toNat) ((1 : Int32) &&& 1)) fun s30 => (vl (x + 1) fun v31 => (f_X12_log_L63 (fun (s41 : SS) (x41_6 : Int32) (x41_7 : Int32) => (f_X12_log_L129 y1 x41_6 4000 s41 x41_7)) y1 y2 y3 y4 y5 n s30 v31)))))))) = some (v, r) ∧ Lk b0 r ∧ LV y3.toInt y4.toInt y5.toInt (LM b0 y2.toInt.toNat) v.toInt := by
          intro t24
          rw [vl, gd_t g25, st, vl, gd_t g25, st, vl]
          refine lgM h1 h2 h4 h5 n _ (x + 1) (Lk.wI (Lk.wI K (q := 73) (by decide) (by decide) trivial) (q := 72) (by decide) (by decide) trivial) (by omega) (by omega) ?_ (by omega)
          rw [n1, el]
          rw [el] at hp
          omega
        have k22 : ∀ t22 : Int32, ∃ v r, (gd (inB (60 * y2 + (y3.toInt64 + x.toInt64).toInt32) 360) (jn (fun (t24_0 : Int32) => (vl ((((61 : Int32) * y1) + (y4 + x))) fun v25 => (gd (inB v25 7320) (st (pI s 73 (v25.toInt.toNat) t24_0) fun s27 => (vl ((((61 : Int32) * y1) + (y4 + x))) fun v28 => (gd (inB v28 7320) (st (pI s27 72 (v28.toInt.toNat) ((1 : Int32) &&& 1)) fun s30 => (vl (x + 1) fun v31 => (f_X12_log_L63 (fun (s41 : SS) (x41_6 : Int32) (x41_7 : Int32) => (f_X12_log_L129 y1 x41_6 4000 s41 x41_7)) y1 y2 y3 y4 y5 n s30 v31))))))))) fun k24 => (if (zI s 123 ((60 * y2 + (y3.toInt64 + x.toInt64).toInt32).toInt.toNat)) = (0 : Int32) then (gd (inB (60 * y2 + (y3.toInt64 + x.toInt64).toInt32) 360) (k24 ((zJ s 122 ((60 * y2 + (y3.toInt64 + x.toInt64).toInt32).toInt.toNat)).toInt32))) else (k24 t22)))) = some (v, r) ∧ Lk b0 r ∧ LV y3.toInt y4.toInt y5.toInt (LM b0 y2.toInt.toNat) v.toInt := by
          intro t22
          rw [gd_t gi, jn]
          by_cases z : zI s 123 (60 * y2 + (y3.toInt64 + x.toInt64).toInt32).toInt.toNat = 0
          · rw [if_pos z, gd_t gi]
            exact kk _
          · rw [if_neg z]
            exact kk _
        rw [jn, jn]
        by_cases h13 : (1 : Int32) < y4 + x
        · rw [if_pos h13, vl, gd_t ⟨by omega, by omega⟩]
          rw [jlt, jl1, a3] at h13
          by_cases z : zI s 72 (61 * y1 + (y4 + x) - 1).toInt.toNat = 0
          · rw [if_pos z]
            exact k22 0
          · rw [if_neg z, vl, gd_t ⟨by omega, by omega⟩]
            exact k22 _
        · rw [if_neg h13]
          exact k22 0
      · rw [if_neg c1]
        have g1 := lgc_ge c1
        rw [ls, Int32.toInt_toInt64, e3] at g1
        exact hout (by rw [el]; omega)
    · rw [if_neg hl]
      rw [jlt] at hl
      have : x = y5 := Int32.toInt_inj.1 (by omega)
      refine ⟨y5, s, rfl, K, by omega, by omega, ?_, Or.inl rfl⟩
      rw [← this]
      omega
theorem sort5 {v : Int32} (h : 0 ≤ v.toInt ∧ v.toInt ≤ 4) : v = 0 ∨ v = 1 ∨ v = 2 ∨ v = 3 ∨ v = 4 := by
  have h : v.toInt = 0 ∨ v.toInt = 1 ∨ v.toInt = 2 ∨ v.toInt = 3 ∨ v.toInt = 4 := by omega
  exact h.imp (fun z => Int32.toInt_inj.1 z) (fun h => h.imp (fun z => Int32.toInt_inj.1 z) (fun h => h.imp (fun z => Int32.toInt_inj.1 z) (fun h => h.imp (fun z => Int32.toInt_inj.1 z) (fun z => Int32.toInt_inj.1 z))))
/-- what the shelf lets: rows of numbers, and nothing at all -/
def lgO (s : SS) (i : Nat) : Prop := zS s (47 + 2 * i) 0 = 0 ∨ (zS s (47 + 2 * i) 0 = 2 ∧ (zS s (47 + 2 * i) 2 = 3 ∨ zS s (47 + 2 * i) 2 = 4))
theorem lgO_M {s : SS} {i : Nat} (R : SR s i) : (lgO s i ↔ (zI s 120 i = -1 ∨ zI s 120 i = -5 ∨ zI s 120 i = -6)) ∧ (lgO s i → LX s i = LM s i) := by
  unfold lgO LX LM
  rcases R with ⟨h1, h2⟩ | ⟨h1, h2, h3, h4⟩ | ⟨h1, h2, h3, h4, h5⟩
  · refine ⟨⟨fun _ => Or.inl h2, fun _ => Or.inl h1⟩, fun _ => ?_⟩
    rw [if_pos h1, if_pos h2]
  · refine ⟨⟨fun z => ?_, fun z => ?_⟩, fun z => ?_⟩
    · rw [h1] at z
      rcases z with z | z
      · exact absurd z (by decide)
      · exact absurd z.1 (by decide)
    · rcases z with z | z | z <;> (rw [z] at h3; exact absurd h3 (by decide))
    · rw [h1] at z
      rcases z with z | z
      · exact absurd z (by decide)
      · exact absurd z.1 (by decide)
  · rw [h1, h2, h4]
    rcases sort5 h3 with z | z | z | z | z <;> rw [z] <;> refine ⟨⟨fun w => ?_, fun w => ?_⟩, fun w => ?_⟩ <;> first | (rw [if_neg (by decide), if_neg (by decide)]) | (revert w; decide)
theorem st_log {s : SS} (G : GI s) (a0 : Int32) (a1 : Int32) (a2 : Int32) (a3 : Int32) (a4 : Int32) : ∃ (rx : Int32) (s1 : SS) (rm : Int32) (s2 : SS), f_X11_log s a0 a1 a2 a3 a4 = some (rx, s1) ∧ f_X12_log s1 a0 a1 a2 a3 a4 = some (rm, s2) ∧ GI s2 ∧ rx = rm := by
  have hf : 0 ≤ (zS s 15 3).toInt ∧ (zS s 15 3).toInt ≤ 120 := G.1.1.f (q := 15) (k := 3) rfl
  have j60 : (60 : Int32).toInt = 60 := rfl
  by_cases c : HB s a0
  · obtain ⟨⟨p, ep⟩, em⟩ := hole_t G.1 c
    have op : okH s p := by
      unfold f_X0_holeOf at ep
      rw [if_neg (by rw [jlt, jl0]; have := c.1; omega), if_pos (by rw [jlt]; have := c.1; omega), gd_t ⟨by have := c.1; omega, by have := c.1; omega⟩] at ep
      cases hz : zR s 17 a0.toInt.toNat with
      | none => rw [hz] at ep; cases ep
      | some p' =>
        rw [hz] at ep
        have e2 : p' = p := Option.some.inj (Option.some.inj ep)
        rw [← e2]
        exact G.1.1.1.1.2.2.1 _ _ (by have := c.1; omega) hz
    by_cases d : 0 ≤ a1.toInt ∧ a1.toInt < 6
    · obtain ⟨i, ei⟩ : ∃ i, i = a1.toInt.toNat := ⟨_, rfl⟩
      have hi : i < 6 := by omega
      have es : f_X11_shelfOf s a1 = some (some (47 + 2 * i)) := by rw [ei]; exact shelf_t G.1.1 d
      have ms : f_X12_isShelf a1 = some 1 := by
        unfold f_X12_isShelf
        rw [in_t (by rw [jl0, show (5 : Int32).toInt = 5 from rfl]; omega), b1_some]
      by_cases y : (1 ≤ a3.toInt ∧ a3.toInt ≤ 60) ∧ (1 ≤ a4.toInt ∧ a4.toInt ≤ 60)
      · obtain ⟨R1, R2⟩ := lgO_M (G.1.2.2.2.2.2 i hi)
        have hm0 : ∀ (t : SS) (k : Option (Int32 × SS)), f_X12_isHole t a0 = some 1 → (zI t 120 i = zI s 120 i) → (if (zI t 120 (a1.toInt.toNat)) = ((-1) : Int32) then k else (b1 (f_X12_isReals t a1) fun r48 => (if r48 = (0 : Int32) then some ((-12), t) else k))) = if (zI s 120 i = -1 ∨ zI s 120 i = -5 ∨ zI s 120 i = -6) then k else some (-12, t) := by
          intro t k ht e120
          have g6 : inB a1 6 := ⟨by omega, by omega⟩
          rw [← ei, e120]
          by_cases z1 : zI s 120 i = -1
          · rw [if_pos z1, if_pos (Or.inl z1)]
          rw [if_neg z1]
          unfold f_X12_isReals
          rw [gd_t g6, ← ei, e120]
          by_cases z5 : zI s 120 i = -5
          · rw [if_pos z5, b1_some, if_neg (by decide), if_pos (Or.inr (Or.inl z5))]
          rw [if_neg z5, gd_t g6]
          by_cases z6 : zI s 120 i = -6
          · rw [if_pos z6, b1_some, if_neg (by decide), if_pos (Or.inr (Or.inr z6))]
          · rw [if_neg z6, b1_some, if_pos rfl, if_neg (by rintro (z | z | z) <;> contradiction)]
        have hm1 : ∀ (t : SS), f_X12_isHole t a0 = some 1 → (zI t 120 i = zI s 120 i) → f_X12_log t a0 a1 a2 a3 a4 = if (zI s 120 i = -1 ∨ zI s 120 i = -5 ∨ zI s 120 i = -6) then (f_X12_log_L63 (fun (s41 : SS) (x41_6 : Int32) (x41_7 : Int32) => (f_X12_log_L129 a0 x41_6 4000 s41 x41_7)) a0 a1 a2 a3 a4 4000 t 0) else some (-12, t) := by
          intro t ht e120
          unfold f_X12_log
          rw [ht, b1_some, if_neg (by decide), ms, b1_some, if_neg (by decide), in_t (by rw [jl1, j60]; exact y.1), b1_some, if_neg (by decide), in_t (by rw [jl1, j60]; exact y.2), b1_some, if_neg (by decide), gd_t ⟨by omega, by omega⟩, jn, hm0 t _ ht e120]
        have hx1 : f_X11_isYard a3 = some 1 := yard_t (by omega)
        by_cases o : lgO s i
        · have hd : zS s (47 + 2 * i) 0 = 0 ∨ zS s (47 + 2 * i) 0 = 2 := o.imp (fun z => z) (fun z => z.1)
          obtain ⟨v, r, er, Kr, hv⟩ := lgX (b0 := s) (y2 := a2) hi op y.1 y.2 hd 4000 s 0 (Lk.rf G.1.1) (by decide) (by rw [jl0]; omega) (Or.inl rfl) (by rw [jl0]; omega)
          obtain ⟨w, u, eu, Ku, hw⟩ := lgM (b0 := r) (y1 := a0) (y2 := a1) (y3 := a2) (y4 := a3) (y5 := a4) (by have := c.1; omega) (by omega) y.1 y.2 4000 r 0 (Lk.rf Kr.1) (by decide) (by rw [jl0]; omega) (Or.inl rfl) (by rw [jl0]; omega)
          have e120 : zI r 120 i = zI s 120 i := Kr.2.2.2.1 120 _ rfl
          have e121 : zI r 121 i = zI s 121 i := Kr.2.2.2.1 121 _ rfl
          have eL : LM r i = LX s i := by
            rw [R2 o]
            unfold LM
            rw [e120, e121]
          rw [← ei, eL] at hw
          have em1 : f_X12_isHole r a0 = some 1 := by
            have H : HB r a0 := by
              unfold HB
              rw [Kr.2.2.1 15 3 rfl, Kr.2.2.2.1 16 _ rfl]
              exact c
            exact (hole_t (G.1.go Kr.2.2.a (fun i => Kr.zR_ 17 i) Kr.1) H).2
          refine ⟨v, r, w, u, ?_, by rw [hm1 r em1 e120, if_pos (R1.1 o), eu], G.go Kr.2.2 (fun i => Kr.zR_ 17 i) Ku.2.2 (fun i => Ku.zR_ 17 i) Ku.1, Int32.toInt_inj.1 (hv.u hw)⟩
          unfold f_X11_log
          rw [ep, b1_some, on_some, es, b1_some, on_some, hx1, b1_some, if_neg (by decide), if_neg (by rw [jlt, jl1]; omega), if_neg (by rw [jlt, j60]; omega), if_neg (by rcases hd with z | z <;> rw [z] <;> decide), jn]
          have ek : (bd (f_X3_logged s p (47 + 2 * i) a2 a3 a4) fun r11 s11 => some (r11, s11)) = some (v, r) := by
            unfold f_X3_logged
            rw [er, bd_some]
          rw [ek]
          rcases o with z | ⟨z, z2⟩
          · rw [if_neg (by rw [z]; decide)]
          · rw [if_pos z]
            unfold f_X8_isReal
            rw [if_pos z]
            rcases z2 with z2 | z2
            · rw [if_pos z2, b1_some, if_neg (by decide)]
            · rw [if_neg (by rw [z2]; decide), if_pos z2, b1_some, if_neg (by decide)]
        · refine ⟨-12, s, -12, s, ?_, by rw [hm1 s em rfl, if_neg (fun z => o (R1.2 z))], G, rfl⟩
          unfold f_X11_log
          rw [ep, b1_some, on_some, es, b1_some, on_some, hx1, b1_some, if_neg (by decide), if_neg (by rw [jlt, jl1]; omega), if_neg (by rw [jlt, j60]; omega)]
          by_cases z1 : zS s (47 + 2 * i) 0 = 1
          · rw [if_pos z1]
          rw [if_neg z1, jn]
          have z0 : ¬ zS s (47 + 2 * i) 0 = 0 := fun z => o (Or.inl z)
          have z2 : zS s (47 + 2 * i) 0 = 2 := by
            rcases G.1.2.2.2.2.2 i hi with h | h | h
            · exact absurd h.1 z0
            · exact absurd h.1 z1
            · exact h.1
          rw [if_pos z2]
          unfold f_X8_isReal
          rw [if_pos z2, if_neg (fun z => o (Or.inr ⟨z2, Or.inl z⟩)), if_neg (fun z => o (Or.inr ⟨z2, Or.inr z⟩)), b1_some, if_pos rfl]
      · refine ⟨-1, s, -1, s, ?_, ?_, G, rfl⟩
        · unfold f_X11_log
          rw [ep, b1_some, on_some, es, b1_some, on_some]
          by_cases y1 : 1 ≤ a3.toInt ∧ a3.toInt ≤ 60
          · rw [yard_t (by omega), b1_some, if_neg (by decide)]
            by_cases z : a4 < 1
            · rw [if_pos z]
            · rw [if_neg z, if_pos (by rw [jlt, j60]; rw [jlt, jl1] at z; omega)]
          · rw [yard_f (by omega), b1_some, if_pos rfl]
        · unfold f_X12_log
          rw [em, b1_some, if_neg (by decide), ms, b1_some, if_neg (by decide)]
          by_cases y1 : 1 ≤ a3.toInt ∧ a3.toInt ≤ 60
          · rw [in_t (by rw [jl1, j60]; exact y1), b1_some, if_neg (by decide), in_f (by rw [jl1, j60]; omega), b1_some, if_pos rfl]
          · rw [in_f (by rw [jl1, j60]; exact y1), b1_some, if_pos rfl]
    · refine ⟨-1, s, -1, s, ?_, ?_, G, rfl⟩
      · unfold f_X11_log
        rw [ep, b1_some, on_some, shelf_f d, b1_some, on_none]
      · unfold f_X12_log f_X12_isShelf
        rw [em, b1_some, if_neg (by decide), in_f (by rw [jl0, show (5 : Int32).toInt = 5 from rfl]; omega), b1_some, b1_some, if_pos rfl]
  · obtain ⟨ep, em⟩ := hole_f G.1 c
    refine ⟨-1, s, -1, s, ?_, by unfold f_X12_log; rw [em, b1_some, if_pos rfl], G, rfl⟩
    unfold f_X11_log
    rw [ep, b1_some, on_none]
    by_cases d : 0 ≤ a1.toInt ∧ a1.toInt < 6
    · rw [shelf_t G.1.1 d, b1_some, on_some]
    · rw [shelf_f d, b1_some, on_none]
