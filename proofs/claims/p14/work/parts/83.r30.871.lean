/-! FEED, TEXT: the steps -/
theorem and255 (b : Int32) : (b &&& 255).toInt = b.toInt % 256 := by
  have h : (b &&& 255).toBitVec.toNat = b.toBitVec.toNat % 256 := by
    show (b.toBitVec &&& (255#32)).toNat = _
    rw [BitVec.toNat_and]
    exact Nat.and_two_pow_sub_one_eq_mod _ 8
  have h1 : (b &&& 255).toInt = (b &&& 255).toBitVec.toInt := rfl
  have h2 : b.toInt = b.toBitVec.toInt := rfl
  rw [h1, h2, BitVec.toInt_eq_toNat_cond, BitVec.toInt_eq_toNat_cond, h]
  have := b.toBitVec.isLt
  rw [if_pos (by omega)]
  by_cases c : 2 * b.toBitVec.toNat < 2 ^ 32
  · rw [if_pos c]; omega
  · rw [if_neg c]; omega
theorem byt (b : Int32) : (0 ≤ (b &&& 255).toInt ∧ (b &&& 255).toInt ≤ 255) ∧ (b.toInt8.toInt32.toInt8.toInt32).toInt = if (b &&& 255).toInt < 128 then (b &&& 255).toInt else (b &&& 255).toInt - 256 := by
  have h1 : (b.toInt8.toInt32.toInt8.toInt32).toInt = b.toInt.bmod 256 := by
    rw [Int8.toInt_toInt32, Int32.toInt_toInt8, Int8.toInt_toInt32, Int32.toInt_toInt8, Int.bmod_bmod]
  rw [h1, and255, Int.bmod_def]
  refine ⟨by omega, ?_⟩
  by_cases c : b.toInt % 256 < 128
  · rw [if_pos c, if_pos (by omega)]
    omega
  · rw [if_neg c, if_neg (by omega)]
    omega
def KfX (s r : SS) : Prop := (∀ q k, ¬ (q = 24 ∧ k = 1) → zS r q k = zS s q k) ∧ (∀ q i, q ≠ 25 → zI r q i = zI s q i) ∧ r.2.2 = s.2.2
def KfM (s r : SS) : Prop := (∀ q k, ¬ (q = 59 ∧ k = 37) → zS r q k = zS s q k) ∧ (∀ q i, q ≠ 86 → zI r q i = zI s q i) ∧ r.2.2 = s.2.2
theorem KfX.rf {s : SS} : KfX s s := ⟨fun _ _ _ => rfl, fun _ _ _ => rfl, rfl⟩
theorem KfM.rf {s : SS} : KfM s s := ⟨fun _ _ _ => rfl, fun _ _ _ => rfl, rfl⟩
theorem KfX.tr {a b c : SS} (h : KfX a b) (g : KfX b c) : KfX a c := ⟨fun q k z => (g.1 q k z).trans (h.1 q k z), fun q i z => (g.2.1 q i z).trans (h.2.1 q i z), g.2.2.trans h.2.2⟩
theorem KfM.tr {a b c : SS} (h : KfM a b) (g : KfM b c) : KfM a c := ⟨fun q k z => (g.1 q k z).trans (h.1 q k z), fun q i z => (g.2.1 q i z).trans (h.2.1 q i z), g.2.2.trans h.2.2⟩
theorem fed_l (y1 y2 : Int32) : ∀ (n : Nat) (s t : SS) (x : Int32), TP s t → Iv s → Iv t → 0 ≤ x.toInt → x.toInt ≤ y1.toInt → y1.toInt ≤ 4 → xn s + (y1.toInt - x.toInt) ≤ 160 → y1.toInt - x.toInt < n → ∃ r u, f_X7_fed_L17 y1 y2 n s x = some (zS r 24 1, r) ∧ f_X12_feed_L28 y1 y2 n t x = some (zS u 59 37, u) ∧ TP r u ∧ Iv r ∧ Iv u ∧ KfX s r ∧ KfM t u
  | 0, s, t, x, _, _, _, _, _, _, _, h => by omega
  | n + 1, s, t, x, T, I, J, hx0, hx1, hy, hl, hn => by
    obtain ⟨a1, a2, a3⟩ := id T
    rw [f_X7_fed_L17, f_X7_fed_L17_b, f_X12_feed_L28, f_X12_feed_L28_b]
    by_cases c : x < y1
    · have c' := c
      rw [jlt] at c'
      unfold xn at a2 hl
      have n1 : (x + 1).toInt = x.toInt + 1 := by rw [i32_add (by rw [jl1]; omega) (by rw [jl1]; omega), jl1]
      have n2 : (zS s 24 1 + 1).toInt = (zS s 24 1).toInt + 1 := by rw [i32_add (by rw [jl1]; omega) (by rw [jl1]; omega), jl1]
      obtain ⟨b, eb⟩ : ∃ b, b = y2 >>> (((8 : Int32) * x) &&& 31) := ⟨_, rfl⟩
      rw [if_pos c, if_pos c, vl, vl, gd_t ⟨by omega, by omega⟩, st, zS_pI, vl, st, vl, vl, vl, ← a1, gd_t ⟨by omega, by omega⟩, st, zS_pI, ← a1, vl, st, vl, ← eb]
      obtain ⟨b1, b2⟩ := byt b
      have T1 : TP (pS (pI s 25 (zS s 24 1).toInt.toNat (b &&& 255)) 24 1 (zS s 24 1 + 1)) (pS (pI t 86 (zS s 24 1).toInt.toNat b.toInt8.toInt32.toInt8.toInt32) 59 37 (zS s 24 1 + 1)) := by
        refine ⟨by rw [zS_pS, if_pos ⟨rfl, rfl⟩, zS_pS, if_pos ⟨rfl, rfl⟩], by unfold xn; rw [zS_pS, if_pos ⟨rfl, rfl⟩, n2]; omega, fun i hi => ?_⟩
        rw [zI_pS, zI_pS, zI_pI, zI_pI]
        by_cases w : i = (zS s 24 1).toInt.toNat
        · rw [if_pos ⟨rfl, w⟩, if_pos ⟨rfl, w⟩]
          exact ⟨b1.1, b1.2, b2⟩
        · rw [if_neg (fun z => w z.2), if_neg (fun z => w z.2)]
          exact a3 i hi
      have I1 : Iv (pS (pI s 25 (zS s 24 1).toInt.toNat (b &&& 255)) 24 1 (zS s 24 1 + 1)) := (I.wI (q := 25) (by decide) trivial).wF (q := 24) (k := 1) (by decide) (by decide) ⟨by omega, by omega⟩
      have J1 : Iv (pS (pI t 86 (zS s 24 1).toInt.toNat b.toInt8.toInt32.toInt8.toInt32) 59 37 (zS s 24 1 + 1)) := (J.wI (q := 86) (by decide) trivial).wF (q := 59) (k := 37) (by decide) (by decide) ⟨by omega, by omega⟩
      obtain ⟨r, u, e1, e2, T2, I2, J2, K2, L2⟩ := fed_l y1 y2 n _ _ (x + 1) T1 I1 J1 (by omega) (by omega) hy (by unfold xn; rw [zS_pS, if_pos ⟨rfl, rfl⟩, n2, n1]; omega) (by omega)
      have K1 : KfX s (pS (pI s 25 (zS s 24 1).toInt.toNat (b &&& 255)) 24 1 (zS s 24 1 + 1)) := ⟨fun q k z => by rw [zS_pS, if_neg z, zS_pI], fun q i z => by rw [zI_pS, zI_pI, if_neg (fun w => z w.1)], rfl⟩
      have L1 : KfM t (pS (pI t 86 (zS s 24 1).toInt.toNat b.toInt8.toInt32.toInt8.toInt32) 59 37 (zS s 24 1 + 1)) := ⟨fun q k z => by rw [zS_pS, if_neg z, zS_pI], fun q i z => by rw [zI_pS, zI_pI, if_neg (fun w => z w.1)], rfl⟩
      exact ⟨r, u, e1, e2, T2, I2, J2, K1.tr K2, L1.tr L2⟩
    · rw [if_neg c, if_neg c]
      exact ⟨s, t, rfl, rfl, T, I, J, KfX.rf, KfM.rf⟩
/-- from a state s to u, by the class's part to r: the relations stand again where tapes and counters are alike -/
theorem GI.txt {s u : SS} (G : GI s) (FA : FrA s u) (hR : ∀ i, zR u 17 i = zR s 17 i) (I : Iv u) (hS : ∀ q k, fSB q k = true → ¬ (q = 0 ∧ k = 8) → ¬ (q = 24 ∧ k = 1) → ¬ (q = 59 ∧ (k = 37 ∨ k = 38)) → zS u q k = zS s q k) (hI : ∀ q i, fIB q = true → q ≠ 25 → q ≠ 86 → zI u q i = zI s q i) (T : TT u) : GI u := by
  obtain ⟨⟨t1, t2, t3, t4, t6⟩, t5, ⟨r1, r2⟩, -⟩ := G.2
  refine ⟨G.1.go FA hR I, ⟨?_, ?_, fun i => ?_, fun i => ?_, ?_⟩, fun c y h1 h2 h3 => ?_, ⟨?_, fun i => ?_⟩, T⟩
  · rw [hS 0 14 rfl (by omega) (by omega) (by omega), hS 59 1 rfl (by omega) (by omega) (by omega)]; exact t1
  · rw [hS 1 4 rfl (by omega) (by omega) (by omega), hS 59 56 rfl (by omega) (by omega) (by omega)]; exact t2
  · rw [hI 4 i rfl (by omega) (by omega), hI 97 i rfl (by omega) (by omega)]; exact t3 i
  · rw [hI 5 i rfl (by omega) (by omega), hI 98 i rfl (by omega) (by omega)]; exact t4 i
  · rw [hS 0 14 rfl (by omega) (by omega) (by omega)]; exact t6
  · rw [hI 2 _ rfl (by omega) (by omega), hI 60 _ rfl (by omega) (by omega), hI 3 _ rfl (by omega) (by omega), hI 61 _ rfl (by omega) (by omega)]; exact t5 c y h1 h2 h3
  · rw [hS 15 11 rfl (by omega) (by omega) (by omega), hS 59 87 rfl (by omega) (by omega) (by omega)]; exact r1
  · rw [hI 18 i rfl (by omega) (by omega), hI 119 i rfl (by omega) (by omega)]; exact r2 i
theorem st_feed {s : SS} (G : GI s) (a0 : Int32) (a1 : Int32) : ∃ (rx : Int32) (s1 : SS) (rm : Int32) (s2 : SS), f_X11_feed s a0 a1 = some (rx, s1) ∧ f_X12_feed s1 a0 a1 = some (rm, s2) ∧ GI s2 ∧ rx = rm := by
  obtain ⟨T, e8⟩ := G.2.2.2.2
  obtain ⟨b1, b2, b3⟩ := id T
  have j4 : (4 : Int32).toInt = 4 := rfl
  by_cases c : 1 ≤ a0.toInt ∧ a0.toInt ≤ 4
  · have cx : ¬ a0 < 1 ∧ ¬ 4 < a0 := ⟨by rw [jlt, jl1]; omega, by rw [jlt, j4]; omega⟩
    unfold xn at b2
    have na : (zS s 24 1 + a0).toInt = (zS s 24 1).toInt + a0.toInt := i32_add (by omega) (by omega)
    by_cases d : (zS s 24 1).toInt + a0.toInt ≤ 160
    · obtain ⟨r, _, er, _, _, Ir, _, Kr, _⟩ := fed_l a0 a1 4000 s s 0 T G.1.1 G.1.1 (by decide) (by rw [jl0]; omega) c.2 (by unfold xn; rw [jl0]; omega) (by rw [jl0]; omega)
      have Tr : TP s r := ⟨by rw [Kr.1 59 37 (by omega)]; exact b1, b2, fun i hi => by rw [Kr.2.1 86 i (by omega)]; exact b3 i hi⟩
      obtain ⟨r', u, er', eu, Tu, Ir', Iu, Kr', Ku⟩ := fed_l a0 a1 4000 s r 0 Tr G.1.1 Ir (by decide) (by rw [jl0]; omega) c.2 (by unfold xn; rw [jl0]; omega) (by rw [jl0]; omega)
      have err : r' = r := congrArg Prod.snd (Option.some.inj (er'.symm.trans er))
      rw [err] at er' Tu
      refine ⟨zS r 24 1, r, zS u 59 37, u, ?_, ?_, G.txt ⟨fun q k h => ?_, fun q i h => ?_, fun q i _ => ?_⟩ (fun i => ?_) Iu (fun q k _ _ h1 h2 => ?_) (fun q i _ h1 h2 => ?_) ⟨⟨?_, ?_, fun i hi => ?_⟩, ?_⟩, Tu.1⟩
      · unfold f_X11_feed f_X7_fed
        rw [if_neg cx.1, if_neg cx.2, if_neg (by rw [jlt, j160, na]; omega), er, bd_some]
      · unfold f_X12_feed
        rw [in_t (by rw [jl1, j4]; exact c), b1_some, if_neg (by decide), if_neg (by rw [jlt, j160, Kr.1 59 37 (by omega), ← b1, na]; omega), eu]
      · rw [Ku.1 q k (fun z => by rw [z.1, z.2] at h; cases h), Kr.1 q k (fun z => by rw [z.1, z.2] at h; cases h)]
      · rw [Ku.2.1 q i (fun z => by rw [z] at h; cases h), Kr.2.1 q i (fun z => by rw [z] at h; cases h)]
      · show u.2.2.1 q i = s.2.2.1 q i
        rw [Ku.2.2, Kr.2.2]
      · show u.2.2.2.1 17 i = s.2.2.2.1 17 i
        rw [Ku.2.2, Kr.2.2]
      · rw [Ku.1 q k (by omega), Kr.1 q k h1]
      · rw [Ku.2.1 q i h2, Kr.2.1 q i h1]
      · rw [Ku.1 24 1 (by omega)]; exact Tu.1
      · unfold xn; rw [Ku.1 24 1 (by omega)]; exact Tu.2.1
      · rw [Ku.2.1 25 i (by omega)]; exact Tu.2.2 i hi
      · rw [Ku.1 0 8 (by omega), Kr.1 0 8 (by omega), Ku.1 59 38 (by omega), Kr.1 59 38 (by omega)]; exact e8
    · refine ⟨-3, s, -3, s, ?_, ?_, G, rfl⟩
      · unfold f_X11_feed f_X7_fed
        rw [if_neg cx.1, if_neg cx.2, if_pos (by rw [jlt, j160, na]; omega), bd_some]
      · unfold f_X12_feed
        rw [in_t (by rw [jl1, j4]; exact c), b1_some, if_neg (by decide), if_pos (by rw [jlt, j160, ← b1, na]; omega)]
  · refine ⟨-1, s, -1, s, ?_, ?_, G, rfl⟩
    · unfold f_X11_feed
      by_cases h : a0 < 1
      · rw [if_pos h]
      · rw [if_neg h, if_pos (by rw [jlt, j4]; rw [jlt, jl1] at h; omega)]
    · unfold f_X12_feed
      rw [in_f (by rw [jl1, j4]; exact c), b1_some, if_pos rfl]
theorem TrueE : EC (fun _ _ => True) := ⟨fun _ _ => trivial, fun _ _ => trivial, fun _ _ _ _ _ => trivial, fun _ _ _ _ _ _ _ => trivial, fun _ _ _ => trivial⟩
/-- the kinds of orders are the same -/
theorem ord_l {a : Int32} : (f_X11_isOrder a = some 1 ∧ f_X12_isWhat a = some 1) ∨ (f_X11_isOrder a = some 0 ∧ f_X12_isWhat a = some 0) := by
  have j10 : (10 : Int32).toInt = 10 := rfl
  have j12 : (12 : Int32).toInt = 12 := rfl
  unfold f_X11_isOrder f_X12_isWhat
  by_cases h0 : a < 0
  · have h0' := h0
    rw [jlt, jl0] at h0'
    rw [if_pos h0, in_f (by rw [jl0, j12]; omega), b1_some, if_pos rfl]
    exact Or.inr ⟨rfl, rfl⟩
  have h0' := h0
  rw [jlt, jl0] at h0'
  have e1 : (a / 10).toInt = a.toInt / 10 := by rw [jd10, if_pos (by omega)]
  have e2 : (a % 10).toInt = a.toInt % 10 := by rw [jm10, if_pos (by omega)]
  rw [if_neg h0]
  by_cases h1 : (1 : Int32) < a / 10
  · have h1' := h1
    rw [jlt, jl1, e1] at h1'
    rw [if_pos h1, in_f (by rw [jl0, j12]; omega), b1_some, if_pos rfl]
    exact Or.inr ⟨rfl, rfl⟩
  have h1' := h1
  rw [jlt, jl1, e1] at h1'
  rw [if_neg h1]
  by_cases h2 : (2 : Int32) < a % 10
  · have h2' := h2
    rw [jlt, jl2, e2] at h2'
    rw [if_pos h2]
    by_cases h3 : a.toInt ≤ 12
    · rw [in_t (by rw [jl0, j12]; omega), b1_some, if_neg (by decide)]
      exact Or.inr ⟨rfl, rfl⟩
    · rw [in_f (by rw [jl0, j12]; omega), b1_some, if_pos rfl]
      exact Or.inr ⟨rfl, rfl⟩
  · have h2' := h2
    rw [jlt, jl2, e2] at h2'
    rw [if_neg h2, in_t (by rw [jl0, j12]; omega), b1_some, if_neg (by decide)]
    exact Or.inl ⟨rfl, rfl⟩
/-- the reference's end of a text -/
noncomputable def qT (a0 a1 : Int32) (s23 : SS) : Option (Int32 × SS) := (jn (fun (s24 : SS)  => (st (pS s24 59 37 0) fun s25 => (if (zS s25 59 48) < (0 : Int32) then (vl ((zS s25 59 38)) fun v27 => (gd (inB v27 16) (st (pI s25 87 (v27.toInt.toNat) a0) fun s29 => (vl ((zS s29 59 1)) fun v30 => (vl ((zS s29 59 38)) fun v31 => (gd (inB v31 16) (st (pI s29 88 (v31.toInt.toNat) v30) fun s33 => (vl ((zS s33 59 38)) fun v34 => (gd (inB v34 16) (st (pI s33 89 (v34.toInt.toNat) a1) fun s36 => (vl (((zS s36 59 38) + (1 : Int32))) fun v37 => (st (pS s36 59 38 v37) fun s38 => some (((zS s38 59 38) - (1 : Int32)), s38))))))))))))) else some ((((-100) : Int32) - (zS s25 59 48)), s25)))) fun k24 => (if (zS s23 59 48) < (0 : Int32) then (if (zS s23 59 47) < (zS s23 59 37) then (b1 (f_X12_faultHere s23) fun s41 => (k24 s41)) else (k24 s23)) else (k24 s23)))
theorem st_text {s : SS} (G : GI s) (a0 : Int32) (a1 : Int32) : ∃ (rx : Int32) (s1 : SS) (rm : Int32) (s2 : SS), f_X11_text s a0 a1 = some (rx, s1) ∧ f_X12_text s1 a0 a1 = some (rm, s2) ∧ GI s2 ∧ rx = rm := by
  obtain ⟨T, e8⟩ := G.2.2.2.2
  obtain ⟨b1, b2, b3⟩ := id T
  have eh := G.2.1.1
  have h8 : 0 ≤ (zS s 0 8).toInt ∧ (zS s 0 8).toInt ≤ 16 := G.1.1.f (q := 0) (k := 8) rfl
  have j16 : (16 : Int32).toInt = 16 := rfl
  have jn100 : (-100 : Int32).toInt = -100 := rfl
  rcases ord_l (a := a0) with ⟨o1, o2⟩ | ⟨o1, o2⟩
  · by_cases d : (zS s 0 14).toInt ≤ a1.toInt ∧ a1.toInt ≤ 1699
    · by_cases f : (zS s 0 8).toInt < 16
      · -- both read
        have hr : 0 ≤ (zS s 59 38).toInt ∧ (zS s 59 38).toInt ≤ 15 := by rw [← e8]; omega
        obtain ⟨fx, s6, _, ec, _, PX, _, _⟩ := comp_l TrueE T hr 0 0 (fun _ => none)
        obtain ⟨⟨fx', s6'⟩, ec', K6, R6⟩ := w_X7_compiled (Lk.rf G.1.1) (by omega)
        have eq6 := Option.some.inj (ec.symm.trans ec')
        have ef : fx = fx' := congrArg Prod.fst eq6
        have es6 : s6 = s6' := congrArg Prod.snd eq6
        rw [← es6] at K6 R6
        have K6 : Lk s s6 := K6
        have R6 : Rs s6 := R6
        have I7 : Iv (pS s6 24 1 0) := K6.1.wF (q := 24) (k := 1) (by decide) (by decide) ⟨by decide, by decide⟩
        -- the class's end, whatever it is: what it keeps
        have cls : ∃ s1, f_X11_text s a0 a1 = some ((if fx < 0 then zS s 0 8 + 1 - 1 else -100 - fx), s1) ∧ Iv s1 ∧ (∀ q k, fS q k = true → ¬ (q = 0 ∧ k = 8) → ¬ (q = 24 ∧ k = 1) → zS s1 q k = zS s q k) ∧ (∀ q i, fI q = true → zI s1 q i = zI s q i) ∧ (∀ q i, fJ q = true → zJ s1 q i = zJ s q i) ∧ (∀ i, zR s1 17 i = zR s 17 i) ∧ zS s1 24 1 = 0 ∧ zS s1 0 8 = (if fx < 0 then zS s 0 8 + 1 else zS s 0 8) := by
          unfold f_X11_text
          have f8 : zS (pS s6 24 1 0) 0 8 = zS s 0 8 := K6.2.2.1 0 8 rfl
          have g7 : ∀ q k, fS q k = true → ¬ (q = 24 ∧ k = 1) → zS (pS s6 24 1 0) q k = zS s q k := fun q k h w => by
            rw [zS_pS, if_neg w]
            exact K6.2.2.1 q k h
          rw [o1, b1_some, if_neg (by decide), if_neg (by rw [jlt]; omega), if_neg (by rw [jlt, jl1699]; omega), if_pos (by rw [jlt, j16]; exact f), ec, bd_some, st]
          by_cases z : fx < 0
          · have hz : 0 ≤ (zS s6 24 3).toInt ∧ (zS s6 24 3).toInt ≤ 161 := by
              have := R6
              unfold Rs at this
              omega
            rw [if_pos z, if_pos z, vl, f8, gd_t ⟨h8.1, f⟩, gd_t ⟨by rw [jlt, jl0]; show ¬ (zS s6 24 3).toInt < 0; omega, by rw [jlt, j161]; show ¬ 161 < (zS s6 24 3).toInt; omega⟩, st, vl, st]
            obtain ⟨N1, N2, N3⟩ := Nt.text_ (Lk.rf I7) (x := a0 / 10) (y := a0 % 10) (c := zS (pS s6 24 1 0) 0 14) (e := a1) (N := (zS (pS s6 24 1 0) 24 3).toNatClampNeg) (i := (zS s 0 8).toInt.toNat) (by
              show (zS s6 24 3).toNatClampNeg ≤ 161
              have : (zS s6 24 3).toNatClampNeg = (zS s6 24 3).toInt.toNat := rfl
              omega) (by rw [f8]; exact ⟨h8.1, f⟩)
            have f8' : zS (pR (pText (pS s6 24 1 0) (a0 / 10) (a0 % 10) (zS (pS s6 24 1 0) 0 14) a1 (zS (pS s6 24 1 0) 24 3).toNatClampNeg) 27 (zS s 0 8).toInt.toNat (some (zL (pS s6 24 1 0)))) 0 8 = zS s 0 8 := by
              rw [← f8]
              show (if 0 = zL (pS s6 24 1 0) then _ else zS (pS s6 24 1 0) 0 8) = _
              rw [if_neg (by have := I7.1.1.1; omega)]
            rw [f8'] at N1 N2 N3
            rw [f8', zS_pS, if_pos ⟨rfl, rfl⟩, if_pos z]
            refine ⟨_, rfl, N1, fun q k h w1 w2 => ?_, fun q i h => ?_, fun q i h => ?_, fun i => ?_, ?_, ?_⟩
            · rw [N2.1 q k h w1]; exact g7 q k h w2
            · rw [N2.2.1 q i h]; exact K6.2.2.2.1 q i h
            · rw [N2.2.2 q i h]; exact K6.2.2.2.2 q i h
            · rw [N3 i]; exact K6.zR_ 17 i
            · rw [N2.1 24 1 rfl (by omega), zS_pS, if_pos ⟨rfl, rfl⟩]
            · rw [zS_pS, if_pos ⟨rfl, rfl⟩]
          · rw [if_neg z, if_neg z, if_neg z]
            exact ⟨_, rfl, I7, fun q k h _ w2 => g7 q k h w2, fun q i h => K6.2.2.2.1 q i h, fun q i h => K6.2.2.2.2 q i h, fun i => K6.zR_ 17 i, by rw [zS_pS, if_pos ⟨rfl, rfl⟩], f8⟩
        obtain ⟨s1, e1, I1, k1S, k1I, k1J, k1R, n1, c1⟩ := cls
        -- the reference, on s1: class cells of s
        have T1 : TP s s1 := ⟨by rw [k1S 59 37 rfl (by omega) (by omega)]; exact b1, b2, fun i hi => by rw [k1I 86 i rfl]; exact b3 i hi⟩
        have h38 : zS s1 59 38 = zS s 59 38 := k1S 59 38 rfl (by omega) (by omega)
        obtain ⟨⟨rm, s2⟩, em, u, Ku, Iu, lay, uS, uI⟩ := w_X12_text (a0 := a0) (a1 := a1) (Lk.rf I1)
        have hr1 : 0 ≤ (zS s1 59 38).toInt ∧ (zS s1 59 38).toInt ≤ 15 := by rw [h38]; exact hr
        obtain ⟨f2, s6b, t', ec2, eQ, -, PR2, O⟩ := comp_l TrueE T1 hr1 a0 a1 (qT a0 a1)
        have ef2 : f2 = fx := congrArg Prod.fst (Option.some.inj (ec2.symm.trans ec))
        rw [ef2] at O
        have e50 : zS (pS s1 59 50 (zS s1 59 38)) 59 50 = zS s1 59 38 := by rw [zS_pS, if_pos ⟨rfl, rfl⟩]
        have em0 : f_X12_text s1 a0 a1 = qT a0 a1 t' := by
          rw [← eQ]
          unfold f_X12_text
          rw [o2, b1_some, if_neg (by decide), in_t (by rw [k1S 59 1 rfl (by omega) (by omega), ← eh, jl1699]; exact d), b1_some, if_neg (by decide), if_neg (fun z => by rw [z, j16] at hr1; omega), vl, st, vl, e50, gd_t ⟨hr1.1, by omega⟩, st, st, st, st, st]
          rfl
        have p38 : zS t' 59 38 = zS s 59 38 := by rw [PR2.1 59 38 (by omega), m0T_S (by omega), h38]
        have p1 : ∀ v, zS (pS t' 59 37 v) 59 38 = zS s 59 38 := fun v => by rw [zS_pS, if_neg (by omega)]; exact p38
        have ends : ∃ rm s2, qT a0 a1 t' = some (rm, s2) ∧ rm = (if fx < 0 then zS s 59 38 + 1 - 1 else -100 - fx) ∧ zS s2 59 37 = 0 ∧ zS s2 59 38 = (if fx < 0 then zS s 59 38 + 1 else zS s 59 38) := by
          unfold qT
          rw [jn]
          have bad : ∀ w, zS w 59 48 = fx → zS w 59 38 = zS s 59 38 → 0 ≤ fx.toInt → ∃ rm s2, (st (pS w 59 37 0) fun s25 => (if (zS s25 59 48) < (0 : Int32) then (vl ((zS s25 59 38)) fun v27 => (gd (inB v27 16) (st (pI s25 87 (v27.toInt.toNat) a0) fun s29 => (vl ((zS s29 59 1)) fun v30 => (vl ((zS s29 59 38)) fun v31 => (gd (inB v31 16) (st (pI s29 88 (v31.toInt.toNat) v30) fun s33 => (vl ((zS s33 59 38)) fun v34 => (gd (inB v34 16) (st (pI s33 89 (v34.toInt.toNat) a1) fun s36 => (vl (((zS s36 59 38) + (1 : Int32))) fun v37 => (st (pS s36 59 38 v37) fun s38 => some (((zS s38 59 38) - (1 : Int32)), s38))))))))))))) else some ((((-100) : Int32) - (zS s25 59 48)), s25))) = some (rm, s2) ∧ rm = (if fx < 0 then zS s 59 38 + 1 - 1 else -100 - fx) ∧ zS s2 59 37 = 0 ∧ zS s2 59 38 = (if fx < 0 then zS s 59 38 + 1 else zS s 59 38) := by
            intro w h1 h2 h3
            have hn : ¬ fx < 0 := by rw [jlt, jl0]; omega
            have e48 : zS (pS w 59 37 0) 59 48 = fx := by rw [zS_pS, if_neg (by omega)]; exact h1
            rw [st, e48, if_neg hn, if_neg hn, if_neg hn]
            exact ⟨_, _, rfl, rfl, by rw [zS_pS, if_pos ⟨rfl, rfl⟩], by rw [zS_pS, if_neg (by omega)]; exact h2⟩
          rcases O with ⟨q1, q2, q3, -⟩ | ⟨q1, q2 | ⟨q2, q3, q4⟩⟩
          · have hp : fx < 0 := by rw [q1]; decide
            have e48 : zS (pS t' 59 37 0) 59 48 = -1 := by rw [zS_pS, if_neg (by omega)]; exact q2
            have g : inB (zS s 59 38) 16 := ⟨hr.1, by omega⟩
            rw [if_pos (by rw [q2]; decide), if_neg q3]
            show ∃ rm s2, (st (pS t' 59 37 0) fun s25 => _) = some (rm, s2) ∧ _
            rw [st, e48, if_pos (by decide), vl, p1, gd_t g, st, vl, vl, zS_pI, zS_pI, p1, gd_t g, st, vl, zS_pI, zS_pI, p1, gd_t g, st, vl, zS_pI, zS_pI, zS_pI, p1, st, zS_pS, if_pos ⟨rfl, rfl⟩, if_pos hp, if_pos hp]
            exact ⟨_, _, rfl, rfl, by rw [zS_pS, if_neg (by omega), zS_pI, zS_pI, zS_pI, zS_pS, if_pos ⟨rfl, rfl⟩], by rw [zS_pS, if_pos ⟨rfl, rfl⟩]⟩
          · rw [if_neg (by rw [q2, jlt, jl0]; omega)]
            exact bad t' q2 p38 q1
          · rw [if_pos (by rw [q2]; decide), if_pos q3]
            unfold f_X12_faultHere
            rw [if_pos (by rw [q2]; decide), vl, st, b1_some]
            exact bad (pS t' 59 48 (zS t' 59 47)) (by rw [zS_pS, if_pos ⟨rfl, rfl⟩]; exact q4) (by rw [zS_pS, if_neg (by omega)]; exact p38) q1
        obtain ⟨rm', s2', eq', er', e37, e38⟩ := ends
        have eqq := Option.some.inj (em.symm.trans (em0.trans eq'))
        have erm : rm = rm' := congrArg Prod.fst eqq
        have es2 : s2 = s2' := congrArg Prod.snd eqq
        rw [← es2] at e37 e38
        rw [← erm] at er'
        have uS : ∀ q k, ¬ (q = 59 ∧ (k = 37 ∨ k = 38)) → zS s2 q k = zS u q k := uS
        have uI : ∀ q i, q ≠ 87 → q ≠ 88 → q ≠ 89 → zI s2 q i = zI u q i := uI
        have Iu : Iv s2 := Iu
        have lay : s2.2.2 = u.2.2 := lay
        have w1 : ∀ q k, fS q k = true → ¬ (q = 0 ∧ k = 8) → ¬ (q = 24 ∧ k = 1) → ¬ (q = 59 ∧ (k = 37 ∨ k = 38)) → zS s2 q k = zS s q k := fun q k h a b c => by rw [uS q k c, Ku.2.2.1 q k h, k1S q k h a b]
        have w2 : ∀ q i, fI q = true → zI s2 q i = zI s q i := fun q i h => by
          have n7 : q ≠ 87 := fun z => by rw [z] at h; cases h
          have n8 : q ≠ 88 := fun z => by rw [z] at h; cases h
          have n9 : q ≠ 89 := fun z => by rw [z] at h; cases h
          rw [uI q i n7 n8 n9, Ku.2.2.2.1 q i h, k1I q i h]
        have fA : ∀ q k, fSA q k = true → fS q k = true := fun q k h => by unfold fS; rw [h]; rfl
        have fB : ∀ q k, fSB q k = true → fS q k = true := fun q k h => by unfold fS; rw [h, Bool.or_true]
        have fIA' : ∀ q, fIA q = true → fI q = true := fun q h => by unfold fI; rw [h]; rfl
        have fIB' : ∀ q, fIB q = true → fI q = true := fun q h => by unfold fI; rw [h, Bool.or_true]
        have s24 : zS s2 24 1 = 0 := by rw [uS 24 1 (by omega), Ku.2.2.1 24 1 rfl]; exact n1
        refine ⟨_, s1, rm, s2, e1, em, G.txt ⟨fun q k h => w1 q k (fA q k h) (fun z => by rw [z.1, z.2] at h; cases h) (fun z => by rw [z.1, z.2] at h; cases h) (fun z => by rcases z with ⟨z1, z2 | z2⟩ <;> (rw [z1, z2] at h; cases h)), fun q i h => w2 q i (fIA' q h), fun q i h => ?_⟩ (fun i => ?_) Iu (fun q k h a b c => w1 q k (fB q k h) a b c) (fun q i h _ _ => w2 q i (fIB' q h)) ⟨⟨by rw [s24, e37], ?_, fun i hi => ?_⟩, ?_⟩, ?_⟩
        · have e : zJ s2 q i = zJ u q i := by
            show s2.2.2.1 q i = u.2.2.1 q i
            rw [lay]
          rw [e, Ku.2.2.2.2 q i h, k1J q i h]
        · have e : zR s2 17 i = zR u 17 i := by
            show s2.2.2.2.1 17 i = u.2.2.2.1 17 i
            rw [lay]
          rw [e, Ku.zR_ 17 i, k1R i]
        · unfold xn
          rw [s24]
          exact ⟨by decide, by decide⟩
        · rw [w2 25 i rfl, w2 86 i rfl]
          exact b3 i hi
        · rw [uS 0 8 (by omega), Ku.2.2.1 0 8 rfl, c1, e38, e8]
        · rw [er', e8]
      · refine ⟨-3, s, -3, s, ?_, ?_, G, rfl⟩
        · unfold f_X11_text
          rw [o1, b1_some, if_neg (by decide), if_neg (by rw [jlt]; omega), if_neg (by rw [jlt, jl1699]; omega), if_neg (by rw [jlt, j16]; exact f)]
        · unfold f_X12_text
          rw [o2, b1_some, if_neg (by decide), in_t (by rw [← eh, jl1699]; exact d), b1_some, if_neg (by decide), if_pos (by rw [← e8]; exact Int32.toInt_inj.1 (by rw [j16]; omega))]
    · refine ⟨-1, s, -1, s, ?_, ?_, G, rfl⟩
      · unfold f_X11_text
        rw [o1, b1_some, if_neg (by decide)]
        by_cases h : a1 < zS s 0 14
        · rw [if_pos h]
        · rw [if_neg h, if_pos (by rw [jlt, jl1699]; rw [jlt] at h; omega)]
      · unfold f_X12_text
        rw [o2, b1_some, if_neg (by decide), in_f (by rw [← eh, jl1699]; exact d), b1_some, if_pos rfl]
  · refine ⟨-1, s, -1, s, ?_, ?_, G, rfl⟩
    · unfold f_X11_text
      rw [o1, b1_some, if_pos rfl]
    · unfold f_X12_text
      rw [o2, b1_some, if_pos rfl]
