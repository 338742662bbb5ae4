/-! WHERE A HOLE CAN BE -/
theorem neg32 {x : Int32} (h : -2147483648 < x.toInt) : (-x).toInt = -x.toInt := by
  have := jlo x
  rw [Int32.toInt_neg]
  exact Int.bmod_eq_of_le (by omega) (by omega)
theorem xor4 (x : Int32) : ((x ^^^ 4) < 0) = (x < 0) := by
  rw [jlt, jlt, jl0]
  have h : ∀ y : Int32, (y.toInt < 0) = (y.toBitVec.msb = true) := fun y => by
    rw [BitVec.msb_eq_toInt]
    simp only [decide_eq_true_eq]
    rfl
  rw [h, h, Int32.toBitVec_xor, BitVec.msb_xor]
  have e : (4 : Int32).toBitVec.msb = false := by decide
  rw [e, Bool.xor_false]
def clp (z : Int) : Int := if z < 0 then 0 else if 31 < z then 31 else z
theorem clp_b (z : Int) : 0 ≤ clp z ∧ clp z ≤ 31 := by
  unfold clp
  split
  · omega
  · split <;> omega
theorem fdv {x : Int32} (hx : -1000000 ≤ x.toInt ∧ x.toInt ≤ 1000000) : ∃ v, f_J9_floorDiv_7cf53 x 4 = some v ∧ v.toInt = x.toInt / 4 := by
  have j4 : (4 : Int32).toInt = 4 := rfl
  unfold f_J9_floorDiv_7cf53
  rw [gd_t (by decide), vl]
  have hd : (x / 4).toInt = if 0 ≤ x.toInt then x.toInt / 4 else -((-x.toInt) / 4) := jd4 x
  by_cases c : x < 0
  · rw [if_pos (by rw [xor4]; exact c)]
    rw [jlt, jl0] at c
    rw [if_neg (by omega)] at hd
    have mu : (x / 4 * 4).toInt = -((-x.toInt) / 4) * 4 := by rw [i32_mul (by rw [hd, j4]; omega) (by rw [hd, j4]; omega), hd, j4]
    by_cases d : x / 4 * 4 = x
    · rw [if_pos d]
      rw [d] at mu
      exact ⟨_, rfl, by rw [hd]; omega⟩
    · rw [if_neg d]
      have d' : -((-x.toInt) / 4) * 4 ≠ x.toInt := fun z => d (Int32.toInt_inj.1 (mu.trans z))
      exact ⟨_, rfl, by rw [i32_sub (by rw [hd, jl1]; omega) (by rw [hd, jl1]; omega), hd, jl1]; omega⟩
  · rw [if_neg (by rw [xor4]; exact c)]
    rw [jlt, jl0] at c
    rw [if_pos (by omega)] at hd
    exact ⟨_, rfl, hd⟩
theorem dn4 {x : Int32} (hx : -1000000 ≤ x.toInt ∧ x.toInt ≤ 1000000) : ∃ v, f_X12_down4 x = some v ∧ v.toInt = x.toInt / 4 := by
  have j3 : (3 : Int32).toInt = 3 := rfl
  unfold f_X12_down4
  by_cases c : x < 0
  · rw [if_pos c]
    rw [jlt, jl0] at c
    have e1 : ((3 : Int32) - x).toInt = 3 - x.toInt := by rw [i32_sub (by rw [j3]; omega) (by rw [j3]; omega), j3]
    have hd : (((3 : Int32) - x) / 4).toInt = (3 - x.toInt) / 4 := by rw [jd4, if_pos (by rw [e1]; omega), e1]
    exact ⟨_, rfl, by rw [neg32 (by rw [hd]; omega), hd]; omega⟩
  · rw [if_neg c]
    rw [jlt, jl0] at c
    exact ⟨_, rfl, by rw [jd4, if_pos (by omega)]⟩
theorem hldX (v : Int32) : ∃ r, f_X11_held v 0 31 = some r ∧ r.toInt = clp v.toInt := by
  have j31 : (31 : Int32).toInt = 31 := rfl
  rw [heldXM (by decide)]
  refine ⟨_, rfl, ?_⟩
  unfold clp
  by_cases c : v < 0
  · rw [if_pos c]
    rw [jlt, jl0] at c
    rw [if_pos c, jl0]
  · rw [if_neg c]
    rw [jlt, jl0] at c
    rw [if_neg c]
    by_cases d : (31 : Int32) < v
    · rw [if_pos d]
      rw [jlt, j31] at d
      rw [if_pos d, j31]
    · rw [if_neg d]
      rw [jlt, j31] at d
      rw [if_neg d]
theorem hldM (v : Int32) : ∃ r, f_X12_held v 0 31 = some r ∧ r.toInt = clp v.toInt := by
  obtain ⟨r, e, h⟩ := hldX v
  rw [heldXM (by decide)] at e
  exact ⟨r, by rw [heldM]; exact e, h⟩
theorem cutD {x : Int32} (hx : -1000000 ≤ x.toInt ∧ x.toInt ≤ 1000000) : ∃ v, f_X11_cutDown x = some v ∧ v.toInt = clp (x.toInt / 4) := by
  obtain ⟨a, ea, ha⟩ := fdv hx
  obtain ⟨r, er, hr⟩ := hldX a
  unfold f_X11_cutDown
  rw [ea, b1_some, er, b1_some]
  exact ⟨r, rfl, by rw [hr, ha]⟩
theorem neg1 {x : Int32} (hx : -1000000 ≤ x.toInt ∧ x.toInt ≤ 1000000) : (-x).toInt = -x.toInt := neg32 (by omega)
theorem cutU {x : Int32} (hx : -1000000 ≤ x.toInt ∧ x.toInt ≤ 1000000) : ∃ v, f_X11_cutUp x = some v ∧ v.toInt = clp (-((-x.toInt) / 4)) := by
  have hn := neg1 hx
  obtain ⟨a, ea, ha⟩ := fdv (x := -x) (by rw [hn]; omega)
  obtain ⟨r, er, hr⟩ := hldX (-a)
  unfold f_X11_cutUp
  rw [ea, b1_some, er, b1_some]
  exact ⟨r, rfl, by rw [hr, neg32 (by rw [ha, hn]; omega), ha, hn]⟩
section CBs
variable {s t : SS} {n p : Nat}
/-- a yard's lean: least (w is 0), most -/
def stpL (t : SS) (n : Nat) (w : Int32) (y : Nat) : Int32 := if zI t 72 (61 * n + y) = 0 then (if w = 0 then -8 else 8) else zI t 73 (61 * n + y) + (if w = 0 then -(zS t 59 29) else zS t 59 29)
def sQ (t : SS) (n : Nat) (w : Int32) : Nat → Int32
  | 0 => 4 * zI t 63 n
  | k + 1 => sQ t n w k + stpL t n w (k + 1)
/-- the ranges that keep sums small -/
def QSm (t : SS) : Prop := QLgs t ∧ (0 ≤ (zS t 59 29).toInt ∧ (zS t 59 29).toInt ≤ 8) ∧ ∀ n, 0 ≤ (zI t 63 n).toInt ∧ (zI t 63 n).toInt ≤ 31
theorem stpL_b (M : QSm t) (w : Int32) (y : Nat) : -10007 ≤ (stpL t n w y).toInt ∧ (stpL t n w y).toInt ≤ 10007 := by
  obtain ⟨m1, m2, m3⟩ := M
  have g := m1 (61 * n + y)
  have j8 : (8 : Int32).toInt = 8 := rfl
  have jn8 : (-8 : Int32).toInt = -8 := rfl
  unfold stpL
  by_cases c : zI t 72 (61 * n + y) = 0
  · rw [if_pos c]
    by_cases d : w = 0
    · rw [if_pos d, jn8]; omega
    · rw [if_neg d, j8]; omega
  · rw [if_neg c]
    by_cases d : w = 0
    · have e : (-(zS t 59 29)).toInt = -(zS t 59 29).toInt := neg32 (by omega)
      rw [if_pos d, i32_add (by rw [e]; omega) (by rw [e]; omega), e]; omega
    · rw [if_neg d, i32_add (by omega) (by omega)]; omega
theorem sQ_b (M : QSm t) (w : Int32) : ∀ k : Nat, k ≤ 60 → -10007 * (k : Int) ≤ (sQ t n w k).toInt ∧ (sQ t n w k).toInt ≤ 124 + 10007 * (k : Int)
  | 0, _ => by
    have j4 : (4 : Int32).toInt = 4 := rfl
    have := M.2.2 n
    show -10007 * ((0 : Nat) : Int) ≤ (4 * zI t 63 n).toInt ∧ (4 * zI t 63 n).toInt ≤ 124 + 10007 * ((0 : Nat) : Int)
    rw [i32_mul (by rw [j4]; omega) (by rw [j4]; omega), j4]
    omega
  | k + 1, h => by
    have a := sQ_b M w k (by omega)
    have b := stpL_b (n := n) M w (k + 1)
    show -10007 * ((k + 1 : Nat) : Int) ≤ (sQ t n w k + stpL t n w (k + 1)).toInt ∧ (sQ t n w k + stpL t n w (k + 1)).toInt ≤ 124 + 10007 * ((k + 1 : Nat) : Int)
    rw [i32_add (by omega) (by omega)]
    omega
theorem sQ_s (M : QSm t) (w : Int32) {k : Nat} (h : k ≤ 60) : -1000000 ≤ (sQ t n w k).toInt ∧ (sQ t n w k).toInt ≤ 1000000 := by
  have := sQ_b (n := n) M w k h
  omega
/-- where it can be, in columns -/
def cLo (t : SS) (n y : Nat) : Int := clp ((sQ t n 0 y).toInt / 4)
def cHi (t : SS) (n y : Nat) : Int := clp (-((-(sQ t n 1 y).toInt) / 4))
/-- the class's leans are these -/
theorem leaX (X : HX s p t n) (e15 : zS s 0 15 = zS t 59 29) {a : Int32} {y : Nat} (ha : a.toInt = y) (h1 : 1 ≤ y) (h2 : y ≤ 60) : f_X3_leastLean s p a (zS s 0 15) = some (stpL t n 0 y) ∧ f_X3_mostLean s p a (zS s 0 15) = some (stpL t n 1 y) := by
  have j60 : (60 : Int32).toInt = 60 := rfl
  obtain ⟨_, _, w3, w4⟩ := X.2.2.2.2.2.2.2.2 y h1 h2
  have ea : a.toInt.toNat = y := by omega
  refine ⟨?_, ?_⟩
  · unfold f_X3_leastLean
    rw [if_neg (by rw [jlt, jl1]; omega), if_neg (by rw [jlt, j60]; omega), gd_t ⟨by omega, by omega⟩, ea, w3]
    unfold stpL lgV
    by_cases c : zI t 72 (61 * n + y) = 0
    · rw [if_pos c, if_pos rfl, if_pos c, if_pos rfl]
    · rw [if_neg c, if_neg w4, gd_t ⟨by omega, by omega⟩, if_neg c, if_pos rfl, e15, Int32.sub_eq_add_neg]
  · unfold f_X3_mostLean
    rw [if_neg (by rw [jlt, jl1]; omega), if_neg (by rw [jlt, j60]; omega), gd_t ⟨by omega, by omega⟩, ea, w3]
    unfold stpL lgV
    by_cases c : zI t 72 (61 * n + y) = 0
    · rw [if_pos c, if_pos rfl, if_pos c, if_neg n10]
    · rw [if_neg c, if_neg w4, gd_t ⟨by omega, by omega⟩, if_neg c, if_neg n10, e15]
/-- the reference's sum -/
theorem canL {y1 y2 y3 : Int32} {Y : Nat} {q0 : Int32 → Option Int32} {R : Int32 → Prop} (h1 : y1.toInt = n) (hn : n < 120) (h2 : y2.toInt = Y) (hY : Y ≤ 60) (h3 : y3 = 0 ∨ y3 = 1) (hq : Pc (q0 (sQ t n y3 Y)) R) : ∀ (m k : Nat) (x4 x5 : Int32), x5.toInt = k + 1 → k ≤ Y → x4 = sQ t n y3 k → Pc (f_X12_canBeAt_L13 q0 t y1 y2 y3 m x4 x5) R
  | 0, _, _, _, _, _, _ => Pc_none
  | m + 1, k, x4, x5, hx, hk, e => by
    show Pc (f_X12_canBeAt_L13_b q0 t y1 y2 y3 (f_X12_canBeAt_L13 q0 t y1 y2 y3 m) x4 x5) R
    unfold f_X12_canBeAt_L13_b
    refine Pc_if (fun c => ?_) (fun c => Pc_vl (Pc_gd (fun _ => Pc_jn ?_)))
    · rw [jlt] at c
      rw [e, show k = Y by omega]
      exact hq
    · rw [jlt] at c
      have n1 : (x5 + 1).toInt = x5.toInt + 1 := by rw [i32_add (by rw [jl1]; omega) (by rw [jl1]; omega), jl1]
      have ei : ((61 : Int32) * y1 + x5).toInt.toNat = 61 * n + (k + 1) := by rw [ix61 h1 hn (by omega)]; omega
      have go : ∀ v, v = stpL t n y3 (k + 1) → Pc (vl ((x4 + v)) fun v7 => (vl (x5 + 1) fun v8 => (f_X12_canBeAt_L13 q0 t y1 y2 y3 m v7 v8))) R := fun v hv => Pc_vl (Pc_vl (canL h1 hn h2 hY h3 hq m (k + 1) _ _ (by omega) (by omega) (by rw [e, hv]; rfl)))
      rw [ei]
      refine Pc_if (fun z => Pc_if (fun w => go _ ?_) (fun w => go _ ?_)) (fun z => Pc_gd (fun _ => Pc_jn (Pc_if (fun w => go _ ?_) (fun w => go _ ?_))))
      · unfold stpL; rw [if_pos z, if_pos w]
      · unfold stpL; rw [if_pos z, if_neg w]
      · unfold stpL; rw [if_neg z, if_pos w]
      · unfold stpL; rw [if_neg z, if_neg w]
theorem canM (M : QSm t) {a0 a1 a2 : Int32} {Y : Nat} (h1 : a0.toInt = n) (hn : n < 120) (h2 : a1.toInt = Y) (hY : Y ≤ 60) (h3 : a2 = 0 ∨ a2 = 1) : Pc (f_X12_canBeAt t a0 a1 a2) (fun r => r.toInt = if a2 = 0 then cLo t n Y else cHi t n Y) := by
  unfold f_X12_canBeAt
  have en : a0.toInt.toNat = n := by omega
  rw [en]
  refine Pc_gd (fun _ => Pc_vl (canL h1 hn h2 hY h3 ?_ 4000 0 _ _ (by decide) (by omega) rfl))
  refine Pc_jn ?_
  rcases h3 with h3 | h3
  · rw [h3]
    obtain ⟨v, ev, hv⟩ := dn4 (sQ_s (n := n) M 0 hY)
    obtain ⟨r, er, hr⟩ := hldM v
    refine Pc_ift rfl ?_
    rw [ev, if_pos rfl]
    refine Pc_b1S ?_
    show Pc (b1 (f_X12_held v 0 31) fun r17 => some r17) _
    rw [er]
    refine Pc_b1S (Pc_some ?_)
    unfold cLo
    rw [hr, hv]
  · rw [h3]
    have hn1 := neg1 (sQ_s (n := n) M 1 hY)
    have b := sQ_s (n := n) M 1 hY
    obtain ⟨v, ev, hv⟩ := dn4 (x := -(sQ t n 1 Y)) (by rw [hn1]; omega)
    obtain ⟨r, er, hr⟩ := hldM (-v)
    refine Pc_iff n10 ?_
    rw [ev, if_neg n10]
    refine Pc_b1S ?_
    show Pc (b1 (f_X12_held (-v) 0 31) fun r17 => some r17) _
    rw [er]
    refine Pc_b1S (Pc_some ?_)
    unfold cHi
    rw [hr, neg32 (by rw [hv, hn1]; omega), hv, hn1]
/-- the class's sum -/
theorem canX {y2 y3 : Int32} {Y : Nat} {q0 : Int32 → Option Int32} {R : Int32 → Prop} (X : HX s p t n) (e15 : zS s 0 15 = zS t 59 29) (h2 : y2.toInt = Y) (hY : Y ≤ 60) (h3 : y3 = 0 ∨ y3 = 1) (hq : Pc (q0 (sQ t n y3 Y)) R) : ∀ (m k : Nat) (x5 x6 : Int32), x6.toInt = k + 1 → k ≤ Y → x5 = sQ t n y3 k → Pc (f_X11_canBe_L52 q0 s y2 y3 p m x5 x6) R
  | 0, _, _, _, _, _, _ => Pc_none
  | m + 1, k, x5, x6, hx, hk, e => by
    show Pc (f_X11_canBe_L52_b q0 s y2 y3 p (f_X11_canBe_L52 q0 s y2 y3 p m) x5 x6) R
    unfold f_X11_canBe_L52_b
    refine Pc_if (fun c => ?_) (fun c => Pc_jn ?_)
    · rw [jlt] at c
      rw [e, show k = Y by omega]
      exact hq
    · rw [jlt] at c
      have n1 : (x6 + 1).toInt = x6.toInt + 1 := by rw [i32_add (by rw [jl1]; omega) (by rw [jl1]; omega), jl1]
      obtain ⟨l1, l2⟩ := leaX (a := x6) (y := k + 1) X e15 (by omega) (by omega) (by omega)
      have go : ∀ v, v = stpL t n y3 (k + 1) → Pc (vl ((x5 + v)) fun v10 => (vl (x6 + 1) fun v11 => (f_X11_canBe_L52 q0 s y2 y3 p m v10 v11))) R := fun v hv => Pc_vl (Pc_vl (canX X e15 h2 hY h3 hq m (k + 1) _ _ (by omega) (by omega) (by rw [e, hv]; rfl)))
      rw [l1, l2]
      rcases h3 with w | w
      · exact Pc_ift w (Pc_b1S (go _ (by rw [w])))
      · exact Pc_iff (by rw [w]; decide) (Pc_b1S (go _ (by rw [w])))
theorem V_canBe (B : B1 s t) (Q : Q4 s t) (M : QSm t) (a0 a1 a2 : Int32) : Pc (f_X11_canBe s a0 a1 a2) fun x => Pc (f_X12_canBe t a0 a1 a2) fun m => x = m := by
  have e15 : zS s 0 15 = zS t 59 29 := B.1.1.2.2.2.2
  unfold f_X11_canBe f_X12_canBe
  rw [holeOfX B, isHoleO B]
  rcases hsp B a0 with c | ⟨n, p, ha, hn, hp, ho, hl⟩
  · rw [c, if_pos rfl]
    exact Pc_b1S (Pc_onN (Pc_some (Pc_b1S (Pc_if00 (Pc_some rfl)))))
  · rw [ho, if_neg snn]
    have X := Q.1.1 n p hn hp
    obtain ⟨x0, x1, x2, x3, x4, x5, x6, x7, x8⟩ := id X
    have en : a0.toInt.toNat = n := by omega
    have b4 := B.1.h4 (B.1.sh.2.2.1 _ _ hn hp)
    rw [en, ← x4]
    refine Pc_b1S (Pc_onS ?_)
    by_cases c : 1 ≤ a1.toInt ∧ a1.toInt ≤ (zS s p 4).toInt
    · rw [in_t (a := a1) (by rw [jl1]; exact c)]
      refine Pc_iff (by rw [jlt, jl1]; omega) (Pc_iff (by rw [jlt]; omega) ?_)
      by_cases d : 0 ≤ a2.toInt ∧ a2.toInt ≤ 1
      · rw [in_t (a := a2) (by rw [jl0, jl1]; exact d)]
        have h01 : a2 = 0 ∨ a2 = 1 := by
          have : a2.toInt = 0 ∨ a2.toInt = 1 := by omega
          exact this.imp (fun z => Int32.toInt_inj.1 (by rw [z, jl0])) (fun z => Int32.toInt_inj.1 (by rw [z, jl1]))
        obtain ⟨Y, hY⟩ : ∃ Y : Nat, a1.toInt = Y := ⟨_, (Int.toNat_of_nonneg (by omega)).symm⟩
        have HM := canM (a0 := a0) (a1 := a1) (a2 := a2) M ha hn hY (by omega) h01
        refine Pc_iff (by rw [jlt, jl0]; omega) (Pc_iff (by rw [jlt, jl1]; omega) (Pc_vl ?_))
        refine canX X e15 hY (by omega) h01 ?_ 4000 0 _ _ (by decide) (by omega) (by rw [x0]; rfl)
        have MD : ∀ v : Int32, v.toInt = (if a2 = 0 then cLo t n Y else cHi t n Y) → Pc (b1 (some (1 : Int32)) fun r1 => (if r1 = (0 : Int32) then some (-1) else (gd (inB a0 120) (b1 (some (1 : Int32)) fun r4 => (if r4 = (0 : Int32) then some (-1) else (b1 (some (1 : Int32)) fun r6 => (if r6 = (0 : Int32) then some (-1) else (jn (fun (t8_0 : Int32) => (b1 (f_X12_canBeAt t a0 a1 t8_0) fun r10 => some r10)) fun k8 => (if a2 = (1 : Int32) then (k8 1) else (k8 0)))))))))) (fun m => v = m) := by
          intro v hv
          refine Pc_b1S (Pc_if10 (Pc_gd (fun _ => Pc_b1S (Pc_if10 (Pc_b1S (Pc_if10 (Pc_jn ?_)))))))
          rcases h01 with w | w
          · subst w
            exact Pc_iff (by decide) (Pc_b1 (Pc.mono HM (fun r hr => Pc_some (Int32.toInt_inj.1 (hv.trans hr.symm)))))
          · subst w
            exact Pc_ift rfl (Pc_b1 (Pc.mono HM (fun r hr => Pc_some (Int32.toInt_inj.1 (hv.trans hr.symm)))))
        rcases h01 with w | w
        · obtain ⟨v, ev, hv⟩ := cutD (sQ_s (n := n) (k := Y) M 0 (by omega))
          subst w
          refine Pc_ift rfl ?_
          rw [ev]
          exact Pc_b1S (Pc_some (MD v (by rw [hv, if_pos rfl]; rfl)))
        · obtain ⟨v, ev, hv⟩ := cutU (sQ_s (n := n) (k := Y) M 1 (by omega))
          subst w
          refine Pc_iff n10 ?_
          rw [ev]
          exact Pc_b1S (Pc_some (MD v (by rw [hv, if_neg n10]; rfl)))
      · rw [in_f (a := a2) (by rw [jl0, jl1]; exact d)]
        refine Pc_lt (fun _ => Pc_some (Pc_b1S (Pc_if10 (Pc_gd (fun _ => Pc_b1S (Pc_if10 (Pc_b1S (Pc_if00 (Pc_some rfl))))))))) (fun z => Pc_lt (fun _ => Pc_some (Pc_b1S (Pc_if10 (Pc_gd (fun _ => Pc_b1S (Pc_if10 (Pc_b1S (Pc_if00 (Pc_some rfl))))))))) (fun w => ?_))
        rw [jl0] at z
        rw [jl1] at w
        exact absurd ⟨z, w⟩ d
    · rw [in_f (a := a1) (by rw [jl1]; exact c)]
      refine Pc_lt (fun _ => Pc_some (Pc_b1S (Pc_if10 (Pc_gd (fun _ => Pc_b1S (Pc_if00 (Pc_some rfl))))))) (fun z => Pc_lt (fun _ => Pc_some (Pc_b1S (Pc_if10 (Pc_gd (fun _ => Pc_b1S (Pc_if00 (Pc_some rfl))))))) (fun w => ?_))
      rw [jl1] at z
      exact absurd ⟨z, w⟩ c
end CBs
