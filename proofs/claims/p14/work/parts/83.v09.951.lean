/-! WRONG MAPS -/
section WRs
variable {s t : SS} {n p i : Nat}
/-- the shelter by a map -/
def sheB (t : SS) (i : Nat) (x y : Int) : Prop := y = (zI t 83 i).toInt ∧ (zI t 81 i).toInt ≤ x ∧ x ≤ (zI t 82 i).toInt
/-- a cell that is unlike what was met -/
def cnd (t : SS) (i : Nat) (f : Int32) (y x : Int) : Prop := if f = 0 then inL t i (100 * x + y) ∨ sheB t i x y else if f = 1 then ¬ inL t i (100 * x + y) else ¬ sheB t i x y
theorem shM {a0 a1 a2 : Int32} (h0 : a0.toInt = i) : Pc (f_X12_isShelterBy t a0 a1 a2) (fun r => (r = 1 ∧ sheB t i a1.toInt a2.toInt) ∨ (r = 0 ∧ ¬ sheB t i a1.toInt a2.toInt)) := by
  have e0 : a0.toInt.toNat = i := by omega
  unfold f_X12_isShelterBy
  rw [e0]
  refine Pc_gd (fun _ => Pc_if (fun z => Pc_gd (fun _ => Pc_gd (fun _ => ?_))) (fun z => Pc_some (Or.inr ⟨rfl, fun w => z (Int32.toInt_inj.1 w.1)⟩)))
  by_cases c : (zI t 81 i).toInt ≤ a1.toInt ∧ a1.toInt ≤ (zI t 82 i).toInt
  · rw [in_t c]
    exact Pc_b1S (Pc_if10 (Pc_some (Or.inl ⟨rfl, by rw [z], c.1, c.2⟩)))
  · rw [in_f c]
    exact Pc_b1S (Pc_if00 (Pc_some (Or.inr ⟨rfl, fun w => c w.2⟩)))
/-- the reference, column by column -/
theorem unlL {y1 y2 y3 y4 : Int32} {Y : Nat} (M : QSm t) (h1 : y1.toInt = i) (hi : i < 8) (h84 : (zI t 84 i).toInt ≤ 40) (h2 : y2.toInt = n) (hn : n < 120) (h3 : y3.toInt = Y) (hY : Y ≤ 60) (lo : Int) : ∀ (m : Nat) (x5 : Int32), 0 ≤ x5.toInt → x5.toInt ≤ 32 → lo ≤ x5.toInt → (∀ x : Int, lo ≤ x → x < x5.toInt → cnd t i y4 Y x) → Pc (f_X12_isUnlike_L22 t y1 y2 y3 y4 m x5) (fun r => (r = 1 ∧ ∀ x : Int, lo ≤ x → x ≤ cHi t n Y → cnd t i y4 Y x) ∨ (r = 0 ∧ ∃ x : Int, lo ≤ x ∧ x ≤ cHi t n Y ∧ ¬ cnd t i y4 Y x))
  | 0, _, _, _, _, _ => Pc_none
  | m + 1, x5, a0, a1, a2, ha => by
    show Pc (f_X12_isUnlike_L22_b t y1 y2 y3 y4 (f_X12_isUnlike_L22 t y1 y2 y3 y4 m) x5) _
    unfold f_X12_isUnlike_L22_b
    have j100 : (100 : Int32).toInt = 100 := rfl
    have cb := clp_b (-((-(sQ t n 1 Y).toInt) / 4))
    refine Pc_b1 (Pc.mono (canM M h2 hn h3 hY (Or.inr rfl)) (fun r5 hr5 => ?_))
    rw [if_neg n10] at hr5
    refine Pc_if (fun c => Pc_some (Or.inl ⟨rfl, fun x x1 x2 => ha x x1 ?_⟩)) (fun c => ?_)
    · rw [jlt, hr5] at c
      omega
    rw [jlt, hr5] at c
    have x31 : x5.toInt ≤ 31 := by
      unfold cHi at c
      omega
    have e1 : ((100 : Int32) * x5).toInt = 100 * x5.toInt := by rw [i32_mul (by rw [j100]; omega) (by rw [j100]; omega), j100]
    have e2 : ((100 : Int32) * x5 + y3).toInt = 100 * x5.toInt + Y := by rw [i32_add (by rw [e1]; omega) (by rw [e1]; omega), e1, h3]
    have n1 : (x5 + 1).toInt = x5.toInt + 1 := by rw [i32_add (by rw [jl1]; omega) (by rw [jl1]; omega), jl1]
    refine Pc_b1 (Pc.mono (oldM (y2 := (100 : Int32) * x5 + y3) h1 hi h84) (fun r7 h7 => Pc_b1 (Pc.mono (shM (a1 := x5) (a2 := y3) h1) (fun r8 h8 => Pc_jn ?_))))
    rw [e2] at h7
    rw [h3] at h8
    -- on, where it tells against; else out
    have on1 : cnd t i y4 Y x5.toInt → Pc (if (1 : Int32) = (0 : Int32) then some 0 else (vl (x5 + 1) fun v12 => (f_X12_isUnlike_L22 t y1 y2 y3 y4 m v12))) (fun r => (r = 1 ∧ ∀ x : Int, lo ≤ x → x ≤ cHi t n Y → cnd t i y4 Y x) ∨ (r = 0 ∧ ∃ x : Int, lo ≤ x ∧ x ≤ cHi t n Y ∧ ¬ cnd t i y4 Y x)) := fun hc => Pc_if10 (Pc_vl (unlL M h1 hi h84 h2 hn h3 hY lo m (x5 + 1) (by omega) (by omega) (by omega) (fun x x1 x2 => by
      by_cases z : x = x5.toInt
      · rw [z]; exact hc
      · exact ha x x1 (by omega))))
    have off : ¬ cnd t i y4 Y x5.toInt → Pc (if (0 : Int32) = (0 : Int32) then some 0 else (vl (x5 + 1) fun v12 => (f_X12_isUnlike_L22 t y1 y2 y3 y4 m v12))) (fun r => (r = 1 ∧ ∀ x : Int, lo ≤ x → x ≤ cHi t n Y → cnd t i y4 Y x) ∨ (r = 0 ∧ ∃ x : Int, lo ≤ x ∧ x ≤ cHi t n Y ∧ ¬ cnd t i y4 Y x)) := fun hc => Pc_if00 (Pc_some (Or.inr ⟨rfl, x5.toInt, a2, Int.not_lt.mp c, hc⟩))
    unfold cnd at on1 off
    by_cases f0 : y4 = 0
    · rw [if_pos f0] at on1 off
      refine Pc_ift f0 (Pc_jn ?_)
      rcases h7 with ⟨e7, w7⟩ | ⟨e7, w7⟩
      · rw [e7]
        exact Pc_iff n10 (on1 (Or.inl w7))
      · rw [e7]
        refine Pc_ift rfl ?_
        rcases h8 with ⟨e8, w8⟩ | ⟨e8, w8⟩
        · rw [e8]
          exact Pc_iff n10 (on1 (Or.inr w8))
        · rw [e8]
          exact Pc_ift rfl (off (fun z => z.elim w7 w8))
    · rw [if_neg f0] at on1 off
      refine Pc_iff f0 ?_
      by_cases f1 : y4 = 1
      · rw [if_pos f1] at on1 off
        refine Pc_ift f1 ?_
        rcases h7 with ⟨e7, w7⟩ | ⟨e7, w7⟩
        · rw [e7]
          exact Pc_iff n10 (off (fun z => z w7))
        · rw [e7]
          exact Pc_ift rfl (on1 w7)
      · rw [if_neg f1] at on1 off
        refine Pc_iff f1 ?_
        rcases h8 with ⟨e8, w8⟩ | ⟨e8, w8⟩
        · rw [e8]
          exact Pc_iff n10 (off (fun z => z w8))
        · rw [e8]
          exact Pc_ift rfl (on1 w8)
/-- all cells where it can be are unlike -/
def Unl (t : SS) (i n y : Nat) : Prop := ∀ x : Int, cLo t n y ≤ x → x ≤ cHi t n y → cnd t i (zI t 71 (61 * n + y)) y x
theorem unlM {a0 a1 a2 : Int32} {Y : Nat} (M : QSm t) (h1 : a0.toInt = i) (hi : i < 8) (h84 : (zI t 84 i).toInt ≤ 40) (h2 : a1.toInt = n) (hn : n < 120) (h3 : a2.toInt = Y) (hY : Y ≤ 60) : Pc (f_X12_isUnlike t a0 a1 a2) (fun r => (r = 1 ∧ Unl t i n Y) ∨ (r = 0 ∧ ¬ Unl t i n Y)) := by
  unfold f_X12_isUnlike
  have e : ((61 : Int32) * a1 + a2).toInt.toNat = 61 * n + Y := by rw [ix61 h2 hn (by omega)]; omega
  have cb := clp_b ((sQ t n 0 Y).toInt / 4)
  refine Pc_vl (Pc_gd (fun _ => ?_))
  rw [e]
  refine Pc_vl (Pc_b1 (Pc.mono (canM M h2 hn h3 hY (Or.inl rfl)) (fun r4 h4 => ?_)))
  rw [if_pos rfl] at h4
  have b4 : 0 ≤ r4.toInt ∧ r4.toInt ≤ 31 := by
    rw [h4]
    exact cb
  refine Pc.mono (unlL M h1 hi h84 h2 hn h3 hY (cLo t n Y) 4000 r4 (by omega) (by omega) (by omega) (fun x x1 x2 => by omega)) (fun r hr => ?_)
  rcases hr with ⟨e1, w⟩ | ⟨e1, x, x1, x2, x3⟩
  · exact Or.inl ⟨e1, w⟩
  · exact Or.inr ⟨e1, fun z => x3 (z x x1 x2)⟩
/-- bits that both have -/
theorem and0 {v m : Int32} : (v &&& m) = 0 ↔ ∀ k, k < 32 → m.toBitVec.getLsbD k = true → ¬ v.toBitVec.getLsbD k = true := and0_b (fun k => m.toBitVec.getLsbD k = true) (fun _ _ => Iff.rfl)
/-- the class, by bits -/
theorem unlX {a0 a1 a2 a3 : Int32} {Y : Nat} {lo hi : Int} (X : MX s p t i) (h0 : a0.toInt = Y) (hY : 1 ≤ Y ∧ Y ≤ 60) (h1 : a1.toInt = lo) (h2 : a2.toInt = hi) (bl : 0 ≤ lo ∧ lo ≤ 31) (bh : 0 ≤ hi ∧ hi ≤ 31) : Pc (f_X1_isUnlike s p a0 a1 a2 a3) (fun r => (r = 1 ∧ ∀ x : Int, lo ≤ x → x ≤ hi → cnd t i a3 Y x) ∨ (r = 0 ∧ ¬ ∀ x : Int, lo ≤ x → x ≤ hi → cnd t i a3 Y x)) := by
  obtain ⟨x0, x1, x2, x4, xr, yr, xb⟩ := X
  obtain ⟨r1, e1⟩ := bits_ex a1 a2
  have hb1 := bits_b (a := a1) (b := a2) (by omega) (by omega) e1
  rw [h1, h2] at hb1
  have e0 : a0.toInt.toNat = Y := by omega
  unfold f_X1_isUnlike
  rw [e1, yard_t (by omega), e0]
  -- with the shelter's bits
  have fin : ∀ t4 : Int32, (∀ k, k < 32 → (t4.toBitVec.getLsbD k = true ↔ sheB t i (k : Int) Y)) → Pc (if a3 = 0 then (if (r1 &&& ((zI s (p + 1) Y ||| t4) ^^^ ((-1) : Int32))) = (0 : Int32) then some (1 : Int32) else some 0) else (if a3 = 1 then (if (r1 &&& zI s (p + 1) Y) = (0 : Int32) then some (1 : Int32) else some 0) else (if (r1 &&& t4) = (0 : Int32) then some (1 : Int32) else some 0))) (fun r => (r = 1 ∧ ∀ x : Int, lo ≤ x → x ≤ hi → cnd t i a3 Y x) ∨ (r = 0 ∧ ¬ ∀ x : Int, lo ≤ x → x ≤ hi → cnd t i a3 Y x)) := by
    intro t4 ht
    -- a mask of what does not tell
    have go : ∀ m : Int32, (∀ k : Nat, k < 32 → (m.toBitVec.getLsbD k = true ↔ ¬ cnd t i a3 Y k)) → Pc (if (r1 &&& m) = (0 : Int32) then some (1 : Int32) else some 0) (fun r => (r = 1 ∧ ∀ x : Int, lo ≤ x → x ≤ hi → cnd t i a3 Y x) ∨ (r = 0 ∧ ¬ ∀ x : Int, lo ≤ x → x ≤ hi → cnd t i a3 Y x)) := by
      intro m hm
      refine Pc_if (fun z => Pc_some (Or.inl ⟨rfl, fun x w1 w2 => ?_⟩)) (fun z => Pc_some (Or.inr ⟨rfl, fun w => z (and0.mpr (fun k hk mk rk => ?_))⟩))
      · have hx : x.toNat < 32 := by omega
        have ex : ((x.toNat : Nat) : Int) = x := by omega
        have := and0.mp z x.toNat hx
        rw [hm _ hx, ex, hb1 _ hx, ex] at this
        exact Classical.byContradiction (fun nc => this nc ⟨w1, w2⟩)
      · rw [hm k hk] at mk
        rw [hb1 k hk] at rk
        exact mk (w k rk.1 rk.2)
    have bt : ∀ k : Nat, k < 32 → ((zI s (p + 1) Y).toBitVec.getLsbD k = true ↔ inL t i (100 * (k : Int) + Y)) := fun k hk => xb k Y hk hY.1 hY.2
    refine Pc_if (fun z => go _ (fun k hk => ?_)) (fun z => Pc_if (fun w => go _ (fun k hk => ?_)) (fun w => go _ (fun k hk => ?_)))
    · unfold cnd
      rw [if_pos z, Int32.toBitVec_xor, BitVec.getLsbD_xor, Int32.toBitVec_or, BitVec.getLsbD_or]
      have en : (-1 : Int32).toBitVec = BitVec.allOnes 32 := by decide
      rw [en, BitVec.getLsbD_allOnes, decide_eq_true hk, ← bt k hk, ← ht k hk]
      cases (zI s (p + 1) Y).toBitVec.getLsbD k <;> cases t4.toBitVec.getLsbD k <;> decide
    · unfold cnd
      rw [if_neg z, if_pos w, bt k hk]
      exact ⟨fun h nh => nh h, fun h => Classical.byContradiction h⟩
    · unfold cnd
      rw [if_neg z, if_neg w, ht k hk]
      exact ⟨fun h nh => nh h, fun h => Classical.byContradiction h⟩
  refine Pc_b1S (Pc_b1S (Pc_jn (Pc_if10 (Pc_gd (fun _ => Pc_jn ?_)))))
  refine Pc_if (fun z => ?_) (fun z => fin 0 (fun k hk => ?_))
  · obtain ⟨r12, e12⟩ := bits_ex (zS s p 0) (zS s p 1)
    have hb2 := bits_b (a := zS s p 0) (b := zS s p 1) (by omega) (by omega) e12
    rw [e12]
    refine Pc_b1S (fin r12 (fun k hk => ?_))
    rw [hb2 k hk]
    unfold sheB
    rw [← x0, ← x1, ← x2, ← z, h0]
    exact ⟨fun h => ⟨rfl, h⟩, fun h => h.2⟩
  · have z0 : (0 : Int32).toBitVec = 0#32 := rfl
    rw [z0, BitVec.getLsbD_zero]
    refine ⟨fun h => (by cases h), fun h => absurd (Int32.toInt_inj.1 ?_) z⟩
    rw [h0, x2]
    exact h.1
/-- the first yard that is unlike, or none (0) -/
def frsU (t : SS) (i n : Nat) (bo : Int) (r : Int32) : Prop := (r = 0 ∧ ∀ y : Nat, 1 ≤ y → (y : Int) ≤ bo → ¬ Unl t i n y) ∨ ∃ y : Nat, 1 ≤ y ∧ (y : Int) ≤ bo ∧ r.toInt = y ∧ Unl t i n y ∧ ∀ z : Nat, 1 ≤ z → z < y → ¬ Unl t i n z
theorem fuyL {p2 : Nat} (M : QSm t) (X : MX s p t i) (H : HX s p2 t n) (e15 : zS s 0 15 = zS t 59 29) (hb : 0 ≤ (zS s p2 4).toInt ∧ (zS s p2 4).toInt ≤ 60) : ∀ (m k : Nat) (x3 x4 x5 : Int32), x5.toInt = k + 1 → (k : Int) ≤ (zS s p2 4).toInt → x3 = sQ t n 0 k → x4 = sQ t n 1 k → (∀ y : Nat, 1 ≤ y → y ≤ k → ¬ Unl t i n y) → Pc (f_X11_firstUnlikeYard_L13 s p p2 m x3 x4 x5) (frsU t i n (zS s p2 4).toInt)
  | 0, _, _, _, _, _, _, _, _, _ => Pc_none
  | m + 1, k, x3, x4, x5, h5, hk, h3, h4, hu => by
    show Pc (f_X11_firstUnlikeYard_L13_b s p p2 (f_X11_firstUnlikeYard_L13 s p p2 m) x3 x4 x5) _
    unfold f_X11_firstUnlikeYard_L13_b
    refine Pc_if (fun c => Pc_some (Or.inl ⟨rfl, fun y y1 y2 => hu y y1 ?_⟩)) (fun c => ?_)
    · rw [jlt] at c
      omega
    rw [jlt] at c
    have k60 : k + 1 ≤ 60 := by omega
    obtain ⟨l1, l2⟩ := leaX (a := x5) (y := k + 1) H e15 (by omega) (by omega) k60
    have n1 : (x5 + 1).toInt = x5.toInt + 1 := by rw [i32_add (by rw [jl1]; omega) (by rw [jl1]; omega), jl1]
    rw [l1, l2]
    have q3 : x3 + stpL t n 0 (k + 1) = sQ t n 0 (k + 1) := by rw [h3]; rfl
    have q4 : x4 + stpL t n 1 (k + 1) = sQ t n 1 (k + 1) := by rw [h4]; rfl
    obtain ⟨v7, e7, w7⟩ := cutD (sQ_s (n := n) M 0 k60)
    obtain ⟨v8, e8, w8⟩ := cutU (sQ_s (n := n) M 1 k60)
    refine Pc_b1S (Pc_vl (Pc_b1S (Pc_vl ?_)))
    rw [q3, q4, e7, e8]
    refine Pc_b1S (Pc_b1S (Pc_gd (fun _ => ?_)))
    have e5 : x5.toInt.toNat = k + 1 := by omega
    have f5 := (H.2.2.2.2.2.2.2.2 (k + 1) (by omega) k60).2.1
    rw [e5, f5]
    refine Pc_b1 (Pc.mono (unlX (a3 := zI t 71 (61 * n + (k + 1))) (Y := k + 1) X (by omega) ⟨by omega, k60⟩ w7 w8 (clp_b _) (clp_b _)) (fun r hr => ?_))
    rcases hr with ⟨er, w⟩ | ⟨er, w⟩
    · rw [er]
      refine Pc_if10 (Pc_some (Or.inr ⟨k + 1, by omega, by omega, by omega, w, fun z z1 z2 => hu z z1 (by omega)⟩))
    · rw [er]
      refine Pc_if00 (Pc_vl (fuyL M X H e15 hb m (k + 1) _ _ _ (by omega) (by omega) rfl rfl (fun y y1 y2 => ?_)))
      by_cases z : y = k + 1
      · rw [z]; exact w
      · exact hu y y1 (by omega)
/-- the reference, yard by yard -/
theorem wyL {y1 y2 r : Int32} {q0 : Option Int32} {R : Int32 → Prop} (M : QSm t) (h1 : y1.toInt = i) (hi : i < 8) (h84 : (zI t 84 i).toInt ≤ 40) (h2 : y2.toInt = n) (hn : n < 120) (hb : 0 ≤ (zI t 67 n).toInt ∧ (zI t 67 n).toInt ≤ 60) (F : frsU t i n (zI t 67 n).toInt r) (hq : r = 0 → Pc q0 R) (hr : 1 ≤ r.toInt → R (100 * y2 + r)) : ∀ (m k : Nat) (x3 : Int32), x3.toInt = k + 1 → (k : Int) ≤ (zI t 67 n).toInt → (∀ y : Nat, 1 ≤ y → y ≤ k → ¬ Unl t i n y) → Pc (f_X12_wrongBy_L23 q0 t y1 y2 m x3) R
  | 0, _, _, _, _, _ => Pc_none
  | m + 1, k, x3, h3, hk, hu => by
    show Pc (f_X12_wrongBy_L23_b q0 t y1 y2 (f_X12_wrongBy_L23 q0 t y1 y2 m) x3) R
    unfold f_X12_wrongBy_L23_b
    have e2 : y2.toInt.toNat = n := by omega
    have n1 : (x3 + 1).toInt = x3.toInt + 1 := by rw [i32_add (by rw [jl1]; omega) (by rw [jl1]; omega), jl1]
    rw [e2]
    refine Pc_gd (fun _ => Pc_if (fun c => ?_) (fun c => ?_))
    · rw [jlt] at c
      rcases F with ⟨f1, f2⟩ | ⟨y, f1, f2, f3, f4, f5⟩
      · exact hq f1
      · exact absurd f4 (hu y f1 (by omega))
    · rw [jlt] at c
      refine Pc_b1 (Pc.mono (unlM (a2 := x3) (Y := k + 1) M h1 hi h84 h2 hn (by omega) (by omega)) (fun r8 h8 => ?_))
      rcases h8 with ⟨e8, w⟩ | ⟨e8, w⟩
      · rw [e8]
        refine Pc_iff n10 (Pc_some ?_)
        rcases F with ⟨f1, f2⟩ | ⟨y, f1, f2, f3, f4, f5⟩
        · exact absurd w (f2 (k + 1) (by omega) (by omega))
        · have ey : y = k + 1 := by
            by_cases z : y < k + 1
            · exact absurd f4 (hu y f1 (by omega))
            · by_cases z2 : k + 1 < y
              · exact absurd w (f5 (k + 1) (by omega) z2)
              · omega
          have : x3 = r := Int32.toInt_inj.1 (by omega)
          rw [this]
          exact hr (by omega)
      · rw [e8]
        refine Pc_ift rfl (Pc_vl (wyL M h1 hi h84 h2 hn hb F hq hr m (k + 1) _ (by omega) (by omega) (fun y y1 y2 => ?_)))
        by_cases z : y = k + 1
        · rw [z]; exact w
        · exact hu y y1 (by omega)
/-- hole by hole -/
theorem fu_l {a0 : Int32} (J : Iv t) (M : QSm t) (B : B1 s t) (Q : Q4 s t) (X : MX s p t i) (h1 : a0.toInt = i) (hi : i < 8) : ∀ (n m : Nat) (x : Int32), 0 ≤ x.toInt → Pc (f_X11_firstUnlike_L2 s p n x) (fun r => Pc (f_X12_wrongBy_L2 t a0 m x) (fun r' => r' = r))
  | 0, _, _, _ => Pc_none
  | n + 1, 0, _, _ => fun _ _ => Pc_none
  | n + 1, m + 1, x, h0 => by
    obtain ⟨b1, b2, b3⟩ := B.1.tot
    have e15 : zS s 0 15 = zS t 59 29 := B.1.1.2.2.2.2
    have h84 : (zI t 84 i).toInt ≤ 40 := (J.1.a (q := 84) rfl : 0 ≤ (zI t 84 i).toInt ∧ (zI t 84 i).toInt ≤ 40).2
    show Pc (f_X11_firstUnlike_L2_b s p (f_X11_firstUnlike_L2 s p n) x) (fun r => Pc (f_X12_wrongBy_L2_b t a0 (f_X12_wrongBy_L2 t a0 m) x) (fun r' => r' = r))
    unfold f_X11_firstUnlike_L2_b f_X12_wrongBy_L2_b
    rw [← b1, holeOfX B, isHoleO B]
    refine Pc_if (fun c => Pc_b1S ?_) (fun c => Pc_some (Pc_iff c (Pc_some rfl)))
    have c' := c
    rw [jlt] at c'
    have n1 : (x + 1).toInt = x.toInt + 1 := by rw [i32_add (by rw [jl1]; omega) (by rw [jl1]; omega), jl1]
    have ih := fu_l (a0 := a0) J M B Q X h1 hi n m (x + 1) (by omega)
    rcases hsp B x with ho | ⟨k, q, hx, hk, hq, ho, _⟩
    · rw [ho, if_pos rfl]
      exact Pc_onN (Pc_vl (Pc.mono ih (fun r hr => Pc_ift c (Pc_b1S (Pc_jn (Pc_if00 (Pc_vl hr)))))))
    · rw [ho, if_neg snn]
      have H := Q.1.1 k q hk hq
      have hb := B.1.h4 (B.1.sh.2.2.1 _ _ hk hq)
      have e4 : zS s q 4 = zI t 67 k := H.2.2.2.2.1
      refine Pc_onS (Pc_b1 ?_)
      unfold f_X11_firstUnlikeYard
      refine Pc_vl (Pc.mono (fuyL M X H e15 hb 4000 0 _ _ 1 (by decide) hb.1 (by rw [H.1]; rfl) (by rw [H.1]; rfl) (fun y y1 y2 => by omega)) (fun r4 F => ?_))
      rw [e4] at F hb
      refine Pc_lt (fun z => Pc_some ?_) (fun z => Pc_vl (Pc.mono ih (fun r hr => ?_)))
      · rw [jl0] at z
        refine Pc_ift c (Pc_b1S (Pc_jn (Pc_if10 ?_)))
        exact wyL (R := fun r' => r' = 100 * x + r4) M h1 hi h84 hx hk hb F (fun w => by rw [w, jl0] at z; omega) (fun _ => rfl) 4000 0 1 (by decide) hb.1 (fun y y1 y2 => by omega)
      · rw [jl0] at z
        refine Pc_ift c (Pc_b1S (Pc_jn (Pc_if10 ?_)))
        refine wyL M h1 hi h84 hx hk hb F (fun _ => Pc_vl hr) (fun w => by omega) 4000 0 1 (by decide) hb.1 (fun y y1 y2 => by omega)
theorem V_wrong (J : Iv t) (M : QSm t) (B : B1 s t) (Q : Q4 s t) (a0 : Int32) : Pc (f_X11_wrong s a0) fun x => Pc (f_X12_wrong t a0) fun m => x = m := by
  have b5 : zS s 0 5 = zS t 59 30 := B.1.1.2.2.1
  have r5 : 0 ≤ (zS s 0 5).toInt ∧ (zS s 0 5).toInt ≤ 8 := B.1.fx (q := 0) (k := 5) (by omega)
  have e5 : (zS t 59 30 - 1).toInt = (zS s 0 5).toInt - 1 := by rw [← b5, i32_sub (by rw [jl1]; omega) (by rw [jl1]; omega), jl1]
  unfold f_X11_wrong f_X12_wrong f_X11_chartOf
  by_cases d : 0 ≤ a0.toInt ∧ a0.toInt < (zS s 0 5).toInt
  · obtain ⟨i, ei⟩ : ∃ i, i = a0.toInt.toNat := ⟨_, rfl⟩
    have hi : i < 8 := by omega
    have ha : a0.toInt = i := by omega
    obtain ⟨p, hp, X⟩ := Q.2.2.2.2.2.2.2.2.2.1.1 i hi (by omega)
    rw [in_t (a := a0) (by rw [jl0, e5]; omega), ← ei, hp]
    refine Pc_b1 (Pc_iff (by rw [jlt, jl0]; omega) (Pc_ift (by rw [jlt]; exact d.2) (Pc_gd (fun _ => Pc_onS (Pc_some (Pc_onS (Pc_b1 ?_)))))))
    unfold f_X11_firstUnlike f_X12_wrongBy
    exact Pc.mono (fu_l J M B Q X ha hi 4000 4000 0 (by decide)) (fun r hr => Pc_some (Pc_b1S (Pc_if10 (Pc_b1 (Pc.mono hr (fun r' e => Pc_some e.symm))))))
  · rw [in_f (a := a0) (by rw [jl0, e5]; omega)]
    have M' : ∀ K : Option Int32, Pc (b1 (some (0 : Int32)) fun r1 => (if r1 = (0 : Int32) then some (-1) else K)) (fun m => (-1 : Int32) = m) := fun K => Pc_b1S (Pc_if00 (Pc_some rfl))
    refine Pc_b1 (Pc_lt (fun _ => Pc_some (Pc_onN (Pc_some (M' _)))) (fun z => Pc_lt (fun w => ?_) (fun _ => Pc_some (Pc_onN (Pc_some (M' _))))))
    rw [jl0] at z
    exact absurd ⟨z, w⟩ d
end WRs
