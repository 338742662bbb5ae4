/-! COUNTS BY THE REFERENCE; WHICH TEXT IS IN FORCE -/
section CTs
variable {s t : SS}
/-- the relation without the capsule's list -/
def Q4w (h : Int) (s t : SS) : Prop := QHol s t ∧ QMen s t ∧ QCnt s t ∧ QFst s t ∧ QStoH h s t ∧ QRef s t ∧ QBrk s t ∧ True ∧ QSet s t ∧ QCha s t ∧ QTxt s t ∧ QRow t ∧ QKep h t
theorem Q4h.w {h : Int} (Q : Q4h h s t) : Q4w h s t := ⟨Q.1, Q.2.1, Q.2.2.1, Q.2.2.2.1, Q.2.2.2.2.1, Q.2.2.2.2.2.1, Q.2.2.2.2.2.2.1, trivial, Q.2.2.2.2.2.2.2.2⟩
theorem Q4w.l {h : Int} (Q : Q4w h s t) (L : QLif s t) : Q4h h s t := ⟨Q.1, Q.2.1, Q.2.2.1, Q.2.2.2.1, Q.2.2.2.2.1, Q.2.2.2.2.2.1, Q.2.2.2.2.2.2.1, L, Q.2.2.2.2.2.2.2.2⟩
theorem men_l {t : SS} (h01 : ∀ i, i < 120 → zI t 77 i = 0 ∨ zI t 77 i = 1) (hb : 0 ≤ (zS t 59 4).toInt ∧ (zS t 59 4).toInt ≤ 120) : ∀ (n : Nat) (x1 x2 : Int32), 0 ≤ x2.toInt → x2.toInt ≤ (zS t 59 4).toInt → x1.toInt = ySum (fun i => (zI t 77 i).toInt) x2.toInt.toNat → (0 ≤ x1.toInt ∧ x1.toInt ≤ x2.toInt) → Pc (f_X12_menBelow_L4 t n x1 x2) (fun r => r.toInt = ySum (fun i => (zI t 77 i).toInt) (zS t 59 4).toInt.toNat)
  | 0, _, _, _, _, _, _ => Pc_none
  | n + 1, x1, x2, h0, h1, hs, hr => by
    show Pc (f_X12_menBelow_L4_b t (f_X12_menBelow_L4 t n) x1 x2) _
    unfold f_X12_menBelow_L4_b
    refine Pc_lt (fun c => Pc_gd (fun _ => Pc_jn ?_)) (fun c => Pc_some (by rw [hs, show x2.toInt.toNat = (zS t 59 4).toInt.toNat by omega]))
    have e2 : (x2 + 1).toInt = x2.toInt + 1 := by rw [i32_add (by rw [jl1]; omega) (by rw [jl1]; omega), jl1]
    have et : (x2.toInt + 1).toNat = x2.toInt.toNat + 1 := by omega
    have go : ∀ w : Int32, (w = 0 ∨ w = 1) → w = zI t 77 x2.toInt.toNat → Pc (vl ((x1 + w)) fun v4 => (vl (x2 + 1) fun v5 => (f_X12_menBelow_L4 t n v4 v5))) (fun r => r.toInt = ySum (fun i => (zI t 77 i).toInt) (zS t 59 4).toInt.toNat) := by
      intro w hw e
      have rw_ : 0 ≤ w.toInt ∧ w.toInt ≤ 1 := by rcases hw with rfl | rfl <;> decide
      have e1 : (x1 + w).toInt = x1.toInt + w.toInt := by rw [i32_add (by omega) (by omega)]
      refine Pc_vl (Pc_vl (men_l h01 hb n _ _ (by omega) (by omega) ?_ (by omega)))
      rw [e1, e2, et, hs, e]
      rfl
    rcases h01 x2.toInt.toNat (by omega) with z | z
    · exact Pc_ift z (go 0 (Or.inl rfl) z.symm)
    · exact Pc_iff (by rw [z]; decide) (go 1 (Or.inr rfl) z.symm)
theorem men_p (B : zS s 15 3 = zS t 59 4 ∧ 0 ≤ (zS s 15 3).toInt ∧ (zS s 15 3).toInt ≤ 120) (M : QMen s t) : Pc (f_X12_menBelow t) (fun r => r = zS s 6 4) := by
  obtain ⟨b1, b2, b3⟩ := B
  unfold f_X12_menBelow
  refine Pc.mono (men_l (fun i hi => ?_) (by rw [← b1]; exact ⟨b2, b3⟩) 4000 0 0 (by decide) (by rw [← b1, jl0]; exact b2) rfl (by decide)) (fun r hr => Int32.toInt_inj.1 ?_)
  · have := M.1 i hi
    rw [← this.2.2.1]
    exact this.2.2.2.1
  · have e120 : ySum (fun i => (zI s 10 i).toInt) 120 = ySum (fun i => (zI s 10 i).toInt) (zS s 15 3).toInt.toNat := ySum_z (by omega) (fun i h1 h2 => by
      rcases (M.1 i h2).2.2.2.1 with z | z
      · rw [z]; rfl
      · have := (M.1 i h2).2.2.2.2 z
        omega)
    rw [hr, M.2, ← b1, e120]
    exact ySum_c (fun i hi => by rw [(M.1 i (by omega)).2.2.1])
/-- how many are through -/
theorem thr_l {sb : SS} {y2 y4 : Int32} {q0 : Int32 → Option (Int32 × SS)} {R : Int32 × SS → Prop} (hb : 0 ≤ (zS sb 59 4).toInt ∧ (zS sb 59 4).toInt ≤ 120) (hq : ∀ z, z.toInt = ySum (fun i => if 0 < (zI sb 69 i).toInt then 1 else 0) (zS sb 59 4).toInt.toNat → Pc (q0 z) R) : ∀ (n : Nat) (x5 x6 : Int32), 0 ≤ x6.toInt → x6.toInt ≤ (zS sb 59 4).toInt → x5.toInt = ySum (fun i => if 0 < (zI sb 69 i).toInt then 1 else 0) x6.toInt.toNat → (0 ≤ x5.toInt ∧ x5.toInt ≤ x6.toInt) → Pc (f_X12_saysNow_L28 q0 sb y2 y4 n x5 x6) R
  | 0, _, _, _, _, _, _ => Pc_none
  | n + 1, x5, x6, h0, h1, hs, hr => by
    show Pc (f_X12_saysNow_L28_b q0 sb y2 y4 (f_X12_saysNow_L28 q0 sb y2 y4 n) x5 x6) _
    unfold f_X12_saysNow_L28_b
    refine Pc_lt (fun c => Pc_gd (fun _ => Pc_jn ?_)) (fun c => hq _ (by rw [hs, show x6.toInt.toNat = (zS sb 59 4).toInt.toNat by omega]))
    have e2 : (x6 + 1).toInt = x6.toInt + 1 := by rw [i32_add (by rw [jl1]; omega) (by rw [jl1]; omega), jl1]
    have et : (x6.toInt + 1).toNat = x6.toInt.toNat + 1 := by omega
    have go : ∀ w : Int32, 0 ≤ w.toInt ∧ w.toInt ≤ 1 → w.toInt = (if 0 < (zI sb 69 x6.toInt.toNat).toInt then 1 else 0) → Pc (vl ((x5 + w)) fun v4 => (vl (x6 + 1) fun v5 => (f_X12_saysNow_L28 q0 sb y2 y4 n v4 v5))) R := by
      intro w rw_ e
      have e1 : (x5 + w).toInt = x5.toInt + w.toInt := by rw [i32_add (by omega) (by omega)]
      refine Pc_vl (Pc_vl (thr_l hb hq n _ _ (by omega) (by omega) ?_ (by omega)))
      rw [e1, e2, et, hs, e]
      rfl
    refine Pc_lt (fun z => go 1 (by decide) (by rw [jl0] at z; rw [if_pos z]; rfl)) (fun z => go 0 (by decide) (by rw [jl0] at z; rw [if_neg (by omega)]; rfl))
theorem thr_t {hq : Int} (B : B1 s t) (Q : Q4w hq s t) : ySum (fun i => if 0 < (zI t 69 i).toInt then 1 else 0) (zS t 59 4).toInt.toNat = (zS s 0 17).toInt := by
  have b := B.1.tot
  rw [Q.2.2.1.2.1, ← b.1]
  exact (ySum_z (by omega) (fun i h1 h2 => by
    rw [(Q.1.2.1 i h2 (noH B (by omega) h2)).2.2.2.1]; rfl)).symm
/-- the first hour in which one was through -/
theorem fst_l {t : SS} (hb : 0 ≤ (zS t 59 4).toInt ∧ (zS t 59 4).toInt ≤ 120) (h69 : ∀ i, i < 120 → 0 ≤ (zI t 69 i).toInt ∧ (zI t 69 i).toInt ≤ 1700) : ∀ (n : Nat) (x1 x2 : Int32), 0 ≤ x2.toInt → x2.toInt ≤ (zS t 59 4).toInt → (∀ i : Nat, (i : Int) < x2.toInt → 0 < (zI t 69 i).toInt → x1.toInt ≤ (zI t 69 i).toInt - 1) → ((x1.toInt = 1700 ∧ ∀ i : Nat, (i : Int) < x2.toInt → ¬ 0 < (zI t 69 i).toInt) ∨ ∃ i : Nat, (i : Int) < x2.toInt ∧ 0 < (zI t 69 i).toInt ∧ x1.toInt = (zI t 69 i).toInt - 1) → Pc (f_X12_firstThrough_L6 t n x1 x2) (fun r => (∀ i : Nat, (i : Int) < (zS t 59 4).toInt → 0 < (zI t 69 i).toInt → r.toInt ≤ (zI t 69 i).toInt - 1) ∧ ((r.toInt = 1700 ∧ ∀ i : Nat, (i : Int) < (zS t 59 4).toInt → ¬ 0 < (zI t 69 i).toInt) ∨ ∃ i : Nat, (i : Int) < (zS t 59 4).toInt ∧ 0 < (zI t 69 i).toInt ∧ r.toInt = (zI t 69 i).toInt - 1))
  | 0, _, _, _, _, _, _ => Pc_none
  | n + 1, x1, x2, h0, h1, ha, hs => by
    show Pc (f_X12_firstThrough_L6_b t (f_X12_firstThrough_L6 t n) x1 x2) _
    unfold f_X12_firstThrough_L6_b
    refine Pc_lt (fun c => Pc_gd (fun _ => Pc_jn ?_)) (fun c => Pc_some ?_)
    · have e2 : (x2 + 1).toInt = x2.toInt + 1 := by rw [i32_add (by rw [jl1]; omega) (by rw [jl1]; omega), jl1]
      have r := h69 x2.toInt.toNat (by omega)
      have e1 : (zI t 69 x2.toInt.toNat - 1).toInt = (zI t 69 x2.toInt.toNat).toInt - 1 := by rw [i32_sub (by rw [jl1]; omega) (by rw [jl1]; omega), jl1]
      have hx : ∀ i : Nat, (i : Int) < x2.toInt + 1 → (i : Int) < x2.toInt ∨ i = x2.toInt.toNat := fun i hi => by omega
      refine Pc_lt (fun z => Pc_gd (fun _ => Pc_lt (fun w => Pc_gd (fun _ => Pc_vl (Pc_vl ?_))) (fun w => Pc_vl ?_))) (fun z => Pc_vl ?_)
      · rw [jl0] at z
        rw [e1] at w
        refine fst_l hb h69 n _ _ (by omega) (by omega) (fun i hi hp => ?_) (Or.inr ⟨x2.toInt.toNat, by omega, z, e1⟩)
        rw [e2] at hi
        rcases hx i hi with y | y
        · have := ha i y hp; omega
        · rw [y, e1]; omega
      · rw [jl0] at z
        rw [e1] at w
        refine fst_l hb h69 n _ _ (by omega) (by omega) (fun i hi hp => ?_) ?_
        · rw [e2] at hi
          rcases hx i hi with y | y
          · exact ha i y hp
          · rw [y]; omega
        · rcases hs with ⟨s1, s2⟩ | ⟨i, s1, s2, s3⟩
          · omega
          · exact Or.inr ⟨i, by omega, s2, s3⟩
      · rw [jl0] at z
        refine fst_l hb h69 n _ _ (by omega) (by omega) (fun i hi hp => ?_) ?_
        · rw [e2] at hi
          rcases hx i hi with y | y
          · exact ha i y hp
          · rw [y] at hp; omega
        · rcases hs with ⟨s1, s2⟩ | ⟨i, s1, s2, s3⟩
          · refine Or.inl ⟨s1, fun i hi hp => ?_⟩
            rw [e2] at hi
            rcases hx i hi with y | y
            · exact s2 i y hp
            · rw [y] at hp; omega
          · exact Or.inr ⟨i, by omega, s2, s3⟩
    · have e : x2.toInt = (zS t 59 4).toInt := by omega
      rw [e] at ha hs
      exact ⟨ha, hs⟩
theorem fst_p {hq : Int} (B : B1 s t) (Q : Q4w hq s t) : Pc (f_X12_firstThrough t) (fun r => r = zS s 0 18) := by
  have b := B.1.tot
  unfold f_X12_firstThrough
  refine Pc.mono (fst_l (by rw [← b.1]; exact b.2) Q.1.2.2.2 4000 1700 0 (by decide) (by rw [← b.1, jl0]; exact b.2.1) (fun i hi => by rw [jl0] at hi; omega) (Or.inl ⟨rfl, fun i hi => by rw [jl0] at hi; omega⟩)) (fun r hr => Int32.toInt_inj.1 ?_)
  obtain ⟨r1, r2⟩ := hr
  have inn : ∀ i : Nat, i < 120 → 0 < (zI t 69 i).toInt → (i : Int) < (zS t 59 4).toInt := fun i hi hp => by
    by_cases z : (i : Int) < (zS t 59 4).toInt
    · exact z
    · rw [← b.1] at z
      rw [(Q.1.2.1 i hi (noH B (by omega) hi)).2.2.2.1] at hp
      exact absurd hp (by decide)
  have b4 : (zS t 59 4).toInt ≤ 120 := by rw [← b.1]; exact b.2.2
  rcases Q.2.2.2.1 with ⟨q1, q2⟩ | ⟨_, q2, i, i1, i2, i3⟩
  · rcases r2 with ⟨a1, _⟩ | ⟨i, a1, a2, _⟩
    · omega
    · exact absurd a2 (q2 i (by omega))
  · have h1 := r1 i (inn i i1 i2) i2
    rcases r2 with ⟨_, a2⟩ | ⟨j, a1, a2, a3⟩
    · exact absurd i2 (a2 i (inn i i1 i2))
    · have := q2 j (by omega) a2
      omega
theorem frcM_s {w h k hd x : Int32} {rc : Int32 → Option Int32} {R : Int32 → Prop} (nc : ¬ x < 0) (hr : Pc (rc (x + -1)) R) (hc : ¬ (zI t 87 x.toInt.toNat % 10 = w % 10) ∨ k < zI t 88 x.toInt.toNat ∨ h < zI t 89 x.toInt.toNat ∨ (¬ (zI t 87 x.toInt.toNat / 10 = w / 10) ∧ hd = 0)) : Pc (f_X12_forceOf_L23_b t w h k hd rc x) R := by
  unfold f_X12_forceOf_L23_b
  refine Pc_iff nc (Pc_gd (fun _ => Pc_jn (Pc_if (fun y1 => Pc_gd (fun _ => Pc_jn ?_)) (fun _ => Pc_vl hr))))
  have K : (zI t 87 x.toInt.toNat / 10 = w / 10 ∨ ¬ hd = 0) → Pc (gd (inB x 16) (if k < (zI t 88 (x.toInt.toNat)) then (vl (x + (-1)) fun v7 => (rc v7)) else (gd (inB x 16) (if h < (zI t 89 (x.toInt.toNat)) then (vl (x + (-1)) fun v7 => (rc v7)) else some x)))) R := fun y2 => Pc_gd (fun _ => Pc_if (fun _ => Pc_vl hr) (fun y3 => Pc_gd (fun _ => Pc_if (fun _ => Pc_vl hr) (fun y4 => absurd hc (fun z => z.elim (fun z => z y1) (fun z => z.elim y3 (fun z => z.elim y4 (fun z => y2.elim z.1 (fun y => y z.2)))))))))
  exact Pc_if (fun y2 => K (Or.inl y2)) (fun _ => Pc_if (fun _ => Pc_vl hr) (fun y2 => K (Or.inr y2)))
theorem frcM_r {w h k hd x : Int32} {rc : Int32 → Option Int32} {R : Int32 → Prop} (nc : ¬ x < 0) (hr : R x) (h1 : zI t 87 x.toInt.toNat % 10 = w % 10) (h2 : ¬ k < zI t 88 x.toInt.toNat) (h3 : ¬ h < zI t 89 x.toInt.toNat) (h4 : zI t 87 x.toInt.toNat / 10 = w / 10 ∨ ¬ hd = 0) : Pc (f_X12_forceOf_L23_b t w h k hd rc x) R := by
  unfold f_X12_forceOf_L23_b
  refine Pc_iff nc (Pc_gd (fun _ => Pc_jn (Pc_ift h1 (Pc_gd (fun _ => Pc_jn ?_)))))
  have K : Pc (gd (inB x 16) (if k < (zI t 88 (x.toInt.toNat)) then (vl (x + (-1)) fun v7 => (rc v7)) else (gd (inB x 16) (if h < (zI t 89 (x.toInt.toNat)) then (vl (x + (-1)) fun v7 => (rc v7)) else some x)))) R := Pc_gd (fun _ => Pc_iff h2 (Pc_gd (fun _ => Pc_iff h3 (Pc_some hr))))
  exact Pc_if (fun _ => K) (fun y => Pc_if (fun z => absurd h4 (fun w => w.elim y (fun w => w z))) (fun _ => K))
/-- the same text on both sides -/
theorem frc_l {w side use h k hd : Int32} {hq : Int} (B : B1 s t) (Q : Q4w hq s t) (hw : 0 ≤ w.toInt ∧ w.toInt ≤ 12) (hs : side.toInt = w.toInt / 10) (hu : use.toInt = w.toInt % 10) : ∀ (n m : Nat) (x : Int32), -1 ≤ x.toInt → x.toInt < (zS s 0 8).toInt → Pc (f_X11_latestText_L24 s side use h k hd n x) (fun r => Pc (f_X12_forceOf_L23 t w h k hd m x) (fun r' => r' = r ∧ (r = -2 ∨ (0 ≤ r.toInt ∧ r.toInt < (zS s 0 8).toInt))))
  | 0, _, _, _, _ => Pc_none
  | n + 1, 0, x, _, _ => fun _ _ => Pc_none
  | n + 1, m + 1, x, h0, h1 => by
    show Pc (f_X11_latestText_L24_b s side use h k hd (f_X11_latestText_L24 s side use h k hd n) x) (fun r => Pc (f_X12_forceOf_L23_b t w h k hd (f_X12_forceOf_L23 t w h k hd m) x) _)
    unfold f_X11_latestText_L24_b
    have b8 : 0 ≤ (zS s 0 8).toInt ∧ (zS s 0 8).toInt ≤ 16 := B.1.fx (q := 0) (k := 8) (by omega)
    by_cases c : x.toInt < 0
    · refine Pc_ift (by rw [jlt, jl0]; exact c) (Pc_some ?_)
      unfold f_X12_forceOf_L23_b
      exact Pc_ift (by rw [jlt, jl0]; exact c) (Pc_some ⟨rfl, Or.inl rfl⟩)
    have nc : ¬ x < 0 := by rw [jlt, jl0]; exact c
    have e1 : (x + -1).toInt = x.toInt - 1 := by rw [i32_add (by rw [jm1]; omega) (by rw [jm1]; omega), jm1]; rfl
    have ih : ∀ x' : Int32, x'.toInt = x.toInt - 1 → Pc (f_X11_latestText_L24 s side use h k hd n x') (fun r => Pc (f_X12_forceOf_L23 t w h k hd m x') (fun r' => r' = r ∧ (r = -2 ∨ (0 ≤ r.toInt ∧ r.toInt < (zS s 0 8).toInt)))) := fun x' e => frc_l B Q hw hs hu n m x' (by clear e1; omega) (by clear e1; omega)
    have ih' := ih _ e1
    clear ih e1
    refine Pc_iff nc (Pc_gd (fun _ => ?_))
    obtain ⟨p, ep, tx⟩ := Q.2.2.2.2.2.2.2.2.2.2.1 x.toInt.toNat (by omega) (by omega)
    obtain ⟨⟨g1, g2, g3⟩, a0, a1, a2, a3, _⟩ := tx
    rw [ep]
    have d87 : (zI t 87 x.toInt.toNat % 10).toInt = (zI t 87 x.toInt.toNat).toInt % 10 := by rw [jm10, if_pos g1]
    have v87 : (zI t 87 x.toInt.toNat / 10).toInt = (zI t 87 x.toInt.toNat).toInt / 10 := by rw [jd10, if_pos g1]
    have dw : (w % 10).toInt = w.toInt % 10 := by rw [jm10, if_pos hw.1]
    have vw : (w / 10).toInt = w.toInt / 10 := by rw [jd10, if_pos hw.1]
    have u1 : (zS s p 1 = use) ↔ (zI t 87 x.toInt.toNat % 10 = w % 10) := ⟨fun z => Int32.toInt_inj.1 (by rw [d87, dw, ← a1, z, hu]), fun z => Int32.toInt_inj.1 (by rw [a1, hu, ← d87, ← dw, z])⟩
    have u0 : (zS s p 0 = side) ↔ (zI t 87 x.toInt.toNat / 10 = w / 10) := ⟨fun z => Int32.toInt_inj.1 (by rw [v87, vw, ← a0, z, hs]), fun z => Int32.toInt_inj.1 (by rw [a0, hs, ← v87, ← vw, z])⟩
    have skip : (¬ (zI t 87 x.toInt.toNat % 10 = w % 10) ∨ k < zI t 88 x.toInt.toNat ∨ h < zI t 89 x.toInt.toNat ∨ (¬ (zI t 87 x.toInt.toNat / 10 = w / 10) ∧ hd = 0)) → Pc (vl (x + (-1)) fun v6 => (f_X11_latestText_L24 s side use h k hd n v6)) (fun r => Pc (f_X12_forceOf_L23_b t w h k hd (f_X12_forceOf_L23 t w h k hd m) x) (fun r' => r' = r ∧ (r = -2 ∨ (0 ≤ r.toInt ∧ r.toInt < (zS s 0 8).toInt)))) := fun hc => Pc_vl (Pc.mono ih' (fun r hr => frcM_s nc hr hc))
    have ret : zI t 87 x.toInt.toNat % 10 = w % 10 → ¬ k < zI t 88 x.toInt.toNat → ¬ h < zI t 89 x.toInt.toNat → (zI t 87 x.toInt.toNat / 10 = w / 10 ∨ ¬ hd = 0) → Pc (some x) (fun r => Pc (f_X12_forceOf_L23_b t w h k hd (f_X12_forceOf_L23 t w h k hd m) x) (fun r' => r' = r ∧ (r = -2 ∨ (0 ≤ r.toInt ∧ r.toInt < (zS s 0 8).toInt)))) := fun h1' h2 h3 h4 => Pc_some (frcM_r nc ⟨rfl, Or.inr ⟨by omega, h1⟩⟩ h1' h2 h3 h4)
    refine Pc_onS (Pc_if (fun c1 => ?_) (fun c1 => skip (Or.inl (fun y => c1 (u1.mpr y)))))
    rw [a2, a3]
    exact Pc_if (fun c2 => skip (Or.inr (Or.inl c2))) (fun c2 => Pc_if (fun c3 => skip (Or.inr (Or.inr (Or.inl c3)))) (fun c3 => Pc_if (fun z => Pc_if (fun c4 => ret (u1.mp c1) c2 c3 (Or.inl (u0.mp c4))) (fun c4 => skip (Or.inr (Or.inr (Or.inr ⟨fun y => c4 (u0.mpr y), z⟩))))) (fun z => ret (u1.mp c1) c2 c3 (Or.inr z))))
theorem frc_p {w side use h k : Int32} {hq : Int} (B : B1 s t) (Q : Q4w hq s t) (hw : 0 ≤ w.toInt ∧ w.toInt ≤ 12) (hs : side.toInt = w.toInt / 10) (hu : use.toInt = w.toInt % 10) : Pc (f_X11_latestText s side use h k) (fun r => Pc (f_X12_forceOf t w h k) (fun r' => r' = r ∧ (r = -2 ∨ (0 ≤ r.toInt ∧ r.toInt < (zS s 0 8).toInt)))) := by
  have b8 : 0 ≤ (zS s 0 8).toInt ∧ (zS s 0 8).toInt ≤ 16 := B.1.fx (q := 0) (k := 8) (by omega)
  have e8 : zS s 0 8 = zS t 59 38 := B.1.1.2.2.2.1
  have e1 : (zS s 0 8 - 1).toInt = (zS s 0 8).toInt - 1 := by rw [i32_sub (by rw [jl1]; omega) (by rw [jl1]; omega), jl1]
  have go : ∀ hd : Int32, Pc (f_X11_latestText_L24 s side use h k hd 4000 (zS s 0 8 - 1)) (fun r => Pc (f_X12_forceOf_L23 t w h k hd 4000 (zS s 0 8 - 1)) (fun r' => r' = r ∧ (r = -2 ∨ (0 ≤ r.toInt ∧ r.toInt < (zS s 0 8).toInt)))) := fun hd => frc_l B Q hw hs hu 4000 4000 _ (by rw [e1]; clear e1; omega) (by rw [e1]; clear e1; omega)
  unfold f_X11_latestText f_X12_forceOf
  rw [← e8]
  refine Pc_jn (Pc_if (fun c => Pc_vl (Pc.mono (go 0) (fun r hr => Pc_b1 (Pc.mono (fst_p B Q) (fun f hf => Pc_jn (Pc_ift (by rw [hf]; exact c) (Pc_vl hr))))))) (fun c => Pc_vl (Pc.mono (go 1) (fun r hr => Pc_b1 (Pc.mono (fst_p B Q) (fun f hf => Pc_jn (Pc_iff (by rw [hf]; exact c) (Pc_vl hr))))))))
end CTs
