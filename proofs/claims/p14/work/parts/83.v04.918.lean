/-! MEN EAT -/
theorem heldM (a lo hi : Int32) : f_X12_held a lo hi = some (if a < lo then lo else if hi < a then hi else a) := by
  unfold f_X12_held
  by_cases c : a < lo
  · rw [if_pos c, if_pos c]
  · rw [if_neg c, if_neg c]
    by_cases d : hi < a
    · rw [if_pos d, if_pos d]
    · rw [if_neg d, if_neg d]
theorem heldXM {a lo hi : Int32} (h : lo.toInt ≤ hi.toInt) : f_X11_held a lo hi = some (if a < lo then lo else if hi < a then hi else a) := by
  unfold f_X11_held
  rw [minJ, b1_some]
  by_cases g : a < hi
  · rw [if_pos g, maxJ, b1_some]
    rw [jlt] at g
    by_cases c : a < lo
    · rw [if_pos c]
      rw [jlt] at c
      rw [if_neg (by rw [jlt]; omega)]
    · rw [if_neg c]
      rw [jlt] at c
      rw [if_neg (show ¬ hi < a by rw [jlt]; omega)]
      by_cases e : lo < a
      · rw [if_pos e]
      · rw [if_neg e]
        rw [jlt] at e
        exact congrArg some (Int32.toInt_inj.1 (by omega))
  · rw [if_neg g, maxJ, b1_some]
    rw [jlt] at g
    by_cases c : a < lo
    · rw [if_pos c]
      rw [jlt] at c
      rw [if_neg (by rw [jlt]; omega)]
    · rw [if_neg c]
      have e : (if lo < hi then hi else lo) = hi := by
        by_cases e : lo < hi
        · rw [if_pos e]
        · rw [if_neg e]
          rw [jlt] at e
          exact Int32.toInt_inj.1 (by omega)
      rw [e]
      by_cases d : hi < a
      · rw [if_pos d]
      · rw [if_neg d]
        rw [jlt] at d
        exact congrArg some (Int32.toInt_inj.1 (by omega))
theorem minXM (a b : Int32) : (if b < a then b else a) = (if a < b then a else b) := by
  by_cases c : b < a
  · rw [if_pos c, if_neg (by rw [jlt] at c ⊢; omega)]
  · rw [if_neg c]
    by_cases d : a < b
    · rw [if_pos d]
    · rw [if_neg d]
      rw [jlt] at c d
      exact Int32.toInt_inj.1 (by omega)
section EAs
variable {s t s0 t0 : SS}
theorem Q4h.et {h : Int} {n : Nat} {a b v : Int32} (Q : Q4h h s t) (S : Sh s) (b3 : (zS s 15 3).toInt ≤ 120) : Q4h h (pI (pS (pS s 30 0 a) 30 1 b) 7 n v) (pI (pS (pS t 59 54 a) 59 55 b) 74 n v) := by
  obtain ⟨Q1, Q2, Q3, Q5, Q6, Q7, Q8, Q9, Q10, Q11, Q12, Q13, Q14⟩ := Q
  have dS : ∀ q k, 126 ≤ q → zS (pI (pS (pS s 30 0 a) 30 1 b) 7 n v) q k = zS s q k := fun q k hq => by rw [zS_pI, zS_pS, if_neg (by omega), zS_pS, if_neg (by omega)]
  have dI : ∀ q j, q ≠ 7 → zI (pI (pS (pS s 30 0 a) 30 1 b) 7 n v) q j = zI s q j := fun q j hq => by rw [zI_pI, if_neg (by omega)]; rfl
  have mI : ∀ q j, q ≠ 74 → zI (pI (pS (pS t 59 54 a) 59 55 b) 74 n v) q j = zI t q j := fun q j hq => by rw [zI_pI, if_neg (by omega)]; rfl
  refine ⟨Q1.c S dS (fun q j h => dI q j (by omega)) (fun _ => rfl) (fun q j h1 h2 => mI q j (by omega)), ⟨fun i hi => ?_, Q2.2⟩, Q3, Q5, ⟨rfl, rfl, Q6.2.2.1, Q6.2.2.2⟩, Q7, Q8.c (fun i hi => by rw [zS_pI, zS_pS, if_neg (by omega), zS_pS, if_neg (by omega)]) (fun _ => rfl), Q9, Q10, Q11.c S rfl dS (fun q j h => dI q j (by omega)) (fun _ => rfl) (fun q j h1 h2 => mI q j (by omega)), Q12.c S rfl dS (fun q j h => dI q j (by omega)) (fun _ => rfl) (fun _ _ => rfl) (fun q j h1 h2 => mI q j (by omega)), Q13, Q14⟩
  obtain ⟨m1, m2, m3, m4, m5⟩ := Q2.1 i hi
  refine ⟨?_, m2, m3, m4, m5⟩
  rw [zI_pI, zI_pI]
  by_cases z : i = n
  · rw [if_pos ⟨rfl, z⟩, if_pos ⟨rfl, z⟩]
  · rw [if_neg (fun w => z w.2), if_neg (fun w => z w.2)]
    exact m1
def ER (h : Int) (s0 t0 r u : SS) : Prop := Q4h h r u ∧ B1 r u ∧ Frm [(30, 0), (30, 1)] [7, 28, 29] [] s0 r ∧ Frm [(59, 54), (59, 55)] [74, 95, 96] [] t0 u
theorem bF30 : ∀ q k v, ([(30, 0), (30, 1)] : List (Nat × Nat)).contains (q, k) = true → bF q k v := by
  intro q k v h
  have : (q, k) = (30, 0) ∨ (q, k) = (30, 1) := by simpa using h
  rcases this with z | z <;> (cases z; exact trivial)
theorem eat_l {h : Int} {y1 : Int32} (hy : y1 = -2 ∨ (0 ≤ y1.toInt ∧ y1.toInt < (zS s0 0 8).toInt)) (hf : ∀ r', f_X12_forceOf t0 10 (zS t0 59 1) (zS t0 59 1) = some r' → r' = y1) : ∀ (n n' : Nat) (s t : SS) (x : Int32), 0 ≤ x.toInt → ER h s0 t0 s t → Pc (f_X11_menEat_L17 y1 n s x) (fun r => Pc (f_X12_eat_L2 n' t x) (fun u => ER h s0 t0 r u))
  | 0, _, _, _, _, _, _ => Pc_none
  | n + 1, 0, _, _, _, _, _ => fun _ _ => Pc_none
  | n + 1, n' + 1, s, t, x, hx, E => by
    obtain ⟨Q, B, F, G⟩ := id E
    have b := B.1.tot
    have S := B.1.sh
    show Pc (f_X11_menEat_L17_b y1 (f_X11_menEat_L17 y1 n) s x) (fun r => Pc (f_X12_eat_L2_b (f_X12_eat_L2 n') t x) _)
    unfold f_X11_menEat_L17_b f_X12_eat_L2_b
    by_cases c : x.toInt < (zS s 15 3).toInt
    case neg => exact Pc_iff (by rw [jlt]; exact c) (Pc_some (Pc_iff (by rw [jlt, ← b.1]; exact c) (Pc_some E)))
    have cm : x < zS t 59 4 := by rw [jlt, ← b.1]; exact c
    have n1 : (x + 1).toInt = x.toInt + 1 := by rw [i32_add (by rw [jl1]; omega) (by rw [jl1]; omega), jl1]
    obtain ⟨m1, m2, m3, m4, m5⟩ := Q.2.1.1 x.toInt.toNat (by omega)
    refine Pc_ift (by rw [jlt]; exact c) (Pc_gd (fun _ => Pc_jn ?_))
    rcases m4 with z | z
    · refine Pc_iff (by rw [z]; decide) (Pc_vl (Pc.mono (eat_l hy hf n n' s t _ (by omega) E) (fun r hr => Pc_ift cm (Pc_gd (fun _ => Pc_jn (Pc_ift (by rw [← m3]; exact z) (Pc_vl hr)))))))
    · have k7 := m5 z
      have e8 : zS s 0 8 = zS s0 0 8 := F.1 0 8 (by decide)
      have e59 : zS t 59 1 = zS t0 59 1 := G.1 59 1 (by decide)
      have fc : f_X12_forceOf t 10 (zS t 59 1) (zS t 59 1) = f_X12_forceOf t0 10 (zS t0 59 1) (zS t0 59 1) := by
        rw [e59]
        refine frc_c (G.1 59 4 (by decide)) (G.1 59 38 (by decide)) (fun i => G.2.1 69 i (by decide)) (fun q i h1 h2 => G.2.1 q i ?_)
        have : q = 87 ∨ q = 88 ∨ q = 89 := by omega
        rcases this with rfl | rfl | rfl <;> decide
      have gv := gv_p (w := 10) (use := 0) (man := x) (wo := 1) (r := y1) B Q.w rfl (Or.inr ⟨hx, c, k7.2⟩) (by rw [e8]; exact hy) (fun r' er => hf r' (fc.symm.trans er))
      have fx := v_X11_given (WS := []) (WI := [28, 29]) (WJ := []) (b := s) (s0 := s) (a0 := y1) (a1 := 0) (a2 := x) S (by decide) (by decide) Frm.rf
      refine Pc_ift z (Pc_bd (Pc.mono (gv.and fx) (fun x7 h7 => ?_)))
      obtain ⟨g7, f7⟩ := h7
      generalize x7.2 = s7 at f7 ⊢
      generalize x7.1 = r7 at g7 ⊢
      rw [heldXM (by decide)]
      generalize hr8 : (if r7 < 0 then (0 : Int32) else if (9 : Int32) < r7 then 9 else r7) = r8
      refine Pc_b1S (Pc_bd ?_)
      unfold f_X9_eats
      rw [minJ]
      refine Pc_b1S (Pc_vl (Pc_st (Pc_vl (Pc_st (Pc_some (Pc_gd (fun _ => ?_)))))))
      unfold f_X2_afterDay
      rw [heldXM (by decide)]
      refine Pc_b1 (Pc_b1S (Pc_some (Pc_gd (fun _ => Pc_st (Pc_vl ?_)))))
      -- what the next round begins with, whatever the reference's scratch is
      have nxt : ∀ s6, Frm [] [95, 96] [] t s6 → ∀ by_ : Int32, by_ = (if zS s7 30 0 < r8 then zS s7 30 0 else r8) → ER h s0 t0 (pI (pS (pS s7 30 0 (zS s7 30 0 - by_)) 30 1 (zS s7 30 1 + by_)) 7 x.toInt.toNat (if zI s7 7 x.toInt.toNat - 6 + 2 * by_ < 0 then 0 else if 999 < zI s7 7 x.toInt.toNat - 6 + 2 * by_ then 999 else zI s7 7 x.toInt.toNat - 6 + 2 * by_)) (pI (pS (pS s6 59 54 (zS s6 59 54 - by_)) 59 55 (zS s6 59 55 + by_)) 74 x.toInt.toNat (if zI s6 74 x.toInt.toNat - 6 + 2 * by_ < 0 then 0 else if 999 < zI s6 74 x.toInt.toNat - 6 + 2 * by_ then 999 else zI s6 74 x.toInt.toNat - 6 + 2 * by_)) := by
        intro s6 f6 by_ _
        have Q7 : Q4h h s7 s6 := Q.f S b.2.2 f7 f6 (by decide) (by decide) (by decide) (by decide) (by decide)
        have B7 : B1 s7 s6 := B.f f7 f6 (by decide) (by decide) (by decide) (by decide) (fun q k v hc => by cases hc)
        have e54 : zS s6 59 54 = zS s7 30 0 := Q7.2.2.2.2.1.1.symm
        have e55 : zS s6 59 55 = zS s7 30 1 := Q7.2.2.2.2.1.2.1.symm
        have e74 : zI s6 74 x.toInt.toNat = zI s7 7 x.toInt.toNat := (Q7.2.1.1 x.toInt.toNat (by omega)).1.symm
        rw [e54, e55, e74]
        have X : Frm [(30, 0), (30, 1)] [7, 28, 29] [] s7 (pI (pS (pS s7 30 0 (zS s7 30 0 - by_)) 30 1 (zS s7 30 1 + by_)) 7 x.toInt.toNat (if zI s7 7 x.toInt.toNat - 6 + 2 * by_ < 0 then 0 else if 999 < zI s7 7 x.toInt.toNat - 6 + 2 * by_ then 999 else zI s7 7 x.toInt.toNat - 6 + 2 * by_)) := ((Frm.rf.pS (by decide)).pS (by decide)).pI (by decide)
        have Y : Frm [(59, 54), (59, 55)] [74, 95, 96] [] s6 (pI (pS (pS s6 59 54 (zS s7 30 0 - by_)) 59 55 (zS s7 30 1 + by_)) 74 x.toInt.toNat (if zI s7 7 x.toInt.toNat - 6 + 2 * by_ < 0 then 0 else if 999 < zI s7 7 x.toInt.toNat - 6 + 2 * by_ then 999 else zI s7 7 x.toInt.toNat - 6 + 2 * by_)) := ((Frm.rf.pS (by decide)).pS (by decide)).pI (by decide)
        exact ⟨Q7.et B7.1.sh B7.1.tot.2.2, B7.f X Y (by decide) (by decide) (by decide) (by decide) bF30, (F.tr (f7.mo (by decide) (by decide) (by decide))).tr X, (G.tr (f6.mo (by decide) (by decide) (by decide))).tr Y⟩
      have cls : ∀ s6, Frm [] [95, 96] [] t s6 → Pc (f_X11_menEat_L17 y1 n (pI (pS (pS s7 30 0 (zS s7 30 0 - (if zS s7 30 0 < r8 then zS s7 30 0 else r8))) 30 1 (zS s7 30 1 + (if zS s7 30 0 < r8 then zS s7 30 0 else r8))) 7 x.toInt.toNat (if zI s7 7 x.toInt.toNat - 6 + 2 * (if zS s7 30 0 < r8 then zS s7 30 0 else r8) < 0 then 0 else if 999 < zI s7 7 x.toInt.toNat - 6 + 2 * (if zS s7 30 0 < r8 then zS s7 30 0 else r8) then 999 else zI s7 7 x.toInt.toNat - 6 + 2 * (if zS s7 30 0 < r8 then zS s7 30 0 else r8))) (x + 1)) (fun r => Pc (f_X12_eat_L2 n' (pI (pS (pS s6 59 54 (zS s6 59 54 - (if zS s7 30 0 < r8 then zS s7 30 0 else r8))) 59 55 (zS s6 59 55 + (if zS s7 30 0 < r8 then zS s7 30 0 else r8))) 74 x.toInt.toNat (if zI s6 74 x.toInt.toNat - 6 + 2 * (if zS s7 30 0 < r8 then zS s7 30 0 else r8) < 0 then 0 else if 999 < zI s6 74 x.toInt.toNat - 6 + 2 * (if zS s7 30 0 < r8 then zS s7 30 0 else r8) then 999 else zI s6 74 x.toInt.toNat - 6 + 2 * (if zS s7 30 0 < r8 then zS s7 30 0 else r8))) (x + 1)) (fun u => ER h s0 t0 r u)) := fun s6 f6 => eat_l hy hf n n' _ _ _ (by omega) (nxt s6 f6 _ rfl)
      intro r hr
      have mx := v_X12_saysNow (WS := []) (WI := [95, 96]) (WJ := []) (b := t) (s0 := t) (a0 := 10) (a1 := x) (a2 := 1) (by decide) (by decide) Frm.rf
      refine Pc_ift cm (Pc_gd (fun _ => Pc_jn (Pc_iff (by rw [← m3, z]; decide) (Pc_bd (Pc.mono (g7.and mx) (fun m6 h6 => ?_))))))
      obtain ⟨e6, f6⟩ := h6
      generalize m6.2 = s6 at f6 ⊢
      rw [e6, heldM, hr8]
      have e54 : zS s6 59 54 = zS s7 30 0 := by
        rw [f6.1 59 54 (by decide), f7.1 30 0 (by decide)]
        exact Q.2.2.2.2.1.1.symm
      have K := cls s6 f6 r hr
      refine Pc_b1S (Pc_jn ?_)
      have go : ∀ by_, by_ = (if zS s7 30 0 < r8 then zS s7 30 0 else r8) → Pc (vl (((zS s6 59 54) - by_)) fun v10 => (st (pS s6 59 54 v10) fun s11 => (vl (((zS s11 59 55) + by_)) fun v12 => (st (pS s11 59 55 v12) fun s13 => (gd (inB x 120) (b1 (f_X12_held (((zI s13 74 (x.toInt.toNat)) - (6 : Int32)) + ((2 : Int32) * by_)) (0 : Int32) (999 : Int32)) fun r15 => (gd (inB x 120) (st (pI s13 74 (x.toInt.toNat) r15) fun s17 => (vl (x + 1) fun v4 => (f_X12_eat_L2 n' s17 v4))))))))) ) (fun u => ER h s0 t0 r u) := by
        intro by_ eb
        refine Pc_vl (Pc_st (Pc_vl (Pc_st (Pc_gd (fun _ => ?_)))))
        rw [heldM, eb]
        exact Pc_b1S (Pc_gd (fun _ => Pc_st (Pc_vl K)))
      by_cases d : r8 < zS s6 59 54
      · refine Pc_ift d (go r8 ?_)
        rw [e54] at d
        rw [minXM, if_pos d]
      · refine Pc_iff d (go _ ?_)
        rw [e54] at d ⊢
        rw [minXM, if_neg d]
end EAs
