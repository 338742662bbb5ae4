/-! WHAT THE READERS ANSWER -/
section VLs
variable {s t : SS}
theorem hsp (B : B1 s t) (a : Int32) : hO s a = none ∨ ∃ n p, a.toInt = (n : Nat) ∧ n < 120 ∧ zR s 17 n = some p ∧ hO s a = some p ∧ (n : Int) < (zS s 15 3).toInt := by
  have b := B.1.tot
  unfold hO
  by_cases d : 0 ≤ a.toInt ∧ a.toInt < (zS s 15 3).toInt
  · rw [if_pos d]
    cases hp : zR s 17 a.toInt.toNat with
    | none => exact Or.inl rfl
    | some p => exact Or.inr ⟨a.toInt.toNat, p, by omega, by omega, hp, rfl, by omega⟩
  · rw [if_neg d]
    exact Or.inl rfl
theorem snn {p : Nat} : ¬ (some p : Option Nat) = none := fun z => by cases z
theorem V_below (Q : Q4 s t) (a0 : Int32) : Pc (f_X11_below s a0) fun x => Pc (f_X12_below t a0) fun m => x = m := by
  have j9 : (9 : Int32).toInt = 9 := rfl
  unfold f_X11_below f_X12_below
  by_cases c : 0 ≤ a0.toInt ∧ a0.toInt ≤ 9
  · rw [in_t (by rw [jl0, j9]; exact c)]
    exact Pc_iff (by rw [jlt, jl0]; omega) (Pc_iff (by rw [jlt, j9]; omega) (Pc_if (fun z => Pc_some (Pc_b1S (Pc_if10 (Pc_ift z (Pc_some Q.2.2.2.2.1.1))))) (fun z => Pc_gd (fun _ => Pc_some (Pc_b1S (Pc_if10 (Pc_iff z (Pc_gd (fun _ => Pc_some (Q.2.2.2.2.1.2.2.2.1 _))))))))))
  · rw [in_f (by rw [jl0, j9]; exact c)]
    refine Pc_lt (fun _ => Pc_some (Pc_b1S (Pc_if00 (Pc_some rfl)))) (fun z => Pc_lt (fun _ => Pc_some (Pc_b1S (Pc_if00 (Pc_some rfl)))) (fun w => ?_))
    rw [jl0] at z
    rw [j9] at w
    exact absurd ⟨z, w⟩ c
theorem V_up (B : B1 s t) (Q : Q4 s t) (a0 a1 : Int32) : Pc (f_X11_up s a0 a1) fun x => Pc (f_X12_up t a0 a1) fun m => x = m := by
  have h10 : (zS s 6 10).toInt ≤ 120 := (B.1.fx (q := 6) (k := 10) (by omega) : 0 ≤ (zS s 6 10).toInt ∧ (zS s 6 10).toInt ≤ 120).2
  unfold f_X11_up f_X12_up
  have M0 : ∀ K : Option Int32, ¬ ((0 : Int32).toInt ≤ a0.toInt ∧ a0.toInt ≤ (zS t 59 82 - 1).toInt) → Pc (b1 (f_X12_in a0 0 (zS t 59 82 - 1)) fun r1 => if r1 = 0 then some (-1) else K) (fun m => (-1 : Int32) = m) := fun K h => by
    rw [in_f h]
    exact Pc_b1S (Pc_if00 (Pc_some rfl))
  rcases Q.2.2.2.2.2.2.2.1 with ⟨l1, l2⟩ | ⟨l1, l2, l3, l4, l5, l6⟩
  · have e : (zS t 59 82 - 1).toInt = -2 := by rw [l2]; rfl
    refine Pc_lt (fun z => Pc_some (M0 _ (by rw [jl0] at z ⊢; omega))) (fun z => Pc_lt (fun w => ?_) (fun w => Pc_some (M0 _ (by rw [e, jl0]; omega))))
    rw [l1, jl0] at w
    rw [jl0] at z
    omega
  · have e : (zS t 59 82 - 1).toInt = (zS s 6 10).toInt - 1 := by rw [← l2, i32_sub (by rw [jl1]; omega) (by rw [jl1]; omega), jl1]
    refine Pc_lt (fun z => Pc_some (M0 _ (by rw [jl0] at z ⊢; omega))) (fun z => Pc_lt (fun w => ?_) (fun w => Pc_some (M0 _ (by rw [e]; omega))))
    rw [jl0] at z
    rw [in_t (a := a0) (by rw [jl0, e]; omega)]
    by_cases c : 0 ≤ a1.toInt ∧ a1.toInt ≤ 1
    · rw [in_t (a := a1) (by rw [jl0, jl1]; exact c)]
      obtain ⟨m1, m2⟩ := l6 a0.toInt.toNat (by omega) (by omega)
      refine Pc_iff (by rw [jlt, jl0]; omega) (Pc_iff (by rw [jlt, jl1]; omega) (Pc_if (fun y => Pc_gd (fun _ => Pc_some (Pc_b1S (Pc_if10 (Pc_b1S (Pc_if10 (Pc_ift y (Pc_gd (fun _ => Pc_some m1))))))))) (fun y => ?_)))
      unfold f_X2_upAt
      refine Pc_b1S (Pc_some (Pc_b1S (Pc_if10 (Pc_b1S (Pc_if10 (Pc_iff y (Pc_gd (fun _ => Pc_some (Int32.toInt_inj.1 ?_)))))))))
      have n1 : (a0 + 1).toInt = a0.toInt + 1 := by rw [i32_add (by rw [jl1]; omega) (by rw [jl1]; omega), jl1]
      have pb : 0 ≤ (a0.toInt + 1) * (zS s 6 12).toInt ∧ (a0.toInt + 1) * (zS s 6 12).toInt ≤ 480 := by
        have h12 : (zS s 6 12).toInt = 1 ∨ (zS s 6 12).toInt = 2 ∨ (zS s 6 12).toInt = 3 ∨ (zS s 6 12).toInt = 4 := by omega
        rcases h12 with w | w | w | w <;> rw [w] <;> omega
      have mu : ((a0 + 1) * zS s 6 12).toInt = (a0.toInt + 1) * (zS s 6 12).toInt := by rw [i32_mul (by rw [n1]; omega) (by rw [n1]; omega), n1]
      rw [i32_add (by rw [mu]; omega) (by rw [mu]; omega), mu, m2, show ((a0.toInt.toNat : Nat) : Int) = a0.toInt by omega]
    · rw [in_f (a := a1) (by rw [jl0, jl1]; exact c)]
      refine Pc_lt (fun _ => Pc_some (Pc_b1S (Pc_if10 (Pc_b1S (Pc_if00 (Pc_some rfl)))))) (fun y => Pc_lt (fun _ => Pc_some (Pc_b1S (Pc_if10 (Pc_b1S (Pc_if00 (Pc_some rfl)))))) (fun x => ?_))
      rw [jl0] at y
      rw [jl1] at x
      exact absurd ⟨y, x⟩ c
theorem V_met (B : B1 s t) (Q : Q4 s t) (a0 a1 : Int32) : Pc (f_X11_met s a0 a1) fun x => Pc (f_X12_met t a0 a1) fun m => x = m := by
  unfold f_X11_met f_X12_met
  rw [holeOfX B, isHoleO B]
  rcases hsp B a0 with c | ⟨n, p, ha, hn, hp, ho, hl⟩
  · rw [c, if_pos rfl]
    exact Pc_b1S (Pc_onN (Pc_some (Pc_b1S (Pc_if00 (Pc_some rfl)))))
  · rw [ho, if_neg snn]
    obtain ⟨x0, x1, x2, x3, x4, x5, x6, x7, x8⟩ := Q.1.1 n p hn hp
    have en : a0.toInt.toNat = n := by omega
    have b4 := B.1.h4 (B.1.sh.2.2.1 _ _ hn hp)
    rw [en, ← x4]
    refine Pc_b1S (Pc_onS ?_)
    by_cases c : 1 ≤ a1.toInt ∧ a1.toInt ≤ (zS s p 4).toInt
    · rw [in_t (a := a1) (by rw [jl1]; exact c)]
      refine Pc_iff (by rw [jlt, jl1]; omega) (Pc_iff (by rw [jlt]; omega) (Pc_gd (fun _ => Pc_some (Pc_b1S (Pc_if10 (Pc_gd (fun _ => Pc_b1S (Pc_if10 (Pc_vl (Pc_gd (fun _ => Pc_some ?_)))))))))))
      have e : ((61 : Int32) * a0 + a1).toInt.toNat = 61 * n + a1.toInt.toNat := by rw [ix61 ha hn (by omega)]; omega
      rw [e]
      exact (x8 a1.toInt.toNat (by omega) (by omega)).2.1
    · rw [in_f (a := a1) (by rw [jl1]; exact c)]
      refine Pc_lt (fun _ => Pc_some (Pc_b1S (Pc_if10 (Pc_gd (fun _ => Pc_b1S (Pc_if00 (Pc_some rfl))))))) (fun z => Pc_lt (fun _ => Pc_some (Pc_b1S (Pc_if10 (Pc_gd (fun _ => Pc_b1S (Pc_if00 (Pc_some rfl))))))) (fun w => ?_))
      rw [jl1] at z
      exact absurd ⟨z, w⟩ c
theorem hourXM (a : Int32) : f_X11_isHour a = f_X12_isHour a := by
  unfold f_X11_isHour f_X12_isHour
  by_cases c : 0 ≤ a.toInt ∧ a.toInt ≤ 1699
  · rw [in_t (by rw [jl0, jl1699]; exact c), if_neg (by rw [jlt, jl0]; omega), if_neg (by rw [jlt, jl1699]; omega), b1_some]
  · rw [in_f (by rw [jl0, jl1699]; exact c), b1_some]
    by_cases d : a < 0
    · rw [if_pos d]
    · rw [if_neg d, if_pos (by rw [jlt, jl1699]; rw [jlt, jl0] at d; omega)]
theorem V_inForce (B : B1 s t) (Q : Q4 s t) (a0 a1 a2 : Int32) : Pc (f_X11_inForce s a0 a1 a2) fun x => Pc (f_X12_inForce t a0 a1 a2) fun m => x = m := by
  unfold f_X11_inForce f_X12_inForce
  rw [hourXM, hourXM]
  rcases ord_l (a := a0) with ⟨o1, o2⟩ | ⟨o1, o2⟩
  · rw [o1, o2]
    obtain ⟨o3, o4, o5⟩ := ord_b o1
    refine Pc_b1S (Pc_if10 (Pc_b1 (fun r3 e3 => ?_)))
    rw [e3]
    refine Pc_if (fun z => Pc_some (Pc_b1S (Pc_if10 (Pc_b1S (Pc_ift z (Pc_some rfl)))))) (fun z => Pc_b1 (fun r5 e5 => ?_))
    rw [e5]
    refine Pc_if (fun y => Pc_some (Pc_b1S (Pc_if10 (Pc_b1S (Pc_iff z (Pc_b1S (Pc_ift y (Pc_some rfl)))))))) (fun y => Pc_b1 ?_)
    refine Pc.mono (frc_p (w := a0) B (Q4h.w Q) ⟨o3, o4⟩ (by rw [jd10, if_pos o3]) (by rw [jm10, if_pos o3])) (fun r hr => Pc_some ?_)
    exact Pc_b1S (Pc_if10 (Pc_b1S (Pc_iff z (Pc_b1S (Pc_iff y (Pc_b1 (Pc.mono hr (fun r' h => Pc_some h.1.symm))))))))
  · rw [o1, o2]
    exact Pc_b1S (Pc_if00 (Pc_some (Pc_b1S (Pc_if00 (Pc_some rfl)))))
theorem manMM (B : B1 s t) (a : Int32) : f_X12_isMan t a = some (if (0 ≤ a.toInt ∧ a.toInt < (zS s 15 3).toInt) ∧ zI s 16 a.toInt.toNat = 7 then 1 else 0) := by
  have b := B.1.tot
  unfold f_X12_isMan
  rw [bodyM B]
  by_cases c : 0 ≤ a.toInt ∧ a.toInt < (zS s 15 3).toInt
  · rw [if_pos c, b1_some, if_neg n10, gd_t ⟨c.1, by omega⟩, ← B.1.kd]
    by_cases d : zI s 16 a.toInt.toNat = 7
    · rw [if_pos d, if_pos ⟨c, d⟩]
    · rw [if_neg d, if_neg (fun z => d z.2)]
  · rw [if_neg c, b1_some, if_pos rfl, if_neg (fun z => c z.1)]
theorem V_says (J : Iv t) (B : B1 s t) (Q : Q4 s t) (a0 a1 : Int32) : Pc (f_X11_says s a0 a1) fun x => Pc (f_X12_says t a0 a1) fun m => x.1 = m.1 := by
  unfold f_X11_says f_X12_says
  rcases ord_l (a := a0) with ⟨o1, o2⟩ | ⟨o1, o2⟩
  · rw [o1, o2]
    obtain ⟨o3, o4, o5⟩ := ord_b o1
    have em : (a0 % 10).toInt = a0.toInt % 10 := by rw [jm10, if_pos o3]
    refine Pc_b1S (Pc_if10 (Pc_vl ?_))
    -- what is said, where it may be asked
    have key : (a1.toInt < 0 ∨ (0 ≤ a1.toInt ∧ a1.toInt < (zS s 15 3).toInt ∧ zI s 16 a1.toInt.toNat = 7)) → ∀ K : Option (Int32 × SS) → Option (Int32 × SS), (∀ k R, Pc k R → Pc (K k) R) → Pc (b1 (f_X11_latestText s (a0 / 10) (a0 % 10) (zS s 0 14) (zS s 0 14)) fun r5 => (bd (f_X11_given s r5 (a0 % 10) a1) fun r6 s6 => some (r6, s6))) (fun x => Pc (b1 (some (1 : Int32)) fun r1 => (if r1 = (0 : Int32) then some ((-2000000000), t) else (jn ((jn (fun (t4_0 : Int32) => (bd (f_X12_saysNow t a0 a1 t4_0) fun r5 s5 => some (r5, s5))) fun k4 => (if (a0 % (10 : Int32)) = (0 : Int32) then (k4 1) else (k4 0)))) fun k3 => K k3))) (fun m => x.1 = m.1)) := by
      intro hm K hK
      refine Pc_b1 (fun r5 e5 => Pc_bd ?_)
      obtain ⟨r', ef, -⟩ := w_X12_forceOf (a0 := a0) (a1 := zS s 0 14) (a2 := zS s 0 14) (Lk.rf J)
      obtain ⟨g1, g2⟩ := frc_p (w := a0) B (Q4h.w Q) ⟨o3, o4⟩ (by rw [jd10, if_pos o3]) em r5 e5 r' ef
      refine Pc.mono (gv_p (w := a0) (wo := if a0 % 10 = 0 then 1 else 0) B (Q4h.w Q) rfl hm g2 (fun r'' er => by rw [← B.2.1.1, ef] at er; exact (Option.some.inj er).symm.trans g1)) (fun x hx => Pc_some (Pc_b1S (Pc_if10 (Pc_jn (hK _ _ (Pc_jn ?_))))))
      by_cases z : a0 % 10 = 0
      · rw [if_pos z] at hx
        exact Pc_ift z (Pc_bd (Pc.mono hx (fun m hm => Pc_some hm.symm)))
      · rw [if_neg z] at hx
        exact Pc_iff z (Pc_bd (Pc.mono hx (fun m hm => Pc_some hm.symm)))
    rw [manMM B]
    refine Pc_jn (Pc_if (fun z2 => Pc_if (fun z1 => ?_) (fun z1 => Pc_some (Pc_b1S (Pc_if10 (Pc_jn (Pc_ift z2 (Pc_iff z1 (Pc_some rfl)))))))) (fun z2 => ?_))
    · exact key (Or.inl (by rw [z1]; decide)) (fun k3 => if a0 % 10 = 2 then (if a1 = -1 then k3 else some (-2000000000, t)) else b1 (some (if (0 ≤ a1.toInt ∧ a1.toInt < (zS s 15 3).toInt) ∧ zI s 16 a1.toInt.toNat = 7 then (1 : Int32) else 0)) fun r8 => if r8 = 0 then some (-2000000000, t) else k3) (fun k R hk => Pc_ift z2 (Pc_ift z1 hk))
    · by_cases d : 0 ≤ a1.toInt ∧ a1.toInt < (zS s 15 3).toInt
      · rw [kindX B d]
        refine Pc_b1S (Pc_if (fun z7 => ?_) (fun z7 => ?_))
        · exact key (Or.inr ⟨d.1, d.2, z7⟩) (fun k3 => if a0 % 10 = 2 then (if a1 = -1 then k3 else some (-2000000000, t)) else b1 (some (if (0 ≤ a1.toInt ∧ a1.toInt < (zS s 15 3).toInt) ∧ zI s 16 a1.toInt.toNat = 7 then (1 : Int32) else 0)) fun r8 => if r8 = 0 then some (-2000000000, t) else k3) (fun k R hk => by
            refine Pc_iff z2 ?_
            rw [if_pos ⟨d, z7⟩]
            exact Pc_b1S (Pc_if10 hk))
        · rw [if_neg (fun z => z7 z.2)]
          exact Pc_some (Pc_b1S (Pc_if10 (Pc_jn (Pc_iff z2 (Pc_b1S (Pc_if00 (Pc_some rfl)))))))
      · rw [kindXf d, if_neg (fun z => d z.1)]
        exact Pc_b1S (Pc_iff (by decide) (Pc_some (Pc_b1S (Pc_if10 (Pc_jn (Pc_iff z2 (Pc_b1S (Pc_if00 (Pc_some rfl)))))))))
  · rw [o1, o2]
    exact Pc_b1S (Pc_if00 (Pc_some (Pc_b1S (Pc_if00 (Pc_some rfl)))))
theorem V_ofBody (I : Iv s) (B : B1 s t) (Q : Q4 s t) (h9 : zS t 59 25 = 0 ∨ zS t 59 25 = 1) (a0 a1 : Int32) : Pc (f_X11_ofBody s a0 a1) fun x => Pc (f_X12_ofBody t a0 a1) fun m => x = m := by
  have b := B.1.tot
  unfold f_X11_ofBody f_X12_ofBody
  rw [holeOfX B, isHoleO B, bodyM B]
  by_cases d : 0 ≤ a0.toInt ∧ a0.toInt < (zS s 15 3).toInt
  · rw [kindX B d, if_pos d]
    have hn : a0.toInt.toNat < 120 := by omega
    have ek : zI s 16 a0.toInt.toNat = zI t 62 a0.toInt.toNat := B.1.kd _
    have k7 : 0 ≤ (zI s 16 a0.toInt.toNat).toInt ∧ (zI s 16 a0.toInt.toNat).toInt ≤ 7 := I.1.a (q := 16) rfl
    rw [← ek]
    refine Pc_b1S (Pc_iff (by rw [jlt, jl0]; omega) ?_)
    by_cases z : a1 = 0
    · exact Pc_ift z (Pc_some (Pc_b1S (Pc_if10 (Pc_ift z (Pc_gd (fun _ => Pc_some rfl))))))
    refine Pc_iff z (Pc_b1S ?_)
    rcases hsp B a0 with c | ⟨n, p, ha, hn', hp, ho, hl⟩
    · rw [c, if_pos rfl]
      refine Pc_onN ?_
      by_cases k6 : zI s 16 a0.toInt.toNat = 6
      · obtain ⟨r1, r2, r3, r4, _⟩ := Q.2.2.2.2.2.1
        unfold f_X0_ofRefuge
        by_cases y1 : a1 = 1
        · subst y1
          repeat' (first
            | with_reducible refine Pc_bdS ?_
            | with_reducible refine Pc_b1S ?_
            | with_reducible refine Pc_onS ?_
            | with_reducible refine Pc_onN ?_
            | with_reducible refine Pc_ift (by assumption) ?_
            | with_reducible refine Pc_iff (by assumption) ?_
            | with_reducible refine Pc_ift (by decide) ?_
            | with_reducible refine Pc_iff (by decide) ?_
            | with_reducible refine Pc_gd (fun _ => ?_)
            | with_reducible refine Pc_vl ?_
            | with_reducible refine Pc_b1 ?_
            | with_reducible refine Pc_some ?_)
          exact r1
        by_cases y2 : a1 = 2
        · subst y2
          repeat' (first
            | with_reducible refine Pc_bdS ?_
            | with_reducible refine Pc_b1S ?_
            | with_reducible refine Pc_onS ?_
            | with_reducible refine Pc_onN ?_
            | with_reducible refine Pc_ift (by assumption) ?_
            | with_reducible refine Pc_iff (by assumption) ?_
            | with_reducible refine Pc_ift (by decide) ?_
            | with_reducible refine Pc_iff (by decide) ?_
            | with_reducible refine Pc_gd (fun _ => ?_)
            | with_reducible refine Pc_vl ?_
            | with_reducible refine Pc_b1 ?_
            | with_reducible refine Pc_some ?_)
          exact r2
        by_cases y3 : a1 = 3
        · subst y3
          repeat' (first
            | with_reducible refine Pc_bdS ?_
            | with_reducible refine Pc_b1S ?_
            | with_reducible refine Pc_onS ?_
            | with_reducible refine Pc_onN ?_
            | with_reducible refine Pc_ift (by assumption) ?_
            | with_reducible refine Pc_iff (by assumption) ?_
            | with_reducible refine Pc_ift (by decide) ?_
            | with_reducible refine Pc_iff (by decide) ?_
            | with_reducible refine Pc_gd (fun _ => ?_)
            | with_reducible refine Pc_vl ?_
            | with_reducible refine Pc_b1 ?_
            | with_reducible refine Pc_some ?_)
          exact r3
        by_cases y4 : a1 = 4
        · subst y4
          rcases h9 with w | w
          · rw [w] at r4 ⊢
            repeat' (first
              | with_reducible refine Pc_bdS ?_
              | with_reducible refine Pc_b1S ?_
              | with_reducible refine Pc_onS ?_
              | with_reducible refine Pc_onN ?_
              | with_reducible refine Pc_ift (by assumption) ?_
              | with_reducible refine Pc_iff (by assumption) ?_
              | with_reducible refine Pc_ift (by decide) ?_
              | with_reducible refine Pc_iff (by decide) ?_
              | with_reducible refine Pc_gd (fun _ => ?_)
              | with_reducible refine Pc_vl ?_
              | with_reducible refine Pc_b1 ?_
              | with_reducible refine Pc_some ?_)
            exact r4
          · rw [w] at r4 ⊢
            repeat' (first
              | with_reducible refine Pc_bdS ?_
              | with_reducible refine Pc_b1S ?_
              | with_reducible refine Pc_onS ?_
              | with_reducible refine Pc_onN ?_
              | with_reducible refine Pc_ift (by assumption) ?_
              | with_reducible refine Pc_iff (by assumption) ?_
              | with_reducible refine Pc_ift (by decide) ?_
              | with_reducible refine Pc_iff (by decide) ?_
              | with_reducible refine Pc_gd (fun _ => ?_)
              | with_reducible refine Pc_vl ?_
              | with_reducible refine Pc_b1 ?_
              | with_reducible refine Pc_some ?_)
            exact r4
        repeat' (first
          | with_reducible refine Pc_bdS ?_
          | with_reducible refine Pc_b1S ?_
          | with_reducible refine Pc_onS ?_
          | with_reducible refine Pc_onN ?_
          | with_reducible refine Pc_ift (by assumption) ?_
          | with_reducible refine Pc_iff (by assumption) ?_
          | with_reducible refine Pc_ift (by decide) ?_
          | with_reducible refine Pc_iff (by decide) ?_
          | with_reducible refine Pc_gd (fun _ => ?_)
          | with_reducible refine Pc_vl ?_
          | with_reducible refine Pc_b1 ?_
          | with_reducible refine Pc_some ?_)
        exact rfl
      · by_cases k7 : zI s 16 a0.toInt.toNat = 7
        · obtain ⟨m1, m2, m3, m4, _⟩ := Q.2.1.1 _ hn
          have m9 : zI s 9 a0.toInt.toNat = zI t 76 a0.toInt.toNat := B.1.2.2.1 _
          have j120 : (120 : Int32).toInt = 120 := rfl
          have lt0 : ¬ a0 < 0 := by rw [jlt, jl0]; omega
          have lt1 : a0 < 120 := by rw [jlt, j120]; omega
          unfold f_X2_ofMan
          by_cases y1 : a1 = 1
          · subst y1
            repeat' (first
              | with_reducible refine Pc_bdS ?_
              | with_reducible refine Pc_b1S ?_
              | with_reducible refine Pc_onS ?_
              | with_reducible refine Pc_onN ?_
              | with_reducible refine Pc_ift (by assumption) ?_
              | with_reducible refine Pc_iff (by assumption) ?_
              | with_reducible refine Pc_ift (by decide) ?_
              | with_reducible refine Pc_iff (by decide) ?_
              | with_reducible refine Pc_gd (fun _ => ?_)
              | with_reducible refine Pc_vl ?_
              | with_reducible refine Pc_b1 ?_
              | with_reducible refine Pc_some ?_)
            exact m1
          by_cases y2 : a1 = 2
          · subst y2
            repeat' (first
              | with_reducible refine Pc_bdS ?_
              | with_reducible refine Pc_b1S ?_
              | with_reducible refine Pc_onS ?_
              | with_reducible refine Pc_onN ?_
              | with_reducible refine Pc_ift (by assumption) ?_
              | with_reducible refine Pc_iff (by assumption) ?_
              | with_reducible refine Pc_ift (by decide) ?_
              | with_reducible refine Pc_iff (by decide) ?_
              | with_reducible refine Pc_gd (fun _ => ?_)
              | with_reducible refine Pc_vl ?_
              | with_reducible refine Pc_b1 ?_
              | with_reducible refine Pc_some ?_)
            exact m2
          by_cases y3 : a1 = 3
          · subst y3
            repeat' (first
              | with_reducible refine Pc_bdS ?_
              | with_reducible refine Pc_b1S ?_
              | with_reducible refine Pc_onS ?_
              | with_reducible refine Pc_onN ?_
              | with_reducible refine Pc_ift (by assumption) ?_
              | with_reducible refine Pc_iff (by assumption) ?_
              | with_reducible refine Pc_ift (by decide) ?_
              | with_reducible refine Pc_iff (by decide) ?_
              | with_reducible refine Pc_gd (fun _ => ?_)
              | with_reducible refine Pc_vl ?_
              | with_reducible refine Pc_b1 ?_
              | with_reducible refine Pc_some ?_)
            exact m9
          by_cases y4 : a1 = 4
          · subst y4
            rw [← m3]
            rcases m4 with w | w
            · rw [w]
              repeat' (first
                | with_reducible refine Pc_bdS ?_
                | with_reducible refine Pc_b1S ?_
                | with_reducible refine Pc_onS ?_
                | with_reducible refine Pc_onN ?_
                | with_reducible refine Pc_ift (by assumption) ?_
                | with_reducible refine Pc_iff (by assumption) ?_
                | with_reducible refine Pc_ift (by decide) ?_
                | with_reducible refine Pc_iff (by decide) ?_
                | with_reducible refine Pc_gd (fun _ => ?_)
                | with_reducible refine Pc_vl ?_
                | with_reducible refine Pc_b1 ?_
                | with_reducible refine Pc_some ?_)
              exact rfl
            · rw [w]
              repeat' (first
                | with_reducible refine Pc_bdS ?_
                | with_reducible refine Pc_b1S ?_
                | with_reducible refine Pc_onS ?_
                | with_reducible refine Pc_onN ?_
                | with_reducible refine Pc_ift (by assumption) ?_
                | with_reducible refine Pc_iff (by assumption) ?_
                | with_reducible refine Pc_ift (by decide) ?_
                | with_reducible refine Pc_iff (by decide) ?_
                | with_reducible refine Pc_gd (fun _ => ?_)
                | with_reducible refine Pc_vl ?_
                | with_reducible refine Pc_b1 ?_
                | with_reducible refine Pc_some ?_)
              exact rfl
          repeat' (first
            | with_reducible refine Pc_bdS ?_
            | with_reducible refine Pc_b1S ?_
            | with_reducible refine Pc_onS ?_
            | with_reducible refine Pc_onN ?_
            | with_reducible refine Pc_ift (by assumption) ?_
            | with_reducible refine Pc_iff (by assumption) ?_
            | with_reducible refine Pc_ift (by decide) ?_
            | with_reducible refine Pc_iff (by decide) ?_
            | with_reducible refine Pc_gd (fun _ => ?_)
            | with_reducible refine Pc_vl ?_
            | with_reducible refine Pc_b1 ?_
            | with_reducible refine Pc_some ?_)
          exact rfl
        · skip
          repeat' (first
            | with_reducible refine Pc_bdS ?_
            | with_reducible refine Pc_b1S ?_
            | with_reducible refine Pc_onS ?_
            | with_reducible refine Pc_onN ?_
            | with_reducible refine Pc_ift (by assumption) ?_
            | with_reducible refine Pc_iff (by assumption) ?_
            | with_reducible refine Pc_ift (by decide) ?_
            | with_reducible refine Pc_iff (by decide) ?_
            | with_reducible refine Pc_gd (fun _ => ?_)
            | with_reducible refine Pc_vl ?_
            | with_reducible refine Pc_b1 ?_
            | with_reducible refine Pc_some ?_)
          exact rfl
    · rw [ho, if_neg snn]
      have en : a0.toInt.toNat = n := by omega
      obtain ⟨x0, x1, x2, x3, x4, x5, x6, x7, x8⟩ := Q.1.1 n p hn' hp
      rw [en]
      refine Pc_onS ?_
      unfold f_X3_told
      by_cases y1 : a1 = 1
      · subst y1
        repeat' (first
          | with_reducible refine Pc_bdS ?_
          | with_reducible refine Pc_b1S ?_
          | with_reducible refine Pc_onS ?_
          | with_reducible refine Pc_onN ?_
          | with_reducible refine Pc_ift (by assumption) ?_
          | with_reducible refine Pc_iff (by assumption) ?_
          | with_reducible refine Pc_ift (by decide) ?_
          | with_reducible refine Pc_iff (by decide) ?_
          | with_reducible refine Pc_gd (fun _ => ?_)
          | with_reducible refine Pc_vl ?_
          | with_reducible refine Pc_b1 ?_
          | with_reducible refine Pc_some ?_)
        exact x0
      by_cases y2 : a1 = 2
      · subst y2
        repeat' (first
          | with_reducible refine Pc_bdS ?_
          | with_reducible refine Pc_b1S ?_
          | with_reducible refine Pc_onS ?_
          | with_reducible refine Pc_onN ?_
          | with_reducible refine Pc_ift (by assumption) ?_
          | with_reducible refine Pc_iff (by assumption) ?_
          | with_reducible refine Pc_ift (by decide) ?_
          | with_reducible refine Pc_iff (by decide) ?_
          | with_reducible refine Pc_gd (fun _ => ?_)
          | with_reducible refine Pc_vl ?_
          | with_reducible refine Pc_b1 ?_
          | with_reducible refine Pc_some ?_)
        exact x1
      by_cases y3 : a1 = 3
      · subst y3
        repeat' (first
          | with_reducible refine Pc_bdS ?_
          | with_reducible refine Pc_b1S ?_
          | with_reducible refine Pc_onS ?_
          | with_reducible refine Pc_onN ?_
          | with_reducible refine Pc_ift (by assumption) ?_
          | with_reducible refine Pc_iff (by assumption) ?_
          | with_reducible refine Pc_ift (by decide) ?_
          | with_reducible refine Pc_iff (by decide) ?_
          | with_reducible refine Pc_gd (fun _ => ?_)
          | with_reducible refine Pc_vl ?_
          | with_reducible refine Pc_b1 ?_
          | with_reducible refine Pc_some ?_)
        exact x4
      by_cases y4 : a1 = 4
      · subst y4
        repeat' (first
          | with_reducible refine Pc_bdS ?_
          | with_reducible refine Pc_b1S ?_
          | with_reducible refine Pc_onS ?_
          | with_reducible refine Pc_onN ?_
          | with_reducible refine Pc_ift (by assumption) ?_
          | with_reducible refine Pc_iff (by assumption) ?_
          | with_reducible refine Pc_ift (by decide) ?_
          | with_reducible refine Pc_iff (by decide) ?_
          | with_reducible refine Pc_gd (fun _ => ?_)
          | with_reducible refine Pc_vl ?_
          | with_reducible refine Pc_b1 ?_
          | with_reducible refine Pc_some ?_)
        exact x2
      by_cases y5 : a1 = 5
      · subst y5
        rw [x6]
        by_cases th : 0 < (zI t 69 n).toInt
        · have th' : (0 : Int32) < zI t 69 n := by rw [jlt, jl0]; exact th
          rw [if_pos th]
          repeat' (first
            | with_reducible refine Pc_bdS ?_
            | with_reducible refine Pc_b1S ?_
            | with_reducible refine Pc_onS ?_
            | with_reducible refine Pc_onN ?_
            | with_reducible refine Pc_ift (by assumption) ?_
            | with_reducible refine Pc_iff (by assumption) ?_
            | with_reducible refine Pc_ift (by decide) ?_
            | with_reducible refine Pc_iff (by decide) ?_
            | with_reducible refine Pc_gd (fun _ => ?_)
            | with_reducible refine Pc_vl ?_
            | with_reducible refine Pc_b1 ?_
            | with_reducible refine Pc_some ?_)
          exact rfl
        · have th' : ¬ (0 : Int32) < zI t 69 n := by rw [jlt, jl0]; exact th
          rw [if_neg th]
          repeat' (first
            | with_reducible refine Pc_bdS ?_
            | with_reducible refine Pc_b1S ?_
            | with_reducible refine Pc_onS ?_
            | with_reducible refine Pc_onN ?_
            | with_reducible refine Pc_ift (by assumption) ?_
            | with_reducible refine Pc_iff (by assumption) ?_
            | with_reducible refine Pc_ift (by decide) ?_
            | with_reducible refine Pc_iff (by decide) ?_
            | with_reducible refine Pc_gd (fun _ => ?_)
            | with_reducible refine Pc_vl ?_
            | with_reducible refine Pc_b1 ?_
            | with_reducible refine Pc_some ?_)
          exact rfl
      by_cases y6 : a1 = 6
      · subst y6
        repeat' (first
          | with_reducible refine Pc_bdS ?_
          | with_reducible refine Pc_b1S ?_
          | with_reducible refine Pc_onS ?_
          | with_reducible refine Pc_onN ?_
          | with_reducible refine Pc_ift (by assumption) ?_
          | with_reducible refine Pc_iff (by assumption) ?_
          | with_reducible refine Pc_ift (by decide) ?_
          | with_reducible refine Pc_iff (by decide) ?_
          | with_reducible refine Pc_gd (fun _ => ?_)
          | with_reducible refine Pc_vl ?_
          | with_reducible refine Pc_b1 ?_
          | with_reducible refine Pc_some ?_)
        exact x5
      by_cases y7 : a1 = 7
      · subst y7
        repeat' (first
          | with_reducible refine Pc_bdS ?_
          | with_reducible refine Pc_b1S ?_
          | with_reducible refine Pc_onS ?_
          | with_reducible refine Pc_onN ?_
          | with_reducible refine Pc_ift (by assumption) ?_
          | with_reducible refine Pc_iff (by assumption) ?_
          | with_reducible refine Pc_ift (by decide) ?_
          | with_reducible refine Pc_iff (by decide) ?_
          | with_reducible refine Pc_gd (fun _ => ?_)
          | with_reducible refine Pc_vl ?_
          | with_reducible refine Pc_b1 ?_
          | with_reducible refine Pc_some ?_)
        exact x3
      repeat' (first
        | with_reducible refine Pc_bdS ?_
        | with_reducible refine Pc_b1S ?_
        | with_reducible refine Pc_onS ?_
        | with_reducible refine Pc_onN ?_
        | with_reducible refine Pc_ift (by assumption) ?_
        | with_reducible refine Pc_iff (by assumption) ?_
        | with_reducible refine Pc_ift (by decide) ?_
        | with_reducible refine Pc_iff (by decide) ?_
        | with_reducible refine Pc_gd (fun _ => ?_)
        | with_reducible refine Pc_vl ?_
        | with_reducible refine Pc_b1 ?_
        | with_reducible refine Pc_some ?_)
      exact rfl
  · rw [kindXf d, if_neg d]
    exact Pc_b1S (Pc_ift (by decide) (Pc_some (Pc_b1S (Pc_if00 (Pc_some rfl)))))
end VLs
