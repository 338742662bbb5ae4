section CQs
variable {s t s0 t0 : SS}
theorem QMen.b (Q : QMen s t) : 0 ≤ (zS s 6 4).toInt ∧ (zS s 6 4).toInt ≤ 120 := by
  have hb := ySum_b (f := fun i => if i < 120 then (zI s 10 i).toInt else 0) (c := 1) (fun i => by
    by_cases z : i < 120
    · rw [if_pos z]
      rcases (Q.1 i z).2.2.2.1 with y | y <;> rw [y] <;> decide
    · rw [if_neg z]; decide) 120
  have hb2 : ySum (fun i => if i < 120 then (zI s 10 i).toInt else 0) 120 = ySum (fun i => (zI s 10 i).toInt) 120 := ySum_c (fun i hi => by rw [if_pos hi])
  rw [Q.2]
  omega
theorem L_capsule (I : Iv s) (J : Iv t) (B : B1 s t) (Q : Q4 s t) (a0 : Int32) : Pc (f_X11_capsule s a0) fun x => Pc (f_X12_capsule t a0) fun m => x.1 = m.1 ∧ Q4 x.2 m.2 := by
  obtain ⟨b1', b2, b3⟩ := B.1.tot
  have S := B.1.sh
  unfold f_X11_capsule f_X12_capsule
  rw [holeOfX B, bodyM B]
  unfold hO
  by_cases d : 0 ≤ a0.toInt ∧ a0.toInt < (zS s 15 3).toInt
  · rw [if_pos d, if_pos d, kindX B d]
    have hn : a0.toInt.toNat < 120 := by omega
    have ek : zI s 16 a0.toInt.toNat = zI t 62 a0.toInt.toNat := B.1.kd _
    have rh := B.1.rh a0.toInt.toNat hn
    cases hp : zR s 17 a0.toInt.toNat with
    | none =>
      have nh : ¬ isH (zI s 16 a0.toInt.toNat) := fun z => rh.mp hp ⟨by omega, z⟩
      refine Pc_b1S (Pc_onN (Pc_b1S (Pc_some (Pc_b1S (Pc_if10 (Pc_gd (fun _ => Pc_jn ?_)))))))
      rw [← ek]
      refine Pc_iff (fun z => nh (Or.inr (Or.inr (Or.inl z)))) (Pc_gd (fun _ => Pc_iff (fun z => nh (Or.inr (Or.inr (Or.inr z)))) (Pc_some ⟨rfl, Q⟩)))
    | some p =>
      have o := S.2.2.1 _ _ hn hp
      obtain ⟨x0, x1, x2, x3, x4, x5, x6, x7, x8⟩ := Q.1.1 _ _ hn hp
      have h4 := B.1.h4 o
      have hb := Q.2.1.b
      have hr := B.2.1.2.2.2.2
      rw [← ek]
      refine Pc_b1S (Pc_onS (Pc_b1S ?_))
      -- the reference's head
      have hd : ∀ (K : Option (Int32 × SS)) (R : Int32 × SS → Prop), (zI s 16 a0.toInt.toNat = 4 ∨ zI s 16 a0.toInt.toNat = 5 → Pc K R) → (¬ (zI s 16 a0.toInt.toNat = 4 ∨ zI s 16 a0.toInt.toNat = 5) → R (-1, t)) → Pc (b1 (some (1 : Int32)) fun r1 => (if r1 = (0 : Int32) then some ((-1), t) else (gd (inB a0 120) (jn K fun k4 => (if (zI s 16 (a0.toInt.toNat)) = (4 : Int32) then k4 else (gd (inB a0 120) (if (zI s 16 (a0.toInt.toNat)) = (5 : Int32) then k4 else some ((-1), t)))))))) R := fun K R k1 k2 => Pc_b1S (Pc_if10 (Pc_gd (fun _ => Pc_jn (Pc_if (fun z => k1 (Or.inl z)) (fun z => Pc_gd (fun _ => Pc_if (fun w => k1 (Or.inr w)) (fun w => Pc_some (k2 (fun v => v.elim z w)))))))))
      by_cases kd : zI s 16 a0.toInt.toNat = 4 ∨ zI s 16 a0.toInt.toNat = 5
      · refine Pc_jn0 ?_ (fun k hk => Pc_if (fun _ => hk) (fun z => Pc_if (fun _ => hk) (fun w => absurd kd (fun v => v.elim z w))))
        have t69 := Q.1.2.2.2 _ hn
        rw [x6]
        by_cases th : 0 < (zI t 69 a0.toInt.toNat).toInt
        · rw [if_pos th]
          refine Pc_if10 (Pc_if (fun z => Pc_some (hd _ _ (fun _ => ?_) (fun v => absurd kd v))) (fun z => ?_))
          · refine Pc_gd (fun _ => Pc_iff (fun w => by rw [w, jl0] at th; omega) (Pc_b1 (Pc.mono (men_p ⟨b1', b2, b3⟩ Q.2.1) (fun r hr => ?_))))
            exact Pc_ift (hr.trans z) (Pc_some ⟨rfl, Q⟩)
          · -- they come
            have h67 : (zI t 67 a0.toInt.toNat) = zS s p 4 := x4.symm
            have d20 : (zS s p 4 / 20).toInt = (zS s p 4).toInt / 20 := by rw [jd20, if_pos h4.1]
            have e12 : ((1 : Int32) + zS s p 4 / 20).toInt = 1 + (zS s p 4).toInt / 20 := by rw [i32_add (by rw [jl1, d20]; omega) (by rw [jl1, d20]; omega), jl1, d20]
            unfold f_X2_liftBegins
            refine Pc_b1 (Pc_st (Pc_st (Pc_st (Pc_some ?_))))
            have F7 : Frm [(6, 10), (6, 11), (6, 12)] [13, 14, 28, 29] [] s (pS (pS (pS s 6 10 0) 6 11 (zS s 0 14)) 6 12 ((1 : Int32) + zS s p 4 / 20)) := ((Frm.rf.pS rfl).pS rfl).pS rfl
            have I7 : Iv (pS (pS (pS s 6 10 0) 6 11 (zS s 0 14)) 6 12 ((1 : Int32) + zS s p 4 / 20)) := ((I.wF (q := 6) (k := 10) (by decide) (by decide) ⟨by decide, by decide⟩).wF (q := 6) (k := 11) (by decide) (by decide) trivial).wF (q := 6) (k := 12) (by decide) (by decide) trivial
            have g10 : zS (pS (pS (pS s 6 10 0) 6 11 (zS s 0 14)) 6 12 ((1 : Int32) + zS s p 4 / 20)) 6 10 = 0 := rfl
            have g11 : zS (pS (pS (pS s 6 10 0) 6 11 (zS s 0 14)) 6 12 ((1 : Int32) + zS s p 4 / 20)) 6 11 = zS s 0 14 := rfl
            have g12 : zS (pS (pS (pS s 6 10 0) 6 11 (zS s 0 14)) 6 12 ((1 : Int32) + zS s p 4 / 20)) 6 12 = (1 : Int32) + zS s p 4 / 20 := rfl
            generalize pS (pS (pS s 6 10 0) 6 11 (zS s 0 14)) 6 12 ((1 : Int32) + zS s p 4 / 20) = s7 at F7 I7 g10 g11 g12 ⊢
            have G7 : Frm [(59, 82), (59, 83)] [95, 96, 116, 117, 118] [] t t := Frm.rf
            have B7 : B1 s7 t := B.fi I7 F7 G7 rfl rfl rfl rfl
            have Q7 : Q4w (zS s 0 14).toInt s7 t := Q4w.cp (Q4h.w Q) S b3 F7 G7
            refine Pc_b1 (fun r8 e8 => ?_)
            obtain ⟨r', ef, -⟩ := w_X12_forceOf (a0 := 1) (a1 := zS s7 0 14) (a2 := zS s7 0 14) (Lk.rf J)
            obtain ⟨g1, g2⟩ := frc_p (w := 1) (side := 0) (use := 1) (h := zS s7 0 14) (k := zS s7 0 14) B7 Q7 (by decide) (by decide) (by decide) r8 e8 r' ef
            have f64 : zS s7 6 4 = zS s 6 4 := F7.1 6 4 rfl
            -- the end of both
            have hq : ∀ s' t' x2, CP s7 t s' t' → (zS s' 6 10).toInt = x2.toInt → x2.toInt = (zS s7 6 4).toInt → LLx s' t' (x2.toInt - 1) x2.toInt → Pc (b1 (f_X2_upAt s' ((zS s' 6 10) - (1 : Int32))) fun r18 => some (r18, s')) (fun a => Pc (f_X12_capsule_L170 (fun (s44 : SS)  => (st (pS s44 59 82 x2) fun s45 => (vl ((zS s45 59 1)) fun v46 => (st (pS s45 59 83 v46) fun s47 => (vl ((x2 - (1 : Int32))) fun v48 => (gd (inB v48 120) (some ((zI s47 118 (v48.toInt.toNat)), s47)))))))) a0 x2 4000 t' 0) (fun m => a.1 = m.1 ∧ Q4 a.2 m.2)) := by
              intro s' t' x2 C h10 h64 L
              rw [f64] at h64
              have x1 : 1 ≤ x2.toInt ∧ x2.toInt ≤ 120 := by
                have : (zS s 6 4).toInt ≠ 0 := fun w => z (Int32.toInt_inj.1 (by rw [w, jl0]))
                omega
              have i11 : zS s' 6 11 = zS s 0 14 := (C.1.1 6 11 rfl).trans g11
              have i12 : zS s' 6 12 = (1 : Int32) + zS s p 4 / 20 := (C.1.1 6 12 rfl).trans g12
              have m1 : zS t' 59 1 = zS s 0 14 := (C.2.1 59 1 rfl).trans B.2.1.1.symm
              have m67 : zI t' 67 a0.toInt.toNat = zS s p 4 := (C.2.2.1 67 _ rfl).trans h67
              have ex2 : zS s' 6 10 = x2 := Int32.toInt_inj.1 h10
              have es1 : (x2 - 1).toInt = x2.toInt - 1 := by rw [i32_sub (by rw [jl1]; omega) (by rw [jl1]; omega), jl1]
              unfold f_X2_upAt
              refine Pc_b1S (Pc_some ?_)
              refine l170 (t1 := t') (k := 1 + (zS s p 4).toInt / 20) (by rw [m1]; exact hr) (by rw [m67]) (by rw [m67]; exact h4) x1.2 (fun u Fu hu => ?_) 4000 t' 0 (by decide) Frm.rf (fun i w => by rw [jl0] at w; omega)
              refine Pc_st (Pc_vl (Pc_st (Pc_vl (Pc_gd (fun _ => Pc_some ⟨?_, ?_⟩)))))
              · -- the hour when all are up
                apply Int32.toInt_inj.1
                show (zS s' 6 11 + (zS s' 6 10 - 1 + 1) * zS s' 6 12).toInt = (zI u 118 (x2 - 1).toInt.toNat).toInt
                have hu1 := hu (x2 - 1).toInt.toNat (by omega)
                have ei : (((x2 - 1).toInt.toNat : Nat) : Int) + 1 = x2.toInt := by omega
                rw [ei] at hu1
                rw [hu1, m1, i11, i12, ex2]
                have e0 : (x2 - 1 + 1).toInt = x2.toInt := by rw [i32_add (by rw [jl1]; omega) (by rw [jl1]; omega), jl1, es1]; omega
                have pb : 0 ≤ x2.toInt * (1 + (zS s p 4).toInt / 20) ∧ x2.toInt * (1 + (zS s p 4).toInt / 20) ≤ 480 := by
                  have h12 : 1 + (zS s p 4).toInt / 20 = 1 ∨ 1 + (zS s p 4).toInt / 20 = 2 ∨ 1 + (zS s p 4).toInt / 20 = 3 ∨ 1 + (zS s p 4).toInt / 20 = 4 := by omega
                  rcases h12 with w | w | w | w <;> rw [w] <;> omega
                have em : ((x2 - 1 + 1) * ((1 : Int32) + zS s p 4 / 20)).toInt = x2.toInt * (1 + (zS s p 4).toInt / 20) := by rw [i32_mul (by rw [e0, e12]; omega) (by rw [e0, e12]; omega), e0, e12]
                rw [i32_add (by rw [em]; omega) (by rw [em]; omega), em]
              · have Fa : Frm [(6, 10), (6, 11), (6, 12)] [13, 14, 28, 29] [] s s' := F7.tr (C.1.mo rfl rfl rfl)
                have Ga0 : Frm [(59, 82), (59, 83)] [95, 96, 116, 117, 118] [] t u := (C.2.mo (WS' := [(59, 82), (59, 83)]) (WI' := [95, 96, 116, 117, 118]) (WJ' := []) rfl rfl rfl).tr (Fu.mo rfl rfl rfl)
                have Ga : Frm [(59, 82), (59, 83)] [95, 96, 116, 117, 118] [] t (pS (pS u 59 82 x2) 59 83 (zS (pS u 59 82 x2) 59 1)) := (Ga0.pS rfl).pS rfl
                have Qn := Q4w.cp (Q4h.w Q) S b3 Fa Ga
                have e14 : zS s' 0 14 = zS s 0 14 := Fa.1 0 14 rfl
                show Q4h (zS s' 0 14).toInt s' _
                rw [e14]
                refine Qn.l (Or.inr ⟨by omega, ?_, ?_, ?_, ?_, fun i hi w => ?_⟩)
                · rw [zS_pS, if_neg (by omega), zS_pS, if_pos ⟨rfl, rfl⟩]; exact ex2
                · rw [zS_pS, if_pos ⟨rfl, rfl⟩, zS_pS, if_neg (by omega), Fu.1 59 1 rfl, m1]; exact i11
                · rw [i11]; exact hr
                · rw [i12, e12]; omega
                · rw [h10] at w
                  rw [zI_pS, zI_pS, zI_pS, zI_pS, Fu.2.1 116 i rfl, hu i w, i11, i12, e12, m1]
                  exact ⟨(L i (by omega) (by omega)).1, rfl⟩
            have K := cap_l (y1 := a0) (qX := fun (s17 : SS)  => (b1 (f_X2_upAt s17 ((zS s17 6 10) - (1 : Int32))) fun r18 => some (r18, s17))) (qM := fun (s37 : SS) (x37_2 : Int32) => (f_X12_capsule_L170 (fun (s44 : SS)  => (st (pS s44 59 82 x37_2) fun s45 => (vl ((zS s45 59 1)) fun v46 => (st (pS s45 59 83 v46) fun s47 => (vl ((x37_2 - (1 : Int32))) fun v48 => (gd (inB v48 120) (some ((zI s47 118 (v48.toInt.toNat)), s47)))))))) a0 x37_2 4000 s37 0)) (P := fun a m => a.1 = m.1 ∧ Q4 a.2 m.2) B7 Q7 g2 (fun r'' er => by rw [← B7.2.1.1, ef] at er; exact (Option.some.inj er).symm.trans g1) hq 4000 4000 s7 t 0 0 I7 ⟨Frm.rf, Frm.rf⟩ (by rw [g10]) rfl (by decide) (by rw [jl0]; exact B7.1.tot.2.1) (fun i w _ => by rw [jl0] at w; omega)
            refine Pc.mono K (fun a ha => hd _ _ (fun _ => ?_) (fun v => absurd kd v))
            refine Pc_gd (fun _ => Pc_iff (fun w => by rw [w, jl0] at th; omega) (Pc_b1 (Pc.mono (men_p ⟨b1', b2, b3⟩ Q.2.1) (fun r hr => ?_))))
            exact Pc_iff (fun w => z (hr.symm.trans w)) ha
        · rw [if_neg th]
          refine Pc_if00 (Pc_some (hd _ _ (fun _ => ?_) (fun v => absurd kd v)))
          exact Pc_gd (fun _ => Pc_ift (Int32.toInt_inj.1 (by rw [jl0]; omega)) (Pc_some ⟨rfl, Q⟩))
      · exact Pc_jn (Pc_iff (fun z => kd (Or.inl z)) (Pc_iff (fun z => kd (Or.inr z)) (Pc_some (hd _ _ (fun v => absurd v kd) (fun _ => ⟨rfl, Q⟩)))))
  · rw [if_neg d, if_neg d]
    exact Pc_b1S (Pc_onN (Pc_b1x (fun _ => Pc_some (Pc_b1S (Pc_if00 (Pc_some ⟨rfl, Q⟩))))))
end CQs
