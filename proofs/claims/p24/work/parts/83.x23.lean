/-! WATCHES -/
section WTs
variable {s t s0 t0 : SS}
def QWat (s t : SS) : Prop := (zS s 6 7 = 0 ∧ zS t 59 74 = -1) ∨ ((1 ≤ (zS s 6 7).toInt ∧ (zS s 6 7).toInt ≤ 3) ∧ zS s 6 7 = zS t 59 74 ∧ ∀ i, i < 9 → zI s 12 i = zI t 111 i)
def WLk (s0 t0 s t : SS) (f : Int) : Prop := Frm [(6, 7)] [12] [] s0 s ∧ Frm [] [111] [] t0 t ∧ (∀ i : Nat, i < 9 → (i : Int) < f → zI s 12 i = zI t 111 i) ∧ ∀ i : Nat, i < 9 → f ≤ (i : Int) → zI s 12 i = -2
/-- all places are watched: the reference looks on, and takes nobody -/
theorem wat_t {q0 : SS → Int32 → Option (Int32 × SS)} {y1 y2 x3 : Int32} {R : Int32 × SS → Prop} (hq : Pc (q0 t x3) R) (h3 : x3 = 3 * y1) : ∀ (m : Nat) (x4 x5 : Int32), Pc (f_X12_watch_L29 q0 y1 y2 m t x3 x4 x5) R
  | 0, _, _ => Pc_none
  | m + 1, x4, x5 => by
    have ih := wat_t (q0 := q0) (y1 := y1) (y2 := y2) (R := R) hq h3 m
    show Pc (f_X12_watch_L29_b q0 y1 y2 (f_X12_watch_L29 q0 y1 y2 m) t x3 x4 x5) R
    unfold f_X12_watch_L29_b
    exact Pc_if (fun _ => Pc_if (fun _ => Pc_gd (fun _ => Pc_jn (Pc_if (fun _ => Pc_vl (ih _ _)) (fun _ => Pc_vl (Pc_gd (fun _ => Pc_if (fun _ => Pc_vl (ih _ _)) (fun _ => Pc_ift h3 (Pc_vl (ih _ _))))))))) (fun _ => hq)) (fun _ => hq)
/-- behind the last body the class finds nobody -/
theorem wat_x {y1 y2 x3 x4 : Int32} (M : ∀ i : Nat, i < 120 → (zS s0 15 3).toInt ≤ i → ¬ zI s 10 i = 1) : ∀ (n : Nat) (x5 : Int32), 0 ≤ x5.toInt → (zS s0 15 3).toInt ≤ x5.toInt → Pc (f_X2_watchesMade_L22 y1 y2 n s x3 x4 x5) (fun a => a = (x4, s))
  | 0, _, _, _ => Pc_none
  | n + 1, x5, h0, h1 => by
    have j120 : (120 : Int32).toInt = 120 := rfl
    show Pc (f_X2_watchesMade_L22_b y1 y2 (f_X2_watchesMade_L22 y1 y2 n) s x3 x4 x5) _
    unfold f_X2_watchesMade_L22_b
    refine Pc_lt (fun c => Pc_if (fun _ => Pc_if (fun _ => Pc_gd (fun _ => Pc_jn (Pc_iff (M _ ?_ ?_) (Pc_vl ?_)))) (fun _ => Pc_some rfl)) (fun _ => Pc_some rfl)) (fun _ => Pc_some rfl)
    · rw [j120] at c; omega
    · omega
    · rw [j120] at c
      have n1 : (x5 + 1).toInt = x5.toInt + 1 := by rw [i32_add (by rw [jl1]; omega) (by rw [jl1]; omega), jl1]
      exact wat_x M n (x5 + 1) (by omega) (by omega)
theorem wat_l {q0 : SS → Int32 → Option (Int32 × SS)} {y1 y2 : Int32} (hy : 1 ≤ y1.toInt ∧ y1.toInt ≤ 3) (B : B1 s0 t0) (M : QMen s0 t0) : ∀ (n m : Nat) (s t : SS) (x3 x4 x5 : Int32), WLk s0 t0 s t x4.toInt → 0 ≤ x5.toInt → 0 ≤ x3.toInt → 0 ≤ x4.toInt → x4.toInt ≤ 3 * y1.toInt → Pc (f_X2_watchesMade_L22 y1 y2 n s x3 x4 x5) (fun a => ∀ R : Int32 × SS → Prop, (∀ u f, WLk s0 t0 a.2 u f.toInt → 0 ≤ f.toInt → f.toInt ≤ 9 → a.1 = f → Pc (q0 u f) R) → Pc (f_X12_watch_L29 q0 y1 y2 m t x4 x3 x5) R)
  | 0, _, _, _, _, _, _, _, _, _, _, _ => Pc_none
  | n + 1, 0, _, _, _, _, _, _, _, _, _, _ => fun _ _ _ _ => Pc_none
  | n + 1, m + 1, s, t, x3, x4, x5, L, h5, h3, h4, h43 => by
    have j120 : (120 : Int32).toInt = 120 := rfl
    have j9 : (9 : Int32).toInt = 9 := rfl
    have j3 : (3 : Int32).toInt = 3 := rfl
    obtain ⟨b1, b2, b3⟩ := B.1.tot
    obtain ⟨F, F', l1, l2⟩ := id L
    have m3 : ((3 : Int32) * y1).toInt = 3 * y1.toInt := by rw [i32_mul (by rw [j3]; omega) (by rw [j3]; omega), j3]
    have e4 : zS t 59 4 = zS s0 15 3 := (F'.1 59 4 rfl).trans b1.symm
    have e10 : ∀ i, zI s 10 i = zI s0 10 i := fun i => F.2.1 10 i rfl
    by_cases tot : x5.toInt < (zS s0 15 3).toInt
    · have hx : x5.toInt.toNat < 120 := by omega
      have n1 : (x5 + 1).toInt = x5.toInt + 1 := by rw [i32_add (by rw [jl1]; omega) (by rw [jl1]; omega), jl1]
      obtain ⟨w1, w2, w3, w4, w5⟩ := M.1 _ hx
      have e77 : zI t 77 x5.toInt.toNat = zI s0 10 x5.toInt.toNat := (F'.2.1 77 _ rfl).trans w3.symm
      have e9 : zI s 9 x5.toInt.toNat = zI t 76 x5.toInt.toNat := (F.2.1 9 _ rfl).trans ((B.1.2.2.1 _).trans (F'.2.1 76 _ rfl).symm)
      show Pc (f_X2_watchesMade_L22_b y1 y2 (f_X2_watchesMade_L22 y1 y2 n) s x3 x4 x5) _
      unfold f_X2_watchesMade_L22_b
      refine Pc_ift (by rw [jlt, j120]; omega) (Pc_lt (fun c9 => Pc_lt (fun cf => Pc_gd (fun _ => Pc_jn ?_)) (fun cf => Pc_some (fun R hk => ?_))) (fun c9 => Pc_some (fun R hk => ?_)))
      · rw [j9] at c9
        rw [m3] at cf
        have n3 : (x3 + 1).toInt = x3.toInt + 1 := by rw [i32_add (by rw [jl1]; omega) (by rw [jl1]; omega), jl1]
        -- the reference, one body
        have hd : ∀ (K : Option (Int32 × SS)) (R : Int32 × SS → Prop), Pc K R → Pc (if x5 < zS t 59 4 then (if x3 < (9 : Int32) then K else q0 t x4) else q0 t x4) R := fun K R k => Pc_ift (by rw [e4, jlt]; exact tot) (Pc_ift (by rw [jlt, j9]; exact c9) k)
        rw [e10]
        refine Pc_if (fun z => Pc_vl (Pc_gd (fun _ => ?_))) (fun z => Pc_vl (Pc.mono (wat_l (q0 := q0) (y2 := y2) hy B M n m s t x3 x4 (x5 + 1) L (by omega) h3 h4 h43) (fun a ha R hk => ?_)))
        · rw [e9]
          refine Pc_if (fun il => Pc_vl (Pc.mono (wat_l (q0 := q0) (y2 := y2) hy B M n m s t (x3 + 1) x4 (x5 + 1) L (by omega) (by omega) h4 h43) (fun a ha R hk => ?_))) (fun il => Pc_gd (fun g4 => Pc_st (Pc_vl (Pc_vl ?_))))
          · show Pc (f_X12_watch_L29_b q0 y1 y2 (f_X12_watch_L29 q0 y1 y2 m) t x4 x3 x5) R
            unfold f_X12_watch_L29_b
            exact hd _ _ (Pc_gd (fun _ => Pc_jn (Pc_iff (by rw [e77, z]; decide) (Pc_vl (Pc_gd (fun _ => Pc_ift il (Pc_vl (ha R hk))))))))
          · have n4 : (x4 + 1).toInt = x4.toInt + 1 := by rw [i32_add (by rw [jl1]; omega) (by rw [jl1]; omega), jl1]
            have L' : WLk s0 t0 (pI s 12 x4.toInt.toNat x5) (pI t 111 x4.toInt.toNat x5) (x4 + 1).toInt := by
              refine ⟨F.pI rfl, F'.pI rfl, fun i hi h => ?_, fun i hi h => ?_⟩
              · rw [zI_pI, zI_pI]
                by_cases q : i = x4.toInt.toNat
                · rw [if_pos ⟨rfl, q⟩, if_pos ⟨rfl, q⟩]
                · rw [if_neg (fun w => q w.2), if_neg (fun w => q w.2)]
                  exact l1 i hi (by omega)
              · rw [zI_pI, if_neg (by omega)]
                exact l2 i hi (by omega)
            refine Pc.mono (wat_l (q0 := q0) (y2 := y2) hy B M n m _ _ (x3 + 1) (x4 + 1) (x5 + 1) L' (by omega) (by omega) (by omega) (by omega)) (fun a ha R hk => ?_)
            show Pc (f_X12_watch_L29_b q0 y1 y2 (f_X12_watch_L29 q0 y1 y2 m) t x4 x3 x5) R
            unfold f_X12_watch_L29_b
            refine hd _ _ (Pc_gd (fun _ => Pc_jn (Pc_iff (by rw [e77, z]; decide) (Pc_vl (Pc_gd (fun _ => Pc_iff il (Pc_iff (fun q => ?_) (Pc_gd (fun _ => Pc_st (Pc_vl (Pc_vl (ha R hk))))))))))))
            rw [q, m3] at cf
            omega
        · show Pc (f_X12_watch_L29_b q0 y1 y2 (f_X12_watch_L29 q0 y1 y2 m) t x4 x3 x5) R
          unfold f_X12_watch_L29_b
          have z0 : zI t 77 x5.toInt.toNat = 0 := by
            rw [e77]
            rcases w4 with q | q
            · rw [← e10]; rw [e10]; exact q
            · exact absurd q z
          exact hd _ _ (Pc_gd (fun _ => Pc_jn (Pc_ift z0 (Pc_vl (ha R hk)))))
      · rw [m3] at cf
        exact wat_t (hk t x4 L h4 (by omega) rfl) (Int32.toInt_inj.1 (by rw [m3]; omega)) (m + 1) x3 x5
      · rw [j9] at c9
        show Pc (f_X12_watch_L29_b q0 y1 y2 (f_X12_watch_L29 q0 y1 y2 m) t x4 x3 x5) R
        unfold f_X12_watch_L29_b
        exact Pc_if (fun _ => Pc_iff (by rw [jlt, j9]; omega) (hk t x4 L h4 (by omega) rfl)) (fun _ => hk t x4 L h4 (by omega) rfl)
    · refine Pc.mono (wat_x (s0 := s0) (s := s) (fun i hi h w => ?_) (n + 1) x5 h5 (by omega)) (fun a ha R hk => ?_)
      · rw [e10] at w
        have := ((M.1 i hi).2.2.2.2 w).1
        omega
      · rw [ha] at hk
        show Pc (f_X12_watch_L29_b q0 y1 y2 (f_X12_watch_L29 q0 y1 y2 m) t x4 x3 x5) R
        unfold f_X12_watch_L29_b
        rw [e4]
        exact Pc_iff (by rw [jlt]; exact tot) (hk t x4 L h4 (by omega) rfl)
/-- nobody for the rest -/
theorem wat_f {y1 y3 : Int32} {t1 : SS} {q0 : SS → Option (Int32 × SS)} {R : Int32 × SS → Prop} {f : Int} (hq : ∀ u, Frm [] [111] [] t1 u → (∀ i : Nat, (i : Int) < f → zI u 111 i = zI t1 111 i) → (∀ i : Nat, i < 9 → f ≤ (i : Int) → zI u 111 i = -2) → Pc (q0 u) R) : ∀ (m : Nat) (t : SS) (x : Int32), 0 ≤ x.toInt → f ≤ x.toInt → Frm [] [111] [] t1 t → (∀ i : Nat, (i : Int) < f → zI t 111 i = zI t1 111 i) → (∀ i : Nat, i < 9 → f ≤ (i : Int) → (i : Int) < x.toInt → zI t 111 i = -2) → Pc (f_X12_watch_L102 q0 y1 y3 m t x) R
  | 0, _, _, _, _, _, _, _ => Pc_none
  | m + 1, t, x, h0, hf, F, a1, a2 => by
    have j9 : (9 : Int32).toInt = 9 := rfl
    show Pc (f_X12_watch_L102_b q0 y1 y3 (f_X12_watch_L102 q0 y1 y3 m) t x) R
    unfold f_X12_watch_L102_b
    refine Pc_lt (fun c => Pc_gd (fun _ => Pc_st (Pc_vl ?_))) (fun c => hq t F a1 (fun i hi h => a2 i hi h (by rw [j9] at c; omega)))
    rw [j9] at c
    have n1 : (x + 1).toInt = x.toInt + 1 := by rw [i32_add (by rw [jl1]; omega) (by rw [jl1]; omega), jl1]
    refine wat_f hq m _ (x + 1) (by omega) (by omega) (F.pI rfl) (fun i h => ?_) (fun i hi h1 h2 => ?_)
    · rw [zI_pI, if_neg (by omega)]; exact a1 i h
    · rw [zI_pI]
      by_cases z : 111 = 111 ∧ i = x.toInt.toNat
      · rw [if_pos z]
      · rw [if_neg z]
        exact a2 i hi h1 (by omega)
theorem L_watch (B : B1 s t) (M : QMen s t) (W : QWat s t) (a0 a1 : Int32) : Pc (f_X11_watch s a0 a1) fun x => Pc (f_X12_watch t a0 a1) fun m => x.1 = m.1 ∧ QWat x.2 m.2 := by
  have j3 : (3 : Int32).toInt = 3 := rfl
  have j9 : (9 : Int32).toInt = 9 := rfl
  unfold f_X11_watch f_X12_watch
  by_cases c : 1 ≤ a0.toInt ∧ a0.toInt ≤ 3
  · rw [in_t (a := a0) (by rw [jl1, j3]; exact c)]
    refine Pc_iff (by rw [jlt, jl1]; omega) (Pc_iff (by rw [jlt, j3]; omega) ?_)
    by_cases d : 0 ≤ a1.toInt ∧ a1.toInt ≤ 9
    · rw [in_t (a := a1) (by rw [jl0, j9]; exact d)]
      refine Pc_iff (by rw [jlt, jl0]; omega) (Pc_iff (by rw [jlt, j9]; omega) (Pc_bd ?_))
      unfold f_X2_watchesMade
      refine Pc_st (Pc_st ?_)
      have F0 : Frm [(6, 7)] [12] [] s (pF (pS s 6 7 a0) 12 (-2)) := (Frm.rf.pS rfl).pF rfl
      have e67 : zS (pF (pS s 6 7 a0) 12 (-2)) 6 7 = a0 := rfl
      have L0 : WLk s t (pF (pS s 6 7 a0) 12 (-2)) t (0 : Int32).toInt := ⟨F0, Frm.rf, fun i _ h => by rw [jl0] at h; omega, fun i _ _ => by rw [zI_pF, if_pos rfl]⟩
      generalize pF (pS s 6 7 a0) 12 (-2) = s2 at F0 e67 L0 ⊢
      -- the class keeps how many places
      intro a ea
      have K7 : Frm [] [12] [] s2 a.2 := v_X2_watchesMade_L22 (WS := []) (WI := [12]) (WJ := []) (b := s2) (Q := fun x => Frm [] [12] [] s2 x.2) (F0.Sh_ B.1.sh) rfl (fun _ _ h => h) 4000 s2 0 0 0 Frm.rf _ ea
      have h7 : zS a.2 6 7 = a0 := (K7.1 6 7 rfl).trans e67
      refine Pc_some (Pc_b1S (Pc_if10 (Pc_b1S (Pc_if10 ?_))))
      refine wat_l (q0 := fun (s19 : SS) (x19_3 : Int32) => (f_X12_watch_L102 (fun (s24 : SS)  => (st (pS s24 59 74 a0) fun s25 => some (x19_3, s25))) a0 x19_3 4000 s19 x19_3)) (y2 := a1) c B M 4000 4000 s2 t 0 0 0 L0 (by decide) (by decide) (by decide) (by rw [jl0]; omega) a ea _ (fun u f Lu f0 f9 ef => ?_)
      obtain ⟨_, Fu, l1, l2⟩ := Lu
      refine wat_f (t1 := u) (f := f.toInt) (fun v Fv v1 v2 => Pc_st (Pc_some ⟨ef, Or.inr ⟨by rw [h7]; exact c, ?_, fun i hi => ?_⟩⟩)) 4000 u f f0 (Int.le_refl _) Frm.rf (fun _ _ => rfl) (fun i _ h1 h2 => by omega)
      · show zS a.2 6 7 = zS (pS v 59 74 a0) 59 74
        rw [h7, zS_pS, if_pos ⟨rfl, rfl⟩]
      · show zI a.2 12 i = zI v 111 i
        by_cases z : (i : Int) < f.toInt
        · rw [v1 i z]; exact l1 i hi z
        · rw [v2 i hi (by omega)]; exact l2 i hi (by omega)
    · rw [in_f (a := a1) (by rw [jl0, j9]; exact d)]
      refine Pc_lt (fun _ => Pc_some (Pc_b1S (Pc_if10 (Pc_b1S (Pc_if00 (Pc_some ⟨rfl, W⟩)))))) (fun z => Pc_lt (fun _ => Pc_some (Pc_b1S (Pc_if10 (Pc_b1S (Pc_if00 (Pc_some ⟨rfl, W⟩)))))) (fun w => ?_))
      rw [jl0] at z
      rw [j9] at w
      exact absurd ⟨z, w⟩ d
  · rw [in_f (a := a0) (by rw [jl1, j3]; exact c)]
    refine Pc_lt (fun _ => Pc_some (Pc_b1S (Pc_if00 (Pc_some ⟨rfl, W⟩)))) (fun z => Pc_lt (fun _ => Pc_some (Pc_b1S (Pc_if00 (Pc_some ⟨rfl, W⟩)))) (fun w => ?_))
    rw [jl1] at z
    rw [j3] at w
    exact absurd ⟨z, w⟩ c
theorem V_watched (W : QWat s t) (a0 a1 : Int32) : Pc (f_X11_watched s a0 a1) fun x => Pc (f_X12_watched t a0 a1) fun m => x = m := by
  have j2 : (2 : Int32).toInt = 2 := rfl
  unfold f_X11_watched f_X12_watched
  by_cases c : 0 ≤ a0.toInt ∧ a0.toInt ≤ 2
  · rw [in_t (a := a0) (by rw [jl0, j2]; exact c)]
    refine Pc_iff (by rw [jlt, jl0]; omega) (Pc_iff (by rw [jlt, j2]; omega) ?_)
    have M0 : ∀ K : Option Int32, ¬ ((0 : Int32).toInt ≤ a1.toInt ∧ a1.toInt ≤ (zS t 59 74 - 1).toInt) → Pc (b1 (some (1 : Int32)) fun r1 => if r1 = 0 then some (-1) else b1 (f_X12_in a1 0 (zS t 59 74 - 1)) fun r3 => if r3 = 0 then some (-1) else K) (fun m => (-1 : Int32) = m) := fun K h => by
      rw [in_f h]
      exact Pc_b1S (Pc_if10 (Pc_b1S (Pc_if00 (Pc_some rfl))))
    rcases W with ⟨w1, w2⟩ | ⟨w1, w2, w3⟩
    · have e : (zS t 59 74 - 1).toInt = -2 := by rw [w2]; rfl
      refine Pc_lt (fun z => Pc_some (M0 _ (by rw [jl0] at z ⊢; omega))) (fun z => Pc_lt (fun w => ?_) (fun w => Pc_some (M0 _ (by rw [e, jl0]; omega))))
      rw [w1, jl0] at w
      rw [jl0] at z
      omega
    · have e : (zS t 59 74 - 1).toInt = (zS s 6 7).toInt - 1 := by rw [← w2, i32_sub (by rw [jl1]; omega) (by rw [jl1]; omega), jl1]
      refine Pc_lt (fun z => Pc_some (M0 _ (by rw [jl0] at z ⊢; omega))) (fun z => Pc_lt (fun w => ?_) (fun w => Pc_some (M0 _ (by rw [e]; omega))))
      rw [jl0] at z
      rw [in_t (a := a1) (by rw [jl0, e]; omega), ← w2]
      refine Pc_vl (Pc_gd (fun g => Pc_some (Pc_b1S (Pc_if10 (Pc_b1S (Pc_if10 (Pc_vl (Pc_gd (fun g2 => Pc_some ?_)))))))))
      rw [Int32.mul_comm (zS s 6 7) a0]
      exact w3 _ (by have := g.1; have := g.2; omega)
  · rw [in_f (a := a0) (by rw [jl0, j2]; exact c)]
    refine Pc_lt (fun _ => Pc_some (Pc_b1S (Pc_if00 (Pc_some rfl)))) (fun z => Pc_lt (fun _ => Pc_some (Pc_b1S (Pc_if00 (Pc_some rfl)))) (fun w => ?_))
    rw [jl0] at z
    rw [j2] at w
    exact absurd ⟨z, w⟩ c
end WTs
