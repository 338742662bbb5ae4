/-! WATCHES -/
section WTs
variable {s t s0 t0 : SS}
def QWat (s t : SS) : Prop := (zS s 6 7 = 0 ∧ zS t 59 74 = -1) ∨ ((1 ≤ (zS s 6 7).toInt ∧ (zS s 6 7).toInt ≤ 3) ∧ zS s 6 7 = zS t 59 74 ∧ ∀ i, i < 9 → zI s 12 i = zI t 111 i)
def WLk (s0 t0 s t : SS) (f : Int) : Prop := Frm [(6, 7)] [12] [] s0 s ∧ Frm [] [111] [] t0 t ∧ (∀ i : Nat, i < 9 → (i : Int) < f → zI s 12 i = zI t 111 i) ∧ ∀ i : Nat, i < 9 → f ≤ (i : Int) → zI s 12 i = -2
/-- all places are watched: the reference looks on, and takes nobody -/
theorem wat_t {q0 : SS → Int32 → Option (Int32 × SS)} {y1 y2 x3 : Int32} {R : Int32 × SS → Prop} (hq : Pc (q0 t x3) R) (h3 : x3 = 3 * y1) : ∀ (m : Nat) (x4 x5 : Int32), Pc (f_X12_watch_L29 q0 y1 y2 m t x3 x4 x5) R
  | 0, _, _ => Pc_none
  | m + 1, x4, x5 => by
    have ih := wat_t (q0 := q0) (y1 := y1) (y2 := y2) (R := R) hq h3 m
    show Pc (f_X12_watch_L29_b q0 y1 y2 (f_X12_watch_L29 q0 y1 y2 m) t x3 x4 x5) R
    unfold f_X12_watch_L29_b
    exact Pc_if (fun _ => Pc_if (fun _ => Pc_gd (fun _ => Pc_jn (Pc_if (fun _ => Pc_vl (ih _ _)) (fun _ => Pc_vl (Pc_gd (fun _ => Pc_if (fun _ => Pc_vl (ih _ _)) (fun _ => Pc_ift h3 (Pc_vl (ih _ _))))))))) (fun _ => hq)) (fun _ => hq)
/-- behind the last body the class finds nobody -/
theorem wat_x {y1 y2 x3 x4 : Int32} (M : ∀ i : Nat, i < 120 → (zS s0 15 3).toInt ≤ i → ¬ zI s 10 i = 1) : ∀ (n : Nat) (x5 : Int32), 0 ≤ x5.toInt → (zS s0 15 3).toInt ≤ x5.toInt → Pc (f_X2_watchesMade_L22 y1 y2 n s x3 x4 x5) (fun a => a = (x4, s))
  | 0, _, _, _ => Pc_none
  | n + 1, x5, h0, h1 => by
    have j120 : (120 : Int32).toInt = 120 := rfl
    show Pc (f_X2_watchesMade_L22_b y1 y2 (f_X2_watchesMade_L22 y1 y2 n) s x3 x4 x5) _
    unfold f_X2_watchesMade_L22_b
    refine Pc_lt (fun c => Pc_if (fun _ => Pc_if (fun _ => Pc_gd (fun _ => Pc_jn (Pc_iff (M _ ?_ ?_) (Pc_vl ?_)))) (fun _ => Pc_some rfl)) (fun _ => Pc_some rfl)) (fun _ => Pc_some rfl)
    · rw [j120] at c; omega
    · omega
    · rw [j120] at c
      have n1 : (x5 + 1).toInt = x5.toInt + 1 := by rw [i32_add (by rw [jl1]; omega) (by rw [jl1]; omega), jl1]
      exact wat_x M n (x5 + 1) (by omega) (by omega)
theorem wat_l {q0 : SS → Int32 → Option (Int32 × SS)} {y1 y2 : Int32} (hy : 1 ≤ y1.toInt ∧ y1.toInt ≤ 3) (B : B1 s0 t0) (M : QMen s0 t0) : ∀ (n m : Nat) (s t : SS) (x3 x4 x5 : Int32), WLk s0 t0 s t x4.toInt → 0 ≤ x5.toInt → 0 ≤ x3.toInt → 0 ≤ x4.toInt → x4.toInt ≤ 3 * y1.toInt → Pc (f_X2_watchesMade_L22 y1 y2 n s x3 x4 x5) (fun a => ∀ R : Int32 × SS → Prop, (∀ u f, WLk s0 t0 a.2 u f.toInt → 0 ≤ f.toInt → f.toInt ≤ 9 → a.1 = f → Pc (q0 u f) R) → Pc (f_X12_watch_L29 q0 y1 y2 m t x4 x3 x5) R)
  | 0, _, _, _, _, _, _, _, _, _, _, _ => Pc_none
  | n + 1, 0, _, _, _, _, _, _, _, _, _, _ => fun _ _ _ _ => Pc_none
  | n + 1, m + 1, s, t, x3, x4, x5, L, h5, h3, h4, h43 => by
    have j120 : (120 : Int32).toInt = 120 := rfl
    have j9 : (9 : Int32).toInt = 9 := rfl
    have j3 : (3 : Int32).toInt = 3 := rfl
    obtain ⟨b1, b2, b3⟩ := B.1.tot
    obtain ⟨F, F', l1, l2⟩ := id L
    have m3 : ((3 : Int32) * y1).toInt = 3 * y1.toInt := by rw [i32_mul (by rw [j3]; omega) (by rw [j3]; omega), j3]
    have e4 : zS t 59 4 = zS s0 15 3 := (F'.1 59 4 rfl).trans b1.symm
    have e10 : ∀ i, zI s 10 i = zI s0 10 i := fun i => F.2.1 10 i rfl
    by_cases tot : x5.toInt < (zS s0 15 3).toInt
    · have hx : x5.toInt.toNat < 120 := by omega
      have n1 : (x5 + 1).toInt = x5.toInt + 1 := by rw [i32_add (by rw [jl1]; omega) (by rw [jl1]; omega), jl1]
      obtain ⟨w1, w2, w3, w4, w5⟩ := M.1 _ hx
      have e77 : zI t 77 x5.toInt.toNat = zI s0 10 x5.toInt.toNat := (F'.2.1 77 _ rfl).trans w3.symm
      have e9 : zI s 9 x5.toInt.toNat = zI t 76 x5.toInt.toNat := (F.2.1 9 _ rfl).trans ((B.1.2.2.1 _).trans (F'.2.1 76 _ rfl).symm)
      show Pc (f_X2_watchesMade_L22_b y1 y2 (f_X2_watchesMade_L22 y1 y2 n) s x3 x4 x5) _
      unfold f_X2_watchesMade_L22_b
      refine Pc_ift (by rw [jlt, j120]; omega) (Pc_lt (fun c9 => Pc_lt (fun cf => Pc_gd (fun _ => Pc_jn ?_)) (fun cf => Pc_some (fun R hk => ?_))) (fun c9 => Pc_some (fun R hk => ?_)))
      · rw [j9] at c9
        rw [m3] at cf
        have n3 : (x3 + 1).toInt = x3.toInt + 1 := by rw [i32_add (by rw [jl1]; omega) (by rw [jl1]; omega), jl1]
        -- the reference, one body
        have hd : ∀ (K : Option (Int32 × SS)) (R : Int32 × SS → Prop), Pc K R → Pc (if x5 < zS t 59 4 then (if x3 < (9 : Int32) then K else q0 t x4) else q0 t x4) R := fun K R k => Pc_ift (by rw [e4, jlt]; exact tot) (Pc_ift (by rw [jlt, j9]; exact c9) k)
        rw [e10]
        refine Pc_if (fun z => Pc_vl (Pc_gd (fun _ => ?_))) (fun z => Pc_vl (Pc.mono (wat_l (q0 := q0) (y2 := y2) hy B M n m s t x3 x4 (x5 + 1) L (by omega) h3 h4 h43) (fun a ha R hk => ?_)))
        · rw [e9]
          refine Pc_if (fun il => Pc_vl (Pc.mono (wat_l (q0 := q0) (y2 := y2) hy B M n m s t (x3 + 1) x4 (x5 + 1) L (by omega) (by omega) h4 h43) (fun a ha R hk => ?_))) (fun il => Pc_gd (fun g4 => Pc_st (Pc_vl (Pc_vl ?_))))
          · show Pc (f_X12_watch_L29_b q0 y1 y2 (f_X12_watch_L29 q0 y1 y2 m) t x4 x3 x5) R
            unfold f_X12_watch_L29_b
            exact hd _ _ (Pc_gd (fun _ => Pc_jn (Pc_iff (by rw [e77, z]; decide) (Pc_vl (Pc_gd (fun _ => Pc_ift il (Pc_vl (ha R hk))))))))
          · have n4 : (x4 + 1).toInt = x4.toInt + 1 := by rw [i32_add (by rw [jl1]; omega) (by rw [jl1]; omega), jl1]
            have L' : WLk s0 t0 (pI s 12 x4.toInt.toNat x5) (pI t 111 x4.toInt.toNat x5) (x4 + 1).toInt := by
              refine ⟨F.pI rfl, F'.pI rfl, fun i hi h => ?_, fun i hi h => ?_⟩
              · rw [zI_pI, zI_pI]
                by_cases q : i = x4.toInt.toNat
                · rw [if_pos ⟨rfl, q⟩, if_pos ⟨rfl, q⟩]
                · rw [if_neg (fun w => q w.2), if_neg (fun w => q w.2)]
                  exact l1 i hi (by omega)
              · rw [zI_pI, if_neg (by omega)]
                exact l2 i hi (by omega)
            refine Pc.mono (wat_l (q0 := q0) (y2 := y2) hy B M n m _ _ (x3 + 1) (x4 + 1) (x5 + 1) L' (by omega) (by omega) (by omega) (by omega)) (fun a ha R hk => ?_)
            show Pc (f_X12_watch_L29_b q0 y1 y2 (f_X12_watch_L29 q0 y1 y2 m) t x4 x3 x5) R
            unfold f_X12_watch_L29_b
            refine hd _ _ (Pc_gd (fun _ => Pc_jn (Pc_iff (by rw [e77, z]; decide) (Pc_vl (Pc_gd (fun _ => Pc_iff il (Pc_iff (fun q => ?_) (Pc_gd (fun _ => Pc_st (Pc_vl (Pc_vl (ha R hk))))))))))))
            rw [q, m3] at cf
            omega
        · show Pc (f_X12_watch_L29_b q0 y1 y2 (f_X12_watch_L29 q0 y1 y2 m) t x4 x3 x5) R
          unfold f_X12_watch_L29_b
          have z0 : zI t 77 x5.toInt.toNat = 0 := by
            rw [e77]
            rcases w4 with q | q
            · rw [← e10]; rw [e10]; exact q
            · exact absurd q z
          exact hd _ _ (Pc_gd (fun _ => Pc_jn (Pc_ift z0 (Pc_vl (ha R hk)))))
      · rw [m3] at cf
        exact wat_t (hk t x4 L h4 (by omega) rfl) (Int32.toInt_inj.1 (by rw [m3]; omega)) (m + 1) x3 x5
      · rw [j9] at c9
        show Pc (f_X12_watch_L29_b q0 y1 y2 (f_X12_watch_L29 q0 y1 y2 m) t x4 x3 x5) R
        unfold f_X12_watch_L29_b
        exact Pc_if (fun _ => Pc_iff (by rw [jlt, j9]; omega) (hk t x4 L h4 (by omega) rfl)) (fun _ => hk t x4 L h4 (by omega) rfl)
    · refine Pc.mono (wat_x (s0 := s0) (s := s) (fun i hi h w => ?_) (n + 1) x5 h5 (by omega)) (fun a ha R hk => ?_)
      · rw [e10] at w
        have := ((M.1 i hi).2.2.2.2 w).1
        omega
      · rw [ha] at hk
        show Pc (f_X12_watch_L29_b q0 y1 y2 (f_X12_watch_L29 q0 y1 y2 m) t x4 x3 x5) R
        unfold f_X12_watch_L29_b
        rw [e4]
        exact Pc_iff (by rw [jlt]; exact tot) (hk t x4 L h4 (by omega) rfl)
/-- nobody for the rest -/
theorem wat_f {y1 y3 : Int32} {t1 : SS} {q0 : SS → Option (Int32 × SS)} {R : Int32 × SS → Prop} {f : Int} (hq : ∀ u, Frm [] [111] [] t1 u → (∀ i : Nat, (i : Int) < f → zI u 111 i = zI t1 111 i) → (∀ i : Nat, i < 9 → f ≤ (i : Int) → zI u 111 i = -2) → Pc (q0 u) R) : ∀ (m : Nat) (t : SS) (x : Int32), 0 ≤ x.toInt → f ≤ x.toInt → Frm [] [111] [] t1 t → (∀ i : Nat, (i : Int) < f → zI t 111 i = zI t1 111 i) → (∀ i : Nat, i < 9 → f ≤ (i : Int) → (i : Int) < x.toInt → zI t 111 i = -2) → Pc (f_X12_watch_L102 q0 y1 y3 m t x) R
  | 0, _, _, _, _, _, _, _ => Pc_none
  | m + 1, t, x, h0, hf, F, a1, a2 => by
    have j9 : (9 : Int32).toInt = 9 := rfl
    show Pc (f_X12_watch_L102_b q0 y1 y3 (f_X12_watch_L102 q0 y1 y3 m) t x) R
    unfold f_X12_watch_L102_b
    refine Pc_lt (fun c => Pc_gd (fun _ => Pc_st (Pc_vl ?_))) (fun c => hq t F a1 (fun i hi h => a2 i hi h (by rw [j9] at c; omega)))
    rw [j9] at c
    have n1 : (x + 1).toInt = x.toInt + 1 := by rw [i32_add (by rw [jl1]; omega) (by rw [jl1]; omega), jl1]
    refine wat_f hq m _ (x + 1) (by omega) (by omega) (F.pI rfl) (fun i h => ?_) (fun i hi h1 h2 => ?_)
    · rw [zI_pI, if_neg (by omega)]; exact a1 i h
    · rw [zI_pI]
      by_cases z : 111 = 111 ∧ i = x.toInt.toNat
      · rw [if_pos z]
      · rw [if_neg z]
        exact a2 i hi h1 (by omega)
theorem L_watch (B : B1 s t) (M : QMen s t) (W : QWat s t) (a0 a1 : Int32) : Pc (f_X11_watch s a0 a1) fun x => Pc (f_X12_watch t a0 a1) fun m => x.1 = m.1 ∧ QWat x.2 m.2 := by
  have j3 : (3 : Int32).toInt = 3 := rfl
  have j9 : (9 : Int32).toInt = 9 := rfl
  unfold f_X11_watch f_X12_watch
  by_cases c : 1 ≤ a0.toInt ∧ a0.toInt ≤ 3
  · rw [in_t (a := a0) (by rw [jl1, j3]; exact c)]
    refine Pc_iff (by rw [jlt, jl1]; omega) (Pc_iff (by rw [jlt, j3]; omega) ?_)
    by_cases d : 0 ≤ a1.toInt ∧ a1.toInt ≤ 9
    · rw [in_t (a := a1) (by rw [jl0, j9]; exact d)]
      refine Pc_iff (by rw [jlt, jl0]; omega) (Pc_iff (by rw [jlt, j9]; omega) (Pc_bd ?_))
      unfold f_X2_watchesMade
      refine Pc_st (Pc_st ?_)
      have F0 : Frm [(6, 7)] [12] [] s (pF (pS s 6 7 a0) 12 (-2)) := (Frm.rf.pS rfl).pF rfl
      have e67 : zS (pF (pS s 6 7 a0) 12 (-2)) 6 7 = a0 := rfl
      have L0 : WLk s t (pF (pS s 6 7 a0) 12 (-2)) t (0 : Int32).toInt := ⟨F0, Frm.rf, fun i _ h => by rw [jl0] at h; omega, fun i _ _ => by rw [zI_pF, if_pos rfl]⟩
      generalize pF (pS s 6 7 a0) 12 (-2) = s2 at F0 e67 L0 ⊢
      -- the class keeps how many places
      intro a ea
      have K7 : Frm [] [12] [] s2 a.2 := v_X2_watchesMade_L22 (WS := []) (WI := [12]) (WJ := []) (b := s2) (Q := fun x => Frm [] [12] [] s2 x.2) (F0.Sh_ B.1.sh) rfl (fun _ _ h => h) 4000 s2 0 0 0 Frm.rf _ ea
      have h7 : zS a.2 6 7 = a0 := (K7.1 6 7 rfl).trans e67
      refine Pc_some (Pc_b1S (Pc_if10 (Pc_b1S (Pc_if10 ?_))))
      refine wat_l (q0 := fun (s19 : SS) (x19_3 : Int32) => (f_X12_watch_L102 (fun (s24 : SS)  => (st (pS s24 59 74 a0) fun s25 => some (x19_3, s25))) a0 x19_3 4000 s19 x19_3)) (y2 := a1) c B M 4000 4000 s2 t 0 0 0 L0 (by decide) (by decide) (by decide) (by rw [jl0]; omega) a ea _ (fun u f Lu f0 f9 ef => ?_)
      obtain ⟨_, Fu, l1, l2⟩ := Lu
      refine wat_f (t1 := u) (f := f.toInt) (fun v Fv v1 v2 => Pc_st (Pc_some ⟨ef, Or.inr ⟨by rw [h7]; exact c, ?_, fun i hi => ?_⟩⟩)) 4000 u f f0 (Int.le_refl _) Frm.rf (fun _ _ => rfl) (fun i _ h1 h2 => by omega)
      · show zS a.2 6 7 = zS (pS v 59 74 a0) 59 74
        rw [h7, zS_pS, if_pos ⟨rfl, rfl⟩]
      · show zI a.2 12 i = zI v 111 i
        by_cases z : (i : Int) < f.toInt
        · rw [v1 i z]; exact l1 i hi z
        · rw [v2 i hi (by omega)]; exact l2 i hi (by omega)
    · rw [in_f (a := a1) (by rw [jl0, j9]; exact d)]
      refine Pc_lt (fun _ => Pc_some (Pc_b1S (Pc_if10 (Pc_b1S (Pc_if00 (Pc_some ⟨rfl, W⟩)))))) (fun z => Pc_lt (fun _ => Pc_some (Pc_b1S (Pc_if10 (Pc_b1S (Pc_if00 (Pc_some ⟨rfl, W⟩)))))) (fun w => ?_))
      rw [jl0] at z
      rw [j9] at w
      exact absurd ⟨z, w⟩ d
  · rw [in_f (a := a0) (by rw [jl1, j3]; exact c)]
    refine Pc_lt (fun _ => Pc_some (Pc_b1S (Pc_if00 (Pc_some ⟨rfl, W⟩)))) (fun z => Pc_lt (fun _ => Pc_some (Pc_b1S (Pc_if00 (Pc_some ⟨rfl, W⟩)))) (fun w => ?_))
    rw [jl1] at z
    rw [j3] at w
    exact absurd ⟨z, w⟩ c
theorem V_watched (W : QWat s t) (a0 a1 : Int32) : Pc (f_X11_watched s a0 a1) fun x => Pc (f_X12_watched t a0 a1) fun m => x = m := by
  have j2 : (2 : Int32).toInt = 2 := rfl
  unfold f_X11_watched f_X12_watched
  by_cases c : 0 ≤ a0.toInt ∧ a0.toInt ≤ 2
  · rw [in_t (a := a0) (by rw [jl0, j2]; exact c)]
    refine Pc_iff (by rw [jlt, jl0]; omega) (Pc_iff (by rw [jlt, j2]; omega) ?_)
    have M0 : ∀ K : Option Int32, ¬ ((0 : Int32).toInt ≤ a1.toInt ∧ a1.toInt ≤ (zS t 59 74 - 1).toInt) → Pc (b1 (some (1 : Int32)) fun r1 => if r1 = 0 then some (-1) else b1 (f_X12_in a1 0 (zS t 59 74 - 1)) fun r3 => if r3 = 0 then some (-1) else K) (fun m => (-1 : Int32) = m) := fun K h => by
      rw [in_f h]
      exact Pc_b1S (Pc_if10 (Pc_b1S (Pc_if00 (Pc_some rfl))))
    rcases W with ⟨w1, w2⟩ | ⟨w1, w2, w3⟩
    · have e : (zS t 59 74 - 1).toInt = -2 := by rw [w2]; rfl
      refine Pc_lt (fun z => Pc_some (M0 _ (by rw [jl0] at z ⊢; omega))) (fun z => Pc_lt (fun w => ?_) (fun w => Pc_some (M0 _ (by rw [e, jl0]; omega))))
      rw [w1, jl0] at w
      rw [jl0] at z
      omega
    · have e : (zS t 59 74 - 1).toInt = (zS s 6 7).toInt - 1 := by rw [← w2, i32_sub (by rw [jl1]; omega) (by rw [jl1]; omega), jl1]
      refine Pc_lt (fun z => Pc_some (M0 _ (by rw [jl0] at z ⊢; omega))) (fun z => Pc_lt (fun w => ?_) (fun w => Pc_some (M0 _ (by rw [e]; omega))))
      rw [jl0] at z
      rw [in_t (a := a1) (by rw [jl0, e]; omega), ← w2]
      refine Pc_vl (Pc_gd (fun g => Pc_some (Pc_b1S (Pc_if10 (Pc_b1S (Pc_if10 (Pc_vl (Pc_gd (fun g2 => Pc_some ?_)))))))))
      rw [Int32.mul_comm (zS s 6 7) a0]
      exact w3 _ (by have := g.1; have := g.2; omega)
  · rw [in_f (a := a0) (by rw [jl0, j2]; exact c)]
    refine Pc_lt (fun _ => Pc_some (Pc_b1S (Pc_if00 (Pc_some rfl)))) (fun z => Pc_lt (fun _ => Pc_some (Pc_b1S (Pc_if00 (Pc_some rfl)))) (fun w => ?_))
    rw [jl0] at z
    rw [j2] at w
    exact absurd ⟨z, w⟩ c
end WTs
/-! AIMS -/
theorem mul32 {a b : Int32} {A B : Int} (ha : 0 ≤ a.toInt ∧ a.toInt ≤ A) (hb : 0 ≤ b.toInt ∧ b.toInt ≤ B) (h : A * B < 2147483648) : (a * b).toInt = a.toInt * b.toInt ∧ 0 ≤ (a * b).toInt ∧ (a * b).toInt ≤ A * B := by
  have h1 : 0 ≤ a.toInt * b.toInt := Int.mul_nonneg ha.1 hb.1
  have h2 : a.toInt * b.toInt ≤ A * B := Int.mul_le_mul ha.2 hb.2 hb.1 (Int.le_trans ha.1 ha.2)
  have e : (a * b).toInt = a.toInt * b.toInt := i32_mul (by omega) (by omega)
  rw [e]
  exact ⟨rfl, h1, h2⟩
section AMs
variable {s t s0 t0 : SS}
/-- the hardest of the first rows, for a place -/
def hmx (t : SS) (p : Nat) : Nat → Int
  | 0 => 1
  | k + 1 => if hmx t p k < (zI t 113 (6 * k + p)).toInt then (zI t 113 (6 * k + p)).toInt else hmx t p k
def QRk (t : SS) : Prop := (∀ j, 1 ≤ (zI t 113 j).toInt ∧ (zI t 113 j).toInt ≤ 9) ∧ ∀ i, 0 ≤ (zI t 112 i).toInt ∧ (zI t 112 i).toInt ≤ 9
theorem hmx_b (R : QRk t) (p : Nat) : ∀ k, 1 ≤ hmx t p k ∧ hmx t p k ≤ 9
  | 0 => ⟨by show (1 : Int) ≤ 1; omega, by show (1 : Int) ≤ 9; omega⟩
  | k + 1 => by
    have a := hmx_b R p k
    have b := R.1 (6 * k + p)
    show 1 ≤ (if hmx t p k < (zI t 113 (6 * k + p)).toInt then (zI t 113 (6 * k + p)).toInt else hmx t p k) ∧ (if hmx t p k < (zI t 113 (6 * k + p)).toInt then (zI t 113 (6 * k + p)).toInt else hmx t p k) ≤ 9
    split <;> omega
/-- minutes of a place and a machine -/
def mnA (t : SS) (y : Int) (r p m : Nat) : Int := ((zI t 112 p).toInt + 1) * y * (zI t 78 m).toInt * hmx t p r
theorem mnA_b (R : QRk t) (h78 : ∀ m, m < 3 → 0 ≤ (zI t 78 m).toInt ∧ (zI t 78 m).toInt ≤ 60) {y : Int} {r p m : Nat} (hm : m < 3) (hy : 1 ≤ y ∧ y ≤ 60) : 0 ≤ mnA t y r p m ∧ mnA t y r p m ≤ 324000 := by
  have a := R.2 p
  have b := hmx_b R p r
  have d := h78 m hm
  unfold mnA
  have e1 : 0 ≤ ((zI t 112 p).toInt + 1) * y ∧ ((zI t 112 p).toInt + 1) * y ≤ 10 * 60 := ⟨Int.mul_nonneg (by omega) (by omega), Int.mul_le_mul (by omega) hy.2 (by omega) (by omega)⟩
  have e2 : 0 ≤ ((zI t 112 p).toInt + 1) * y * (zI t 78 m).toInt ∧ ((zI t 112 p).toInt + 1) * y * (zI t 78 m).toInt ≤ 600 * 60 := ⟨Int.mul_nonneg e1.1 d.1, Int.mul_le_mul e1.2 d.2 d.1 (by omega)⟩
  exact ⟨Int.mul_nonneg e2.1 (by omega), Int.le_trans (Int.mul_le_mul e2.2 b.2 (by omega) (by omega)) (by omega)⟩
theorem mxY {Y h r : Int} (hY : 0 ≤ Y) : (if Y * h < Y * r then Y * r else Y * h) = Y * (if h < r then r else h) := by
  by_cases c : h < r
  · rw [if_pos c]
    by_cases d : Y * h < Y * r
    · rw [if_pos d]
    · have : Y * h ≤ Y * r := Int.mul_le_mul_of_nonneg_left (by omega) hY
      rw [if_neg d]
      omega
  · have : Y * r ≤ Y * h := Int.mul_le_mul_of_nonneg_left (by omega) hY
    rw [if_neg c, if_neg (by omega)]
theorem mntL {a0 a1 a2 a3 : Int32} {p m r : Nat} (R : QRk t) (h78 : ∀ m, m < 3 → 0 ≤ (zI t 78 m).toInt ∧ (zI t 78 m).toInt ≤ 60) (h0 : a0.toInt = p) (hp : p < 6) (h1 : a1.toInt = m) (hm : m < 3) (h2 : a2.toInt = r) (hr : 1 ≤ r ∧ r ≤ 4) (h3 : 1 ≤ a3.toInt ∧ a3.toInt ≤ 60) : ∀ (n k : Nat) (x5 x6 : Int32), x6.toInt = k → k ≤ r → x5.toInt = (if k = 0 then 0 else mnA t a3.toInt k p m) → Pc (f_X12_minutesAt_L6 t a0 a1 a2 a3 n x5 x6) (fun v => v.toInt = mnA t a3.toInt r p m)
  | 0, _, _, _, _, _, _ => Pc_none
  | n + 1, k, x5, x6, h6, hk, h5 => by
    have j6 : (6 : Int32).toInt = 6 := rfl
    have e0 : a0.toInt.toNat = p := by omega
    have e1 : a1.toInt.toNat = m := by omega
    show Pc (f_X12_minutesAt_L6_b t a0 a1 a2 a3 (f_X12_minutesAt_L6 t a0 a1 a2 a3 n) x5 x6) _
    unfold f_X12_minutesAt_L6_b
    rw [e0, e1]
    refine Pc_lt (fun c => Pc_gd (fun _ => Pc_gd (fun _ => Pc_vl (Pc_gd (fun _ => ?_))))) (fun c => Pc_some ?_)
    · have n1 : (x6 + 1).toInt = x6.toInt + 1 := by rw [i32_add (by rw [jl1]; omega) (by rw [jl1]; omega), jl1]
      have m6 : ((6 : Int32) * x6).toInt = 6 * k := by rw [i32_mul (by rw [j6]; omega) (by rw [j6]; omega), j6, h6]
      have i6 : ((6 : Int32) * x6 + a0).toInt.toNat = 6 * k + p := by
        rw [i32_add (by rw [m6]; omega) (by rw [m6]; omega), m6]
        omega
      rw [i6]
      have r12 := R.2 p
      have r13 := R.1 (6 * k + p)
      have d := h78 m hm
      have q1 : (zI t 112 p + 1).toInt = (zI t 112 p).toInt + 1 := by rw [i32_add (by rw [jl1]; omega) (by rw [jl1]; omega), jl1]
      obtain ⟨u1, u2⟩ := mul32 (a := zI t 112 p + 1) (b := a3) (A := 10) (B := 60) (by rw [q1]; omega) (by omega) (by omega)
      obtain ⟨v1, v2⟩ := mul32 (a := (zI t 112 p + 1) * a3) (b := zI t 78 m) (A := 600) (B := 60) (by omega) d (by omega)
      obtain ⟨w1, w2⟩ := mul32 (a := (zI t 112 p + 1) * a3 * zI t 78 m) (b := zI t 113 (6 * k + p)) (A := 36000) (B := 9) (by omega) (by omega) (by omega)
      obtain ⟨Y, hY⟩ : ∃ Y : Int, Y = ((zI t 112 p).toInt + 1) * a3.toInt * (zI t 78 m).toInt := ⟨_, rfl⟩
      have X : (((zI t 112 p + 1) * a3 * zI t 78 m) * zI t 113 (6 * k + p)).toInt = Y * (zI t 113 (6 * k + p)).toInt := by rw [w1, v1, u1, q1, hY]
      have X0 : 0 ≤ Y := by rw [hY, ← q1, ← u1, ← v1]; exact v2.1
      have Mk : ∀ j, mnA t a3.toInt j p m = Y * hmx t p j := fun j => by rw [hY]; rfl
      have hs : hmx t p (k + 1) = if hmx t p k < (zI t 113 (6 * k + p)).toInt then (zI t 113 (6 * k + p)).toInt else hmx t p k := rfl
      refine Pc_vl (Pc_jn ?_)
      generalize ((zI t 112 p + 1) * a3 * zI t 78 m) * zI t 113 (6 * k + p) = V at X ⊢
      -- the greater one is the next value
      have nx : (if x5.toInt < V.toInt then V.toInt else x5.toInt) = mnA t a3.toInt (k + 1) p m := by
        rw [Mk, X, h5, hs]
        by_cases z : k = 0
        · have h1' : hmx t p k = 1 := by rw [z]; rfl
          have Y1 : 0 ≤ Y * (zI t 113 (6 * k + p)).toInt := Int.mul_nonneg X0 (by omega)
          have er : (if (1 : Int) < (zI t 113 (6 * k + p)).toInt then (zI t 113 (6 * k + p)).toInt else 1) = (zI t 113 (6 * k + p)).toInt := by
            by_cases y : 1 < (zI t 113 (6 * k + p)).toInt
            · rw [if_pos y]
            · rw [if_neg y]; omega
          rw [if_pos z, h1', er]
          by_cases w : 0 < Y * (zI t 113 (6 * k + p)).toInt
          · rw [if_pos w]
          · rw [if_neg w]; omega
        · rw [if_neg z, Mk, mxY X0]
      refine Pc_lt (fun z => Pc_vl (mntL R h78 h0 hp h1 hm h2 hr h3 n (k + 1) _ _ (by omega) (by omega) ?_)) (fun z => Pc_vl (mntL R h78 h0 hp h1 hm h2 hr h3 n (k + 1) _ _ (by omega) (by omega) ?_))
      · rw [if_pos z] at nx
        rw [if_neg (by omega)]
        exact nx
      · rw [if_neg (by omega)] at nx
        rw [if_neg (by omega)]
        exact nx
    · have : k = r := by omega
      rw [h5, if_neg (by omega), this]
theorem mntM {a0 a1 a2 a3 : Int32} {p m r : Nat} (R : QRk t) (h78 : ∀ m, m < 3 → 0 ≤ (zI t 78 m).toInt ∧ (zI t 78 m).toInt ≤ 60) (h0 : a0.toInt = p) (hp : p < 6) (h1 : a1.toInt = m) (hm : m < 3) (h2 : a2.toInt = r) (hr : 1 ≤ r ∧ r ≤ 4) (h3 : 1 ≤ a3.toInt ∧ a3.toInt ≤ 60) : Pc (f_X12_minutesAt t a0 a1 a2 a3) (fun v => v.toInt = mnA t a3.toInt r p m) := by
  unfold f_X12_minutesAt
  exact mntL R h78 h0 hp h1 hm h2 hr h3 4000 0 0 0 rfl (by omega) (by rw [if_pos rfl]; rfl)
/-- the class: the hardest row of a place -/
theorem wgh16 {y1 y2 y3 : Int32} {p r : Nat} {q0 : Int32 → Option SS} {Q : SS → Prop} (R : QRk t) (e42 : ∀ j, zI s 42 j = zI t 113 j) (h3 : y3.toInt = p) (hp : p < 6) (h1 : y1.toInt = r) (hr : r ≤ 4) (hq : ∀ v : Int32, v.toInt = hmx t p r → Pc (q0 v) Q) : ∀ (n k : Nat) (x4 x5 : Int32), x5.toInt = k → k ≤ r → x4.toInt = hmx t p k → Pc (f_X6_weighPlaces_L16 q0 s y1 y2 y3 n x4 x5) Q
  | 0, _, _, _, _, _, _ => Pc_none
  | n + 1, k, x4, x5, h5, hk, h4 => by
    have j4 : (4 : Int32).toInt = 4 := rfl
    have j6 : (6 : Int32).toInt = 6 := rfl
    show Pc (f_X6_weighPlaces_L16_b q0 s y1 y2 y3 (f_X6_weighPlaces_L16 q0 s y1 y2 y3 n) x4 x5) Q
    unfold f_X6_weighPlaces_L16_b
    refine Pc_lt (fun c => Pc_ift (by rw [jlt, j4]; omega) (Pc_vl (Pc_gd (fun _ => ?_)))) (fun c => hq x4 (by rw [h4, show k = r by omega]))
    have n1 : (x5 + 1).toInt = x5.toInt + 1 := by rw [i32_add (by rw [jl1]; omega) (by rw [jl1]; omega), jl1]
    have m6 : (x5 * (6 : Int32)).toInt = 6 * k := by rw [i32_mul (by rw [j6]; omega) (by rw [j6]; omega), j6, h5]; omega
    have i6 : (x5 * (6 : Int32) + y3).toInt.toNat = 6 * k + p := by
      rw [i32_add (by rw [m6]; omega) (by rw [m6]; omega), m6]
      omega
    rw [i6, e42, maxJ]
    refine Pc_b1S (Pc_vl (wgh16 R e42 h3 hp h1 hr hq n (k + 1) _ _ (by omega) (by omega) ?_))
    show _ = if hmx t p k < (zI t 113 (6 * k + p)).toInt then (zI t 113 (6 * k + p)).toInt else hmx t p k
    rw [mxI, h4]
def WGh (t : SS) (y : Int) (r : Nat) (c : Int) (s : SS) : Prop := ∀ i : Nat, i < 6 → (i : Int) < c → (zI s 43 i).toInt = ((zI t 112 i).toInt + 1) * y * hmx t i r
theorem wghL {y1 y2 : Int32} {r : Nat} (R : QRk t) (e42 : ∀ j, zI s0 42 j = zI t 113 j) (e41 : ∀ i : Nat, i < 6 → (i : Int) < (zS s0 34 9).toInt → zI s0 41 i = zI t 112 i) (h9 : (zS s0 34 9).toInt ≤ 6) (h1 : y1.toInt = r) (hr : r ≤ 4) (h2 : 1 ≤ y2.toInt ∧ y2.toInt ≤ 60) : ∀ (n : Nat) (s : SS) (x3 : Int32), 0 ≤ x3.toInt → Frm [] [43] [] s0 s → WGh t y2.toInt r x3.toInt s → Pc (f_X6_weighPlaces_L2 y1 y2 n s x3) (fun u => Frm [] [43] [] s0 u ∧ WGh t y2.toInt r (zS s0 34 9).toInt u)
  | 0, _, _, _, _, _ => Pc_none
  | n + 1, s, x3, h0, F, W => by
    show Pc (f_X6_weighPlaces_L2_b y1 y2 (f_X6_weighPlaces_L2 y1 y2 n) s x3) _
    unfold f_X6_weighPlaces_L2_b
    have e9 : zS s 34 9 = zS s0 34 9 := F.1 34 9 rfl
    rw [e9]
    refine Pc_lt (fun c => ?_) (fun c => Pc_some ⟨F, fun i hi h => W i hi (by omega)⟩)
    obtain ⟨p, hp⟩ : ∃ p : Nat, x3.toInt = p := ⟨_, (Int.toNat_of_nonneg h0).symm⟩
    have ep : x3.toInt.toNat = p := by omega
    have n1 : (x3 + 1).toInt = x3.toInt + 1 := by rw [i32_add (by rw [jl1]; omega) (by rw [jl1]; omega), jl1]
    refine wgh16 (p := p) (r := r) R (fun j => (F.2.1 42 j rfl).trans (e42 j)) hp (by omega) h1 hr (fun v hv => ?_) 4000 0 1 0 rfl (by omega) rfl
    rw [ep]
    refine Pc_gd (fun _ => Pc_vl (Pc_gd (fun _ => Pc_st (Pc_vl ?_))))
    have a41 : zI s 41 p = zI t 112 p := (F.2.1 41 p rfl).trans (e41 p (by omega) (by omega))
    have r12 := R.2 p
    have hb := hmx_b R p r
    have q1 : (zI t 112 p + 1).toInt = (zI t 112 p).toInt + 1 := by rw [i32_add (by rw [jl1]; omega) (by rw [jl1]; omega), jl1]
    obtain ⟨u1, u2⟩ := mul32 (a := zI t 112 p + 1) (b := y2) (A := 10) (B := 60) (by rw [q1]; omega) (by omega) (by omega)
    obtain ⟨v1, v2⟩ := mul32 (a := (zI t 112 p + 1) * y2) (b := v) (A := 600) (B := 9) (by omega) (by omega) (by omega)
    rw [a41]
    refine wghL R e42 e41 h9 h1 hr h2 n _ (x3 + 1) (by omega) (F.pI rfl) (fun i hi h => ?_)
    rw [zI_pI]
    by_cases z : i = p
    · rw [if_pos ⟨rfl, z⟩, v1, u1, q1, hv, z]
    · rw [if_neg (fun w => z w.2)]
      exact W i hi (by omega)
/-- places and machines chosen alike; e: one has been weighed -/
def ARl (K : Nat) (e : Prop) (s0 t0 s t : SS) (x2 x4 : Int32) : Prop := Frm [] [44, 45] [] s0 s ∧ Frm [] [114, 115] [] t0 t ∧ ((¬ e ∧ x2 = 1000000000 ∧ x4 = 2147483647) ∨ (x2 = x4 ∧ (0 ≤ x2.toInt ∧ x2.toInt ≤ 324000) ∧ ∀ i, i < K → zI s 44 i = zI t 114 i ∧ zI s 45 i = zI t 115 i))
theorem ARl.w {K : Nat} {e e' : Prop} {x2 x4 : Int32} (A : ARl K e s0 t0 s t x2 x4) (h : e' → e) : ARl K e' s0 t0 s t x2 x4 := ⟨A.1, A.2.1, A.2.2.imp (fun z => ⟨fun w => z.1 (h w), z.2⟩) (fun z => z)⟩
/-- a value is less than both that stand, or than none -/
theorem ARl.lt {K : Nat} {e : Prop} {x2 x4 v : Int32} (A : ARl K e s0 t0 s t x2 x4) (hv : 0 ≤ v.toInt ∧ v.toInt ≤ 324000) : v < x2 ↔ v < x4 := by
  rcases A.2.2 with ⟨_, z2, z4⟩ | ⟨z, _⟩
  · rw [z2, z4, jlt, jlt, show (1000000000 : Int32).toInt = 1000000000 from rfl, show (2147483647 : Int32).toInt = 2147483647 from rfl]
    omega
  · rw [z]
theorem ARl.no {K : Nat} {e : Prop} {x2 x4 v : Int32} (A : ARl K e s0 t0 s t x2 x4) (hv : 0 ≤ v.toInt ∧ v.toInt ≤ 324000) (h : ¬ v < x2) : ARl K True s0 t0 s t x2 x4 := by
  refine ⟨A.1, A.2.1, ?_⟩
  rcases A.2.2 with ⟨_, z2, z4⟩ | z
  · exfalso
    apply h
    rw [z2, jlt, show (1000000000 : Int32).toInt = 1000000000 from rfl]
    omega
  · exact Or.inr z
def PCl (P : Int32 × SS → Option (Int32 × SS) → Prop) : Prop := (∀ a, P a none) ∧ ∀ a K K', (∀ R : Int32 × SS → Prop, Pc K R → Pc K' R) → P a K → P a K'
/-- what stands while it is weighed -/
def AWt (s0 t0 : SS) (y : Int) (r : Nat) (c : Int) : Prop := Sh s0 ∧ QRk t0 ∧ (∀ m, m < 3 → 0 ≤ (zI t0 78 m).toInt ∧ (zI t0 78 m).toInt ≤ 60) ∧ (∀ m, m < 3 → zS s0 (20 + m) 0 = zI t0 78 m) ∧ WGh t0 y r c s0 ∧ (1 ≤ y ∧ y ≤ 60) ∧ (1 ≤ r ∧ r ≤ 4) ∧ c ≤ 6
theorem hmx_c {t' : SS} (h : ∀ j, zI t' 113 j = zI t 113 j) (p : Nat) : ∀ k, hmx t' p k = hmx t p k
  | 0 => rfl
  | k + 1 => by
    show (if hmx t' p k < (zI t' 113 (6 * k + p)).toInt then (zI t' 113 (6 * k + p)).toInt else hmx t' p k) = (if hmx t p k < (zI t 113 (6 * k + p)).toInt then (zI t 113 (6 * k + p)).toInt else hmx t p k)
    rw [hmx_c h p k, h]
theorem mnA_f {y : Int} {r p m : Nat} (F : Frm [] [114, 115] [] t0 t) : mnA t y r p m = mnA t0 y r p m := by
  unfold mnA
  rw [hmx_c (fun j => F.2.1 113 j rfl), F.2.1 112 p rfl, F.2.1 78 m rfl]
theorem QRk.f (R : QRk t0) (F : Frm [] [114, 115] [] t0 t) : QRk t := ⟨fun j => by rw [F.2.1 113 j rfl]; exact R.1 j, fun i => by rw [F.2.1 112 i rfl]; exact R.2 i⟩
/-- the reference's minutes while it is weighed -/
theorem AWt.m {y c : Int} {r p m : Nat} {a0 a1 a2 a3 : Int32} (W : AWt s0 t0 y r c) (F : Frm [] [114, 115] [] t0 t) (h0 : a0.toInt = p) (hp : p < 6) (h1 : a1.toInt = m) (hm : m < 3) (h2 : a2.toInt = r) (h3 : a3.toInt = y) : Pc (f_X12_minutesAt t a0 a1 a2 a3) (fun v => v.toInt = mnA t0 y r p m) := by
  obtain ⟨_, R, h78, _, _, hy, hr, _⟩ := W
  refine Pc.mono (mntM (R.f F) (fun m hm => by rw [F.2.1 78 m rfl]; exact h78 m hm) h0 hp h1 hm h2 hr (by rw [h3]; exact hy)) (fun v hv => ?_)
  rw [hv, h3, mnA_f F]
/-- the class's minutes -/
theorem AWt.x {y c : Int} {r p m : Nat} (W : AWt s0 t0 y r c) (F : Frm [] [44, 45] [] s0 s) (hp : (p : Int) < c) (hm : m < 3) : (zI s 43 p * zS s (20 + m) 0).toInt = mnA t0 y r p m := by
  obtain ⟨_, R, h78, hp0, Wg, hy, hr, hc⟩ := W
  have p6 : p < 6 := by omega
  have w := Wg p p6 hp
  have e43 : zI s 43 p = zI s0 43 p := F.2.1 43 p rfl
  have ep : zS s (20 + m) 0 = zI t0 78 m := (F.1 (20 + m) 0 rfl).trans (hp0 m hm)
  have a := R.2 p
  have b := hmx_b R p r
  have e1 : 0 ≤ ((zI t0 112 p).toInt + 1) * y ∧ ((zI t0 112 p).toInt + 1) * y ≤ 10 * 60 := ⟨Int.mul_nonneg (by omega) (by omega), Int.mul_le_mul (by omega) hy.2 (by omega) (by omega)⟩
  have e2 : 0 ≤ ((zI t0 112 p).toInt + 1) * y * hmx t0 p r ∧ ((zI t0 112 p).toInt + 1) * y * hmx t0 p r ≤ 600 * 9 := ⟨Int.mul_nonneg e1.1 (by omega), Int.mul_le_mul e1.2 b.2 (by omega) (by omega)⟩
  obtain ⟨u1, u2⟩ := mul32 (a := zI s0 43 p) (b := zI t0 78 m) (A := 5400) (B := 60) (by rw [w]; omega) (h78 m hm) (by omega)
  rw [e43, ep, u1, w]
  unfold mnA
  exact Int.mul_right_comm _ _ _
theorem AWt.b {y c : Int} {r p m : Nat} (W : AWt s0 t0 y r c) (hm : m < 3) : 0 ≤ mnA t0 y r p m ∧ mnA t0 y r p m ≤ 324000 := mnA_b W.2.1 W.2.2.1 hm W.2.2.2.2.2.1
theorem AWt.r {y c : Int} {r : Nat} {x : Int32} {m : Nat} (W : AWt s0 t0 y r c) (F : Frm [] [44, 45] [] s0 s) (hx : x.toInt = m) (hm : m < 3) : zR s 19 x.toInt.toNat = some (20 + m) := by
  rw [F.zR_, show x.toInt.toNat = m by omega]
  exact W.1.2.2.2.1 m hm
/-- one machine: machine by machine -/
theorem one_m {qX : SS → Int32 → Option (Int32 × SS)} {qM : SS → Int32 → Option (Int32 × SS)} {P : Int32 × SS → Option (Int32 × SS) → Prop} {a0 a1 y3 : Int32} {c : Int} {r p : Nat} (HP : PCl P) (W : AWt s0 t0 a1.toInt r c) (h0 : a0.toInt = r) (h3 : y3.toInt = p) (hp : (p : Int) < c) (hq : ∀ s t x2 x4, ARl 1 True s0 t0 s t x2 x4 → Pc (qX s x2) (fun a => P a (qM t x4))) : ∀ (n k : Nat) (s t : SS) (x2 x4 x : Int32) (m : Nat), x.toInt = m → m ≤ 3 → ARl 1 (0 < m) s0 t0 s t x2 x4 → Pc (f_X6_soonestOne_L16 qX y3 n s x2 x) (fun a => P a (f_X12_aimed_L109 qM a0 a1 1 y3 0 k t x4 x))
  | 0, _, _, _, _, _, _, _, _, _, _ => Pc_none
  | n + 1, 0, _, _, _, _, _, _, _, _, _ => fun a _ => HP.1 a
  | n + 1, k + 1, s, t, x2, x4, x, m, hx, hm, A => by
    have j3 : (3 : Int32).toInt = 3 := rfl
    have ey : y3.toInt.toNat = p := by omega
    show Pc (f_X6_soonestOne_L16_b qX y3 (f_X6_soonestOne_L16 qX y3 n) s x2 x) (fun a => P a (f_X12_aimed_L109_b qM a0 a1 1 y3 0 (f_X12_aimed_L109 qM a0 a1 1 y3 0 k) t x4 x))
    unfold f_X6_soonestOne_L16_b f_X12_aimed_L109_b
    refine Pc_lt (fun cx => ?_) (fun cx => ?_)
    · rw [j3] at cx
      have m3 : m < 3 := by omega
      have n1 : (x + 1).toInt = x.toInt + 1 := by rw [i32_add (by rw [jl1]; omega) (by rw [jl1]; omega), jl1]
      have vb := W.b (p := p) m3
      rw [W.r A.1 hx m3, ey]
      refine Pc_gd (fun _ => Pc_gd (fun _ => Pc_onS (Pc_vl (Pc_jn ?_))))
      have vx := W.x (s := s) (p := p) A.1 hp m3
      generalize zI s 43 p * zS s (20 + m) 0 = V at vx ⊢
      have lt := A.lt (v := V) (by omega)
      -- the reference, this machine
      have md : ∀ R : Int32 × SS → Prop, (∀ r19 : Int32, r19 = V → Pc (f_X12_aimed_L109 qM a0 a1 1 y3 0 k (if r19 < x4 then pI (pI (pI (pI t 114 0 y3) 115 0 x) 114 1 0) 115 1 2 else t) (if r19 < x4 then r19 else x4) (x + 1)) R) → Pc (if x < (3 : Int32) then (jn (fun (t17_0 : Int32) => (f_X12_aimed_L130 (fun (s32 : SS) (x32_4 : Int32) => (vl (x + 1) fun v33 => (f_X12_aimed_L109 qM a0 a1 1 y3 0 k s32 x32_4 v33))) a0 a1 1 y3 0 x 4000 t x4 t17_0)) fun k17 => (if (1 : Int32) = (2 : Int32) then (k17 (x + (1 : Int32))) else (k17 2))) else (qM t x4)) R := by
        intro R g
        refine Pc_ift (by rw [jlt, j3]; omega) (Pc_jn (Pc_iff (by decide) ?_))
        show Pc (f_X12_aimed_L130_b _ a0 a1 1 y3 0 x (f_X12_aimed_L130 _ a0 a1 1 y3 0 x 3999) t x4 2) R
        unfold f_X12_aimed_L130_b
        refine Pc_ift (by decide) (Pc_b1 (Pc.mono (W.m (t := t) (a0 := y3) (a1 := x) (a2 := a0) (a3 := a1) A.2.1 h3 (by have := W.2.2.2.2.2.2.2; omega) hx m3 h0 rfl) (fun r19 hr => Pc_jn (Pc_iff (by decide) (Pc_jn (Pc_iff (by rw [jlt, jl0]; omega) (Pc_jn ?_)))))))
        have e19 : r19 = V := Int32.toInt_inj.1 (hr.trans vx.symm)
        have G := g r19 e19
        -- behind it
        have tl : ∀ (u : SS) (v : Int32), Pc (f_X12_aimed_L109 qM a0 a1 1 y3 0 k u v (x + 1)) R → Pc (vl ((2 : Int32) + 1) fun v23 => f_X12_aimed_L130 (fun (s32 : SS) (x32_4 : Int32) => (vl (x + 1) fun v33 => (f_X12_aimed_L109 qM a0 a1 1 y3 0 k s32 x32_4 v33))) a0 a1 1 y3 0 x 3999 u v v23) R := by
          intro u v h
          refine Pc_vl ?_
          show Pc (f_X12_aimed_L130_b _ a0 a1 1 y3 0 x (f_X12_aimed_L130 _ a0 a1 1 y3 0 x 3998) u v (2 + 1)) R
          unfold f_X12_aimed_L130_b
          exact Pc_iff (by decide) (Pc_vl h)
        refine Pc_if (fun z => ?_) (fun z => ?_)
        · rw [if_pos z, if_pos z] at G
          exact Pc_st (Pc_st (Pc_st (Pc_st (tl _ _ G))))
        · rw [if_neg z, if_neg z] at G
          exact tl _ _ G
      refine Pc_if (fun z => Pc_st (Pc_st (Pc_vl ?_))) (fun z => Pc_vl ?_)
      · have A' : ARl 1 (0 < m + 1) s0 t0 (pI (pI s 44 0 y3) 45 0 x) (pI (pI (pI (pI t 114 0 y3) 115 0 x) 114 1 0) 115 1 2) V V := by
          refine ⟨(A.1.pI rfl).pI rfl, (((A.2.1.pI rfl).pI rfl).pI rfl).pI rfl, Or.inr ⟨rfl, by omega, fun i hi => ?_⟩⟩
          have : i = 0 := by omega
          subst this
          exact ⟨rfl, rfl⟩
        refine Pc.mono (one_m HP W h0 h3 hp hq n k _ _ V V (x + 1) (m + 1) (by omega) (by omega) A') (fun a ha => HP.2 a _ _ (fun R h => md R (fun r19 e => ?_)) ha)
        rw [e, if_pos (lt.mp z), if_pos (lt.mp z)]
        exact h
      · have A' : ARl 1 (0 < m + 1) s0 t0 s t x2 x4 := (A.no (v := V) (by omega) z).w (fun _ => trivial)
        refine Pc.mono (one_m HP W h0 h3 hp hq n k _ _ x2 x4 (x + 1) (m + 1) (by omega) (by omega) A') (fun a ha => HP.2 a _ _ (fun R h => md R (fun r19 e => ?_)) ha)
        rw [e, if_neg (fun w => z (lt.mpr w)), if_neg (fun w => z (lt.mpr w))]
        exact h
    · rw [j3] at cx
      refine Pc.mono (hq s t x2 x4 (A.w (fun _ => by omega))) (fun a ha => HP.2 a _ _ (fun R h => Pc_iff (by rw [jlt, j3]; omega) h) ha)
/-- one machine: place by place -/
theorem one_p {qX : SS → Int32 → Option (Int32 × SS)} {qM : SS → Int32 → Option (Int32 × SS)} {P : Int32 × SS → Option (Int32 × SS) → Prop} {a0 a1 : Int32} {r : Nat} (HP : PCl P) (W : AWt s0 t0 a1.toInt r (zS s0 34 9).toInt) (h0 : a0.toInt = r) (e9 : zS s0 34 9 = zS t0 59 76) (hq : ∀ s t x2 x4, ARl 1 (0 < (zS s0 34 9).toInt) s0 t0 s t x2 x4 → Pc (qX s x2) (fun a => P a (qM t x4))) : ∀ (n k : Nat) (s t : SS) (x2 x4 x : Int32), 0 ≤ x.toInt → ARl 1 (0 < x.toInt) s0 t0 s t x2 x4 → Pc (f_X6_soonestOne_L5 qX n s x2 x) (fun a => P a (f_X12_aimed_L61 qM a0 a1 1 k t x4 x))
  | 0, _, _, _, _, _, _, _, _ => Pc_none
  | n + 1, 0, _, _, _, _, _, _, _ => fun a _ => HP.1 a
  | n + 1, k + 1, s, t, x2, x4, x, hx, A => by
    have c6 := W.2.2.2.2.2.2.2
    show Pc (f_X6_soonestOne_L5_b qX (f_X6_soonestOne_L5 qX n) s x2 x) (fun a => P a (f_X12_aimed_L61_b qM a0 a1 1 (f_X12_aimed_L61 qM a0 a1 1 k) t x4 x))
    unfold f_X6_soonestOne_L5_b f_X12_aimed_L61_b
    have es : zS s 34 9 = zS s0 34 9 := A.1.1 34 9 rfl
    have et : zS t 59 76 = zS s0 34 9 := (A.2.1.1 59 76 rfl).trans e9.symm
    rw [es, et]
    refine Pc_lt (fun cx => ?_) (fun cx => Pc.mono (hq s t x2 x4 (A.w (fun h => by omega))) (fun a ha => HP.2 a _ _ (fun R h => Pc_iff (by rw [jlt]; omega) h) ha))
    obtain ⟨p, hp⟩ : ∃ p : Nat, x.toInt = p := ⟨_, (Int.toNat_of_nonneg hx).symm⟩
    have n1 : (x + 1).toInt = x.toInt + 1 := by rw [i32_add (by rw [jl1]; omega) (by rw [jl1]; omega), jl1]
    -- the reference: one round of its inner loop
    have md : ∀ (a : Int32 × SS), P a (f_X12_aimed_L109 (fun (s35 : SS) (x35_4 : Int32) => (vl ((0 : Int32) + 1) fun v14 => f_X12_aimed_L73 (fun (s39 : SS) (x39_4 : Int32) => (vl (x + 1) fun v40 => (f_X12_aimed_L61 qM a0 a1 1 k s39 x39_4 v40))) a0 a1 1 x 3999 s35 x35_4 v14)) a0 a1 1 x 0 4000 t x4 0) → P a (if x < zS s0 34 9 then (f_X12_aimed_L73 (fun (s39 : SS) (x39_4 : Int32) => (vl (x + 1) fun v40 => (f_X12_aimed_L61 qM a0 a1 1 k s39 x39_4 v40))) a0 a1 1 x 4000 t x4 0) else (qM t x4)) := fun a ha => HP.2 a _ _ (fun R h => by
      refine Pc_ift (by rw [jlt]; exact cx) ?_
      show Pc (f_X12_aimed_L73_b _ a0 a1 1 x (f_X12_aimed_L73 _ a0 a1 1 x 3999) t x4 0) R
      unfold f_X12_aimed_L73_b
      exact Pc_jn (Pc_iff (by decide) (Pc_ift (by decide) (Pc_jn (Pc_jn (Pc_iff (by decide) h)))))) ha
    refine Pc.mono (one_m (qM := fun (s35 : SS) (x35_4 : Int32) => (vl ((0 : Int32) + 1) fun v14 => f_X12_aimed_L73 (fun (s39 : SS) (x39_4 : Int32) => (vl (x + 1) fun v40 => (f_X12_aimed_L61 qM a0 a1 1 k s39 x39_4 v40))) a0 a1 1 x 3999 s35 x35_4 v14)) (P := P) HP W h0 hp (by omega) (fun s' t' y2 y4 A' => ?_) 4000 4000 s t x2 x4 0 0 rfl (by omega) (A.w (fun h => by omega))) (fun a ha => md a ha)
    refine Pc_vl (Pc.mono (one_p HP W h0 e9 hq n k s' t' y2 y4 (x + 1) (by omega) (A'.w (fun _ => trivial))) (fun a ha => HP.2 a _ _ (fun R h => Pc_vl ?_) ha))
    show Pc (f_X12_aimed_L73_b _ a0 a1 1 x (f_X12_aimed_L73 _ a0 a1 1 x 3998) t' y4 (0 + 1)) R
    unfold f_X12_aimed_L73_b
    exact Pc_jn (Pc_iff (by decide) (Pc_iff (by decide) (Pc_vl h)))
/-- a run that implies is the same run, or none -/
theorem imp_eq {ρ : Type} {K K' : Option ρ} (h : ∀ R : ρ → Prop, Pc K R → Pc K' R) : K' = none ∨ K' = K := by
  cases e : K' with
  | none => exact Or.inl rfl
  | some m => exact Or.inr (h (fun m' => K = some m') (fun r er => er) m e).symm
/-- the reference stands where the class stands -/
def TQ (s0 t0 : SS) (e : Prop) (qM : SS → Int32 → Option (Int32 × SS)) (a : Int32 × SS) (K : Option (Int32 × SS)) : Prop := K = none ∨ ∃ u y4, ARl 2 e s0 t0 a.2 u a.1 y4 ∧ K = qM u y4
theorem TQ_cl {e : Prop} {qM : SS → Int32 → Option (Int32 × SS)} : PCl (TQ s0 t0 e qM) := by
  refine ⟨fun a => Or.inl rfl, fun a K K' h hK => ?_⟩
  rcases imp_eq h with z | z
  · exact Or.inl z
  · rw [z]; exact hK
theorem two_o {qX : SS → Int32 → Option (Int32 × SS)} {qM : SS → Int32 → Option (Int32 × SS)} {P : Int32 × SS → Option (Int32 × SS) → Prop} {a0 a1 y2 y3 y6 : Int32} {c : Int} {e : Prop} {r p q m : Nat} (HP : PCl P) (W : AWt s0 t0 a1.toInt r c) (h0 : a0.toInt = r) (h2 : y2.toInt = p) (hp : (p : Int) < c) (h3 : y3.toInt = q) (hr : (q : Int) < c) (h6 : y6.toInt = m) (hm : m < 3) (hq : ∀ s t x2 x4, ARl 2 (e ∨ m + 1 < 3) s0 t0 s t x2 x4 → Pc (qX s x2) (fun a => P a (qM t x4))) : ∀ (n k : Nat) (s t : SS) (x2 x4 x : Int32) (o : Nat), x.toInt = o → o ≤ 3 → ARl 2 (e ∨ m + 1 < o) s0 t0 s t x2 x4 → Pc (f_X6_soonestPair_L20 qX y2 y3 y6 n s x2 x) (fun a => P a (f_X12_aimed_L130 qM a0 a1 2 y2 y3 y6 k t x4 x))
  | 0, _, _, _, _, _, _, _, _, _, _ => Pc_none
  | n + 1, 0, _, _, _, _, _, _, _, _, _ => fun a _ => HP.1 a
  | n + 1, k + 1, s, t, x2, x4, x, o, hx, ho, A => by
    have j3 : (3 : Int32).toInt = 3 := rfl
    have c6 := W.2.2.2.2.2.2.2
    have ep : y2.toInt.toNat = p := by omega
    have eq : y3.toInt.toNat = q := by omega
    show Pc (f_X6_soonestPair_L20_b qX y2 y3 y6 (f_X6_soonestPair_L20 qX y2 y3 y6 n) s x2 x) (fun a => P a (f_X12_aimed_L130_b qM a0 a1 2 y2 y3 y6 (f_X12_aimed_L130 qM a0 a1 2 y2 y3 y6 k) t x4 x))
    unfold f_X6_soonestPair_L20_b f_X12_aimed_L130_b
    refine Pc_lt (fun cx => ?_) (fun cx => ?_)
    · rw [j3] at cx
      have o3 : o < 3 := by omega
      have n1 : (x + 1).toInt = x.toInt + 1 := by rw [i32_add (by rw [jl1]; omega) (by rw [jl1]; omega), jl1]
      have vb := W.b (p := p) hm
      have ub := W.b (p := q) o3
      rw [W.r A.1 h6 hm, W.r A.1 hx o3, ep, eq]
      refine Pc_gd (fun _ => Pc_gd (fun _ => Pc_onS (Pc_gd (fun _ => Pc_gd (fun _ => Pc_onS ?_)))))
      have vx := W.x (s := s) (p := p) A.1 hp hm
      have ux := W.x (s := s) (p := q) A.1 hr o3
      generalize zI s 43 p * zS s (20 + m) 0 = V1 at vx ⊢
      generalize zI s 43 q * zS s (20 + o) 0 = V2 at ux ⊢
      rw [maxJ]
      refine Pc_b1S (Pc_jn ?_)
      have VV : (if V1 < V2 then V2 else V1).toInt = if V1.toInt < V2.toInt then V2.toInt else V1.toInt := mxI
      -- the reference, this pair
      have md : ∀ R : Int32 × SS → Prop, (∀ v : Int32, v = (if V1 < V2 then V2 else V1) → Pc (f_X12_aimed_L130 qM a0 a1 2 y2 y3 y6 k (if v < x4 then pI (pI (pI (pI t 114 0 y2) 115 0 y6) 114 1 y3) 115 1 x else t) (if v < x4 then v else x4) (x + 1)) R) → Pc (if x < (3 : Int32) then (b1 (f_X12_minutesAt t y2 y6 a0 a1) fun r19 => (jn (fun (t20_0 : Int32) => (jn (fun (t21_0 : Int32) => (jn (fun (s22 : SS) (j22_4 : Int32) => (vl (x + 1) fun v23 => (f_X12_aimed_L130 qM a0 a1 2 y2 y3 y6 k s22 j22_4 v23))) fun k22 => (if t21_0 < x4 then (st (pI t 114 ((0 : Int32).toInt.toNat) y2) fun s25 => (st (pI s25 115 ((0 : Int32).toInt.toNat) y6) fun s26 => (st (pI s26 114 ((1 : Int32).toInt.toNat) y3) fun s27 => (st (pI s27 115 ((1 : Int32).toInt.toNat) x) fun s28 => (k22 s28 t21_0))))) else (k22 t x4)))) fun k21 => (if r19 < t20_0 then (k21 t20_0) else (k21 r19)))) fun k20 => (if (2 : Int32) = (2 : Int32) then (b1 (f_X12_minutesAt t y3 x a0 a1) fun r31 => (k20 r31)) else (k20 0)))) else (qM t x4)) R := by
        intro R g
        refine Pc_ift (by rw [jlt, j3]; omega) (Pc_b1 (Pc.mono (W.m (t := t) (a0 := y2) (a1 := y6) (a2 := a0) (a3 := a1) A.2.1 h2 (by omega) h6 hm h0 rfl) (fun r19 hr19 => Pc_jn (Pc_ift rfl (Pc_b1 (Pc.mono (W.m (t := t) (a0 := y3) (a1 := x) (a2 := a0) (a3 := a1) A.2.1 h3 (by omega) hx o3 h0 rfl) (fun r31 hr31 => Pc_jn ?_)))))))
        have e19 : r19 = V1 := Int32.toInt_inj.1 (hr19.trans vx.symm)
        have e31 : r31 = V2 := Int32.toInt_inj.1 (hr31.trans ux.symm)
        rw [e19, e31]
        -- behind it
        have tl : ∀ v : Int32, v = (if V1 < V2 then V2 else V1) → Pc (jn (fun (s22 : SS) (j22_4 : Int32) => (vl (x + 1) fun v23 => (f_X12_aimed_L130 qM a0 a1 2 y2 y3 y6 k s22 j22_4 v23))) fun k22 => (if v < x4 then (st (pI t 114 ((0 : Int32).toInt.toNat) y2) fun s25 => (st (pI s25 115 ((0 : Int32).toInt.toNat) y6) fun s26 => (st (pI s26 114 ((1 : Int32).toInt.toNat) y3) fun s27 => (st (pI s27 115 ((1 : Int32).toInt.toNat) x) fun s28 => (k22 s28 v))))) else (k22 t x4))) R := by
          intro v hv
          have G := g v hv
          refine Pc_jn (Pc_if (fun z => ?_) (fun z => ?_))
          · rw [if_pos z, if_pos z] at G
            exact Pc_st (Pc_st (Pc_st (Pc_st (Pc_vl G))))
          · rw [if_neg z, if_neg z] at G
            exact Pc_vl G
        exact Pc_if (fun z => tl V2 (by rw [if_pos z])) (fun z => tl V1 (by rw [if_neg z]))
      generalize (if V1 < V2 then V2 else V1) = V at VV md ⊢
      have Vb : 0 ≤ V.toInt ∧ V.toInt ≤ 324000 := by
        rw [VV]
        by_cases z : V1.toInt < V2.toInt
        · rw [if_pos z]; omega
        · rw [if_neg z]; omega
      have lt := A.lt (v := V) Vb
      refine Pc_if (fun z => Pc_st (Pc_st (Pc_st (Pc_st (Pc_vl ?_))))) (fun z => Pc_vl ?_)
      · have A' : ARl 2 (e ∨ m + 1 < o + 1) s0 t0 (pI (pI (pI (pI s 44 0 y2) 45 0 y6) 44 1 y3) 45 1 x) (pI (pI (pI (pI t 114 0 y2) 115 0 y6) 114 1 y3) 115 1 x) V V := by
          refine ⟨(((A.1.pI rfl).pI rfl).pI rfl).pI rfl, (((A.2.1.pI rfl).pI rfl).pI rfl).pI rfl, Or.inr ⟨rfl, Vb, fun i hi => ?_⟩⟩
          rcases (by omega : i = 0 ∨ i = 1) with z | z
          · subst z
            exact ⟨rfl, rfl⟩
          · subst z
            exact ⟨rfl, rfl⟩
        refine Pc.mono (two_o HP W h0 h2 hp h3 hr h6 hm hq n k _ _ V V (x + 1) (o + 1) (by omega) (by omega) A') (fun a ha => HP.2 a _ _ (fun R h => md R (fun v ev => ?_)) ha)
        rw [ev, if_pos (lt.mp z), if_pos (lt.mp z)]
        exact h
      · have A' : ARl 2 (e ∨ m + 1 < o + 1) s0 t0 s t x2 x4 := (A.no (v := V) Vb z).w (fun _ => trivial)
        refine Pc.mono (two_o HP W h0 h2 hp h3 hr h6 hm hq n k _ _ x2 x4 (x + 1) (o + 1) (by omega) (by omega) A') (fun a ha => HP.2 a _ _ (fun R h => md R (fun v ev => ?_)) ha)
        rw [ev, if_neg (fun w => z (lt.mpr w)), if_neg (fun w => z (lt.mpr w))]
        exact h
    · rw [j3] at cx
      refine Pc.mono (hq s t x2 x4 (A.w (fun z => ?_))) (fun a ha => HP.2 a _ _ (fun R h => Pc_iff (by rw [jlt, j3]; omega) h) ha)
      exact z.imp (fun z => z) (fun z => by omega)
theorem two_m {qM : SS → Int32 → Option (Int32 × SS)} {a0 a1 y2 y3 : Int32} {c : Int} {e : Prop} {r p q : Nat} (W : AWt s0 t0 a1.toInt r c) (h0 : a0.toInt = r) (h2 : y2.toInt = p) (hp : (p : Int) < c) (h3 : y3.toInt = q) (hr : (q : Int) < c) : ∀ (n k : Nat) (s t : SS) (x2 x4 x : Int32) (m : Nat), x.toInt = m → m ≤ 3 → ARl 2 (e ∨ 0 < m) s0 t0 s t x2 x4 → Pc (f_X6_soonestPair_L7 y2 y3 n s x2 x) (fun a => TQ s0 t0 True qM a (f_X12_aimed_L109 qM a0 a1 2 y2 y3 k t x4 x))
  | 0, _, _, _, _, _, _, _, _, _, _ => Pc_none
  | n + 1, 0, _, _, _, _, _, _, _, _, _ => fun a _ => Or.inl rfl
  | n + 1, k + 1, s, t, x2, x4, x, m, hx, hm, A => by
    have j3 : (3 : Int32).toInt = 3 := rfl
    show Pc (f_X6_soonestPair_L7_b y2 y3 (f_X6_soonestPair_L7 y2 y3 n) s x2 x) (fun a => TQ s0 t0 True qM a (f_X12_aimed_L109_b qM a0 a1 2 y2 y3 (f_X12_aimed_L109 qM a0 a1 2 y2 y3 k) t x4 x))
    unfold f_X6_soonestPair_L7_b f_X12_aimed_L109_b
    refine Pc_lt (fun cx => ?_) (fun cx => ?_)
    · rw [j3] at cx
      have n1 : (x + 1).toInt = x.toInt + 1 := by rw [i32_add (by rw [jl1]; omega) (by rw [jl1]; omega), jl1]
      refine Pc_vl (Pc.mono (two_o (qM := fun (s32 : SS) (x32_4 : Int32) => (vl (x + 1) fun v33 => (f_X12_aimed_L109 qM a0 a1 2 y2 y3 k s32 x32_4 v33))) (P := TQ s0 t0 True qM) (e := e ∨ 0 < m) TQ_cl W h0 h2 hp h3 hr hx (by omega) (fun s' t' z2 z4 A' => ?_) 4000 4000 s t x2 x4 (x + 1) (m + 1) (by omega) (by omega) (A.w (fun z => z.elim (fun z => z) (fun z => by omega)))) (fun a ha => TQ_cl.2 a _ _ (fun R h => ?_) ha))
      · exact Pc_vl (Pc.mono (two_m W h0 h2 hp h3 hr n k s' t' z2 z4 (x + 1) (m + 1) (by omega) (by omega) (A'.w (fun z => z.elim (fun z => Or.inl (Or.inl z)) (fun z => by by_cases w : 0 < m; exact Or.inl (Or.inr w); exact Or.inr (by omega))))) (fun a ha => ha))
      · exact Pc_ift (by rw [jlt, j3]; omega) (Pc_jn (Pc_ift rfl h))
    · rw [j3] at cx
      refine Pc_some ?_
      rw [if_neg (by rw [jlt, j3]; omega)]
      exact Or.inr ⟨t, x4, A.w (fun _ => Or.inr (by omega)), rfl⟩
theorem two_q {qX : SS → Int32 → Option (Int32 × SS)} {qM : SS → Int32 → Option (Int32 × SS)} {P : Int32 × SS → Option (Int32 × SS) → Prop} {a0 a1 y3 : Int32} {e : Prop} {r p : Nat} (HP : PCl P) (W : AWt s0 t0 a1.toInt r (zS s0 34 9).toInt) (h0 : a0.toInt = r) (e9 : zS s0 34 9 = zS t0 59 76) (h3 : y3.toInt = p) (hp : (p : Int) < (zS s0 34 9).toInt) (hq : ∀ s t x2 x4, ARl 2 (e ∨ ∃ q : Nat, (q : Int) < (zS s0 34 9).toInt ∧ q ≠ p) s0 t0 s t x2 x4 → Pc (qX s x2) (fun a => P a (qM t x4))) : ∀ (n k : Nat) (s t : SS) (x2 x4 x : Int32), 0 ≤ x.toInt → ARl 2 (e ∨ ∃ q : Nat, (q : Int) < x.toInt ∧ q ≠ p) s0 t0 s t x2 x4 → Pc (f_X6_soonestTwo_L16 qX y3 n s x2 x) (fun a => P a (f_X12_aimed_L73 qM a0 a1 2 y3 k t x4 x))
  | 0, _, _, _, _, _, _, _, _ => Pc_none
  | n + 1, 0, _, _, _, _, _, _, _ => fun a _ => HP.1 a
  | n + 1, k + 1, s, t, x2, x4, x, hx, A => by
    have c6 := W.2.2.2.2.2.2.2
    show Pc (f_X6_soonestTwo_L16_b qX y3 (f_X6_soonestTwo_L16 qX y3 n) s x2 x) (fun a => P a (f_X12_aimed_L73_b qM a0 a1 2 y3 (f_X12_aimed_L73 qM a0 a1 2 y3 k) t x4 x))
    unfold f_X6_soonestTwo_L16_b f_X12_aimed_L73_b
    have es : zS s 34 9 = zS s0 34 9 := A.1.1 34 9 rfl
    have et : zS t 59 76 = zS s0 34 9 := (A.2.1.1 59 76 rfl).trans e9.symm
    rw [es, et]
    refine Pc_lt (fun cx => Pc_jn ?_) (fun cx => Pc.mono (hq s t x2 x4 (A.w (fun h => ?_))) (fun a ha => HP.2 a _ _ (fun R h => Pc_jn (Pc_ift rfl (Pc_iff (by rw [jlt]; omega) h))) ha))
    · obtain ⟨w, hw⟩ : ∃ w : Nat, x.toInt = w := ⟨_, (Int.toNat_of_nonneg hx).symm⟩
      have n1 : (x + 1).toInt = x.toInt + 1 := by rw [i32_add (by rw [jl1]; omega) (by rw [jl1]; omega), jl1]
      refine Pc_if (fun z => Pc_vl ?_) (fun z => Pc_bd ?_)
      · have ew : w = p := by have := congrArg Int32.toInt z; omega
        refine Pc.mono (two_q HP W h0 e9 h3 hp hq n k s t x2 x4 (x + 1) (by omega) (A.w (fun h => ?_))) (fun a ha => HP.2 a _ _ (fun R h => Pc_jn (Pc_ift rfl (Pc_ift (by rw [jlt]; exact cx) (Pc_jn (Pc_jn (Pc_ift rfl (Pc_ift z.symm (Pc_vl h)))))))) ha)
        rcases h with h | ⟨v, h1, h2⟩
        · exact Or.inl h
        · exact Or.inr ⟨v, by omega, h2⟩
      · have nw : w ≠ p := fun h => z (Int32.toInt_inj.1 (by omega))
        unfold f_X6_soonestPair
        refine Pc.mono (two_m (qM := fun (s13 : SS) (j13_4 : Int32) => (vl (x + 1) fun v14 => (f_X12_aimed_L73 qM a0 a1 2 y3 k s13 j13_4 v14))) (e := e ∨ ∃ q : Nat, (q : Int) < x.toInt ∧ q ≠ p) W h0 h3 hp hw (by omega) 4000 4000 s t x2 x4 0 0 rfl (by omega) (A.w (fun h => h.elim (fun h => h) (fun h => absurd h (Nat.lt_irrefl 0))))) (fun a ha => ?_)
        have md : ∀ R : Int32 × SS → Prop, Pc (f_X12_aimed_L109 (fun (s13 : SS) (j13_4 : Int32) => (vl (x + 1) fun v14 => (f_X12_aimed_L73 qM a0 a1 2 y3 k s13 j13_4 v14))) a0 a1 2 y3 x 4000 t x4 0) R → Pc (jn (fun (t11_0 : Int32) => (if x < t11_0 then (jn (fun (s13 : SS) (j13_4 : Int32) => (vl (x + 1) fun v14 => (f_X12_aimed_L73 qM a0 a1 2 y3 k s13 j13_4 v14))) fun k13 => (jn ((f_X12_aimed_L109 (fun (s35 : SS) (x35_4 : Int32) => (k13 s35 x35_4)) a0 a1 2 y3 x 4000 t x4 0)) fun k15 => (if (2 : Int32) = (2 : Int32) then (if x = y3 then (k13 t x4) else k15) else k15))) else (qM t x4))) fun k11 => (if (2 : Int32) = (2 : Int32) then (k11 (zS s0 34 9)) else (k11 1))) R := fun R h => Pc_jn (Pc_ift rfl (Pc_ift (by rw [jlt]; exact cx) (Pc_jn (Pc_jn (Pc_ift rfl (Pc_iff (fun h => z h.symm) h))))))
        rcases ha with ha | ⟨u, y4, A', ha⟩
        · refine fun b _ => HP.2 b _ _ md ?_
          rw [ha]
          exact HP.1 b
        · refine Pc_vl (Pc.mono (two_q HP W h0 e9 h3 hp hq n k a.2 u a.1 y4 (x + 1) (by omega) (A'.w (fun _ => trivial))) (fun b hb => HP.2 b _ _ md ?_))
          rw [ha]
          exact hb
    · rcases h with h | ⟨v, h1, h2⟩
      · exact Or.inl h
      · exact Or.inr ⟨v, by omega, h2⟩
theorem two_p {qX : SS → Int32 → Option (Int32 × SS)} {qM : SS → Int32 → Option (Int32 × SS)} {P : Int32 × SS → Option (Int32 × SS) → Prop} {a0 a1 : Int32} {r : Nat} (HP : PCl P) (W : AWt s0 t0 a1.toInt r (zS s0 34 9).toInt) (h0 : a0.toInt = r) (e9 : zS s0 34 9 = zS t0 59 76) (h2 : 2 ≤ (zS s0 34 9).toInt) (hq : ∀ s t x2 x4, ARl 2 True s0 t0 s t x2 x4 → Pc (qX s x2) (fun a => P a (qM t x4))) : ∀ (n k : Nat) (s t : SS) (x2 x4 x : Int32), 0 ≤ x.toInt → ARl 2 (0 < x.toInt) s0 t0 s t x2 x4 → Pc (f_X6_soonestTwo_L5 qX n s x2 x) (fun a => P a (f_X12_aimed_L61 qM a0 a1 2 k t x4 x))
  | 0, _, _, _, _, _, _, _, _ => Pc_none
  | n + 1, 0, _, _, _, _, _, _, _ => fun a _ => HP.1 a
  | n + 1, k + 1, s, t, x2, x4, x, hx, A => by
    have c6 := W.2.2.2.2.2.2.2
    show Pc (f_X6_soonestTwo_L5_b qX (f_X6_soonestTwo_L5 qX n) s x2 x) (fun a => P a (f_X12_aimed_L61_b qM a0 a1 2 (f_X12_aimed_L61 qM a0 a1 2 k) t x4 x))
    unfold f_X6_soonestTwo_L5_b f_X12_aimed_L61_b
    have es : zS s 34 9 = zS s0 34 9 := A.1.1 34 9 rfl
    have et : zS t 59 76 = zS s0 34 9 := (A.2.1.1 59 76 rfl).trans e9.symm
    rw [es, et]
    refine Pc_lt (fun cx => ?_) (fun cx => Pc.mono (hq s t x2 x4 (A.w (fun _ => by omega))) (fun a ha => HP.2 a _ _ (fun R h => Pc_iff (by rw [jlt]; omega) h) ha))
    obtain ⟨p, hp⟩ : ∃ p : Nat, x.toInt = p := ⟨_, (Int.toNat_of_nonneg hx).symm⟩
    have n1 : (x + 1).toInt = x.toInt + 1 := by rw [i32_add (by rw [jl1]; omega) (by rw [jl1]; omega), jl1]
    refine Pc.mono (two_q (qM := fun (s39 : SS) (x39_4 : Int32) => (vl (x + 1) fun v40 => (f_X12_aimed_L61 qM a0 a1 2 k s39 x39_4 v40))) (P := P) (e := 0 < x.toInt) HP W h0 e9 hp (by omega) (fun s' t' y2 y4 A' => ?_) 4000 4000 s t x2 x4 0 (by rw [jl0]; omega) (A.w (fun h => ?_))) (fun a ha => HP.2 a _ _ (fun R h => Pc_ift (by rw [jlt]; exact cx) h) ha)
    · refine Pc_vl (Pc.mono (two_p HP W h0 e9 h2 hq n k s' t' y2 y4 (x + 1) (by omega) (A'.w (fun _ => ?_))) (fun a ha => HP.2 a _ _ (fun R h => Pc_vl h) ha))
      by_cases z : p = 0
      · exact Or.inr ⟨1, by omega, by omega⟩
      · exact Or.inl (by omega)
    · rcases h with h | ⟨v, h1, _⟩
      · exact h
      · rw [jl0] at h1
        omega
/-- places, rock, and what was last aimed at -/
def QAm (s t : SS) : Prop := zS s 34 9 = zS t 59 76 ∧ (0 ≤ (zS s 34 9).toInt ∧ (zS s 34 9).toInt ≤ 6) ∧ (∀ j, zI s 42 j = zI t 113 j) ∧ (∀ i : Nat, i < 6 → (i : Int) < (zS s 34 9).toInt → zI s 41 i = zI t 112 i) ∧ QRk t ∧ zS s 34 14 = zS t 59 79 ∧ (0 ≤ (zS s 34 14).toInt ∧ (zS s 34 14).toInt ≤ 2) ∧ ∀ i : Nat, i < 2 → (i : Int) < (zS s 34 14).toInt → zI s 44 i = zI t 114 i ∧ zI s 45 i = zI t 115 i
theorem V_aimedAt (Q : QAm s t) (a0 a1 : Int32) : Pc (f_X11_aimedAt s a0 a1) fun x => Pc (f_X12_aimedAt t a0 a1) fun m => x = m := by
  obtain ⟨_, _, _, _, _, e14, h14, al⟩ := Q
  unfold f_X11_aimedAt f_X12_aimedAt
  have e : (zS t 59 79 - 1).toInt = (zS s 34 14).toInt - 1 := by rw [← e14, i32_sub (by rw [jl1]; omega) (by rw [jl1]; omega), jl1]
  by_cases c : 0 ≤ a0.toInt ∧ a0.toInt < (zS s 34 14).toInt
  · rw [in_t (a := a0) (by rw [jl0, e]; omega)]
    refine Pc_iff (by rw [jlt, jl0]; omega) (Pc_ift (by rw [jlt]; omega) ?_)
    by_cases d : 0 ≤ a1.toInt ∧ a1.toInt ≤ 1
    · rw [in_t (a := a1) (by rw [jl0, jl1]; exact d)]
      refine Pc_iff (by rw [jlt, jl0]; omega) (Pc_iff (by rw [jlt, jl1]; omega) (Pc_if (fun z => Pc_gd (fun _ => Pc_some (Pc_b1S (Pc_if10 (Pc_b1S (Pc_if10 (Pc_ift z (Pc_gd (fun _ => Pc_some ?_))))))))) (fun z => Pc_gd (fun _ => Pc_some (Pc_b1S (Pc_if10 (Pc_b1S (Pc_if10 (Pc_iff z (Pc_gd (fun _ => Pc_some ?_)))))))))))
      · exact (al _ (by omega) (by omega)).1
      · exact (al _ (by omega) (by omega)).2
    · rw [in_f (a := a1) (by rw [jl0, jl1]; exact d)]
      refine Pc_lt (fun _ => Pc_some (Pc_b1S (Pc_if10 (Pc_b1S (Pc_if00 (Pc_some rfl)))))) (fun z => Pc_lt (fun _ => Pc_some (Pc_b1S (Pc_if10 (Pc_b1S (Pc_if00 (Pc_some rfl)))))) (fun w => ?_))
      rw [jl0] at z
      rw [jl1] at w
      exact absurd ⟨z, w⟩ d
  · rw [in_f (a := a0) (by rw [jl0, e]; omega)]
    refine Pc_lt (fun _ => Pc_some (Pc_b1S (Pc_if00 (Pc_some rfl)))) (fun z => Pc_lt (fun w => ?_) (fun w => Pc_some (Pc_b1S (Pc_if00 (Pc_some rfl)))))
    rw [jl0] at z
    exact absurd ⟨z, w⟩ c
theorem L_aim (Q : QAm s t) (a0 a1 : Int32) : Pc (f_X11_aim s a0 a1) fun x => Pc (f_X12_aim t a0 a1) fun m => x.1 = m.1 ∧ QAm x.2 m.2 := by
  have j31 : (31 : Int32).toInt = 31 := rfl
  have j32 : (32 : Int32).toInt = 32 := rfl
  have j9 : (9 : Int32).toInt = 9 := rfl
  have j6 : (6 : Int32).toInt = 6 := rfl
  obtain ⟨e9, h9, e42, e41, R, e14, h14, al⟩ := id Q
  unfold f_X11_aim f_X12_aim f_X6_aimTold
  by_cases c : 0 ≤ a0.toInt ∧ a0.toInt ≤ 31
  · rw [in_t (a := a0) (by rw [jl0, j31]; exact c)]
    refine Pc_iff (by rw [jlt, jl0]; omega) (Pc_ift (by rw [jlt, j32]; omega) ?_)
    by_cases d : 0 ≤ a1.toInt ∧ a1.toInt ≤ 9
    · rw [in_t (a := a1) (by rw [jl0, j9]; exact d)]
      refine Pc_iff (by rw [jlt, jl0]; omega) (Pc_iff (by rw [jlt, j9]; omega) ?_)
      by_cases g : (zS s 34 9).toInt < 6
      · rw [if_pos (show zS s 34 9 < 6 by rw [jlt, j6]; exact g)]
        refine Pc_bd (Pc_vl (Pc_gd (fun _ => Pc_st (Pc_vl (Pc_st (Pc_some (Pc_some (Pc_b1S (Pc_if10 (Pc_b1S (Pc_if10 (Pc_iff ?_ (Pc_vl (Pc_gd (fun _ => Pc_st (Pc_vl (Pc_st (Pc_some ?_))))))))))))))))))
        · rw [← e9]
          intro z
          rw [z, j6] at g
          omega
        · obtain ⟨K, hK⟩ : ∃ K : Nat, (zS s 34 9).toInt = K := ⟨_, (Int.toNat_of_nonneg h9.1).symm⟩
          have n1 : (zS s 34 9 + 1).toInt = (zS s 34 9).toInt + 1 := by rw [i32_add (by rw [jl1]; omega) (by rw [jl1]; omega), jl1]
          have x9 : zS (pS (pI s 41 (zS s 34 9).toInt.toNat a1) 34 9 (zS (pI s 41 (zS s 34 9).toInt.toNat a1) 34 9 + 1)) 34 9 = zS s 34 9 + 1 := rfl
          have m9 : zS (pS (pI t 112 (zS t 59 76).toInt.toNat a1) 59 76 (zS (pI t 112 (zS t 59 76).toInt.toNat a1) 59 76 + 1)) 59 76 = zS t 59 76 + 1 := rfl
          refine ⟨?_, ?_, ?_, fun j => ?_, fun i hi h => ?_, ⟨fun j => ?_, fun i => ?_⟩, e14, h14, al⟩
          · show zS (pS (pI s 41 (zS s 34 9).toInt.toNat a1) 34 9 (zS (pI s 41 (zS s 34 9).toInt.toNat a1) 34 9 + 1)) 34 9 = zS (pS (pI t 112 (zS t 59 76).toInt.toNat a1) 59 76 (zS (pI t 112 (zS t 59 76).toInt.toNat a1) 59 76 + 1)) 59 76
            rw [x9, m9, e9]
          · show zS (pS (pI s 41 (zS s 34 9).toInt.toNat a1) 34 9 (zS (pI s 41 (zS s 34 9).toInt.toNat a1) 34 9 + 1)) 34 9 = zS (pS (pI t 112 (zS t 59 76).toInt.toNat a1) 59 76 (zS (pI t 112 (zS t 59 76).toInt.toNat a1) 59 76 + 1)) 59 76
            rw [x9, m9, e9]
          · show 0 ≤ (zS (pS (pI s 41 (zS s 34 9).toInt.toNat a1) 34 9 (zS (pI s 41 (zS s 34 9).toInt.toNat a1) 34 9 + 1)) 34 9).toInt ∧ (zS (pS (pI s 41 (zS s 34 9).toInt.toNat a1) 34 9 (zS (pI s 41 (zS s 34 9).toInt.toNat a1) 34 9 + 1)) 34 9).toInt ≤ 6
            rw [x9, n1]
            omega
          · exact e42 j
          · have h' : (i : Int) < (zS s 34 9 + 1).toInt := h
            show zI (pI s 41 (zS s 34 9).toInt.toNat a1) 41 i = zI (pI t 112 (zS t 59 76).toInt.toNat a1) 112 i
            rw [← e9, zI_pI, zI_pI]
            by_cases z : i = (zS s 34 9).toInt.toNat
            · rw [if_pos ⟨rfl, z⟩, if_pos ⟨rfl, z⟩]
            · rw [if_neg (fun w => z w.2), if_neg (fun w => z w.2)]
              exact e41 i hi (by omega)
          · exact R.1 j
          · show 0 ≤ (zI (pI t 112 (zS t 59 76).toInt.toNat a1) 112 i).toInt ∧ (zI (pI t 112 (zS t 59 76).toInt.toNat a1) 112 i).toInt ≤ 9
            rw [zI_pI]
            by_cases z : 112 = 112 ∧ i = (zS t 59 76).toInt.toNat
            · rw [if_pos z]; exact d
            · rw [if_neg z]; exact R.2 i
      · rw [if_neg (show ¬ zS s 34 9 < 6 by rw [jlt, j6]; exact g)]
        refine Pc_bdS (Pc_some (Pc_b1S (Pc_if10 (Pc_b1S (Pc_if10 (Pc_ift ?_ (Pc_some ⟨rfl, Q⟩)))))))
        rw [← e9]
        exact Int32.toInt_inj.1 (by rw [j6]; omega)
    · rw [in_f (a := a1) (by rw [jl0, j9]; exact d)]
      refine Pc_lt (fun _ => Pc_some (Pc_b1S (Pc_if10 (Pc_b1S (Pc_if00 (Pc_some ⟨rfl, Q⟩)))))) (fun z => Pc_lt (fun _ => Pc_some (Pc_b1S (Pc_if10 (Pc_b1S (Pc_if00 (Pc_some ⟨rfl, Q⟩)))))) (fun w => ?_))
      rw [jl0] at z
      rw [j9] at w
      exact absurd ⟨z, w⟩ d
  · rw [in_f (a := a0) (by rw [jl0, j31]; exact c)]
    refine Pc_lt (fun _ => Pc_some (Pc_b1S (Pc_if00 (Pc_some ⟨rfl, Q⟩)))) (fun z => Pc_lt (fun w => ?_) (fun w => Pc_some (Pc_b1S (Pc_if00 (Pc_some ⟨rfl, Q⟩)))))
    rw [jl0] at z
    rw [j32] at w
    exact absurd ⟨z, by omega⟩ c
theorem L_rock (Q : QAm s t) (a0 a1 a2 : Int32) : Pc (f_X11_rock s a0 a1 a2) fun x => Pc (f_X12_rock t a0 a1 a2) fun m => x.1 = m.1 ∧ QAm x.2 m.2 := by
  have j3 : (3 : Int32).toInt = 3 := rfl
  have j4 : (4 : Int32).toInt = 4 := rfl
  have j5 : (5 : Int32).toInt = 5 := rfl
  have j6 : (6 : Int32).toInt = 6 := rfl
  have j9 : (9 : Int32).toInt = 9 := rfl
  obtain ⟨e9, h9, e42, e41, R, e14, h14, al⟩ := id Q
  unfold f_X11_rock f_X12_rock
  by_cases c : 0 ≤ a0.toInt ∧ a0.toInt ≤ 3
  · rw [in_t (a := a0) (by rw [jl0, j3]; exact c)]
    refine Pc_iff (by rw [jlt, jl0]; omega) (Pc_ift (by rw [jlt, j4]; omega) ?_)
    by_cases d : 0 ≤ a1.toInt ∧ a1.toInt ≤ 5
    · rw [in_t (a := a1) (by rw [jl0, j5]; exact d)]
      refine Pc_iff (by rw [jlt, jl0]; omega) (Pc_ift (by rw [jlt, j6]; omega) ?_)
      by_cases g : 1 ≤ a2.toInt ∧ a2.toInt ≤ 9
      · rw [in_t (a := a2) (by rw [jl1, j9]; exact g), Int32.mul_comm 6 a0]
        refine Pc_iff (by rw [jlt, jl1]; omega) (Pc_iff (by rw [jlt, j9]; omega) (Pc_vl (Pc_gd (fun _ => Pc_vl (Pc_gd (fun _ => Pc_st (Pc_some (Pc_b1S (Pc_if10 (Pc_b1S (Pc_if10 (Pc_b1S (Pc_if10 (Pc_vl (Pc_gd (fun _ => Pc_vl (Pc_vl (Pc_gd (fun _ => Pc_st (Pc_some ?_))))))))))))))))))))
        generalize (a0 * 6 + a1).toInt.toNat = J
        refine ⟨e42 J, e9, h9, fun j => ?_, e41, ⟨fun j => ?_, R.2⟩, e14, h14, al⟩
        · show zI (pI s 42 J a2) 42 j = zI (pI t 113 J a2) 113 j
          rw [zI_pI, zI_pI]
          by_cases z : j = J
          · rw [if_pos ⟨rfl, z⟩, if_pos ⟨rfl, z⟩]
          · rw [if_neg (fun w => z w.2), if_neg (fun w => z w.2)]
            exact e42 j
        · show 1 ≤ (zI (pI t 113 J a2) 113 j).toInt ∧ (zI (pI t 113 J a2) 113 j).toInt ≤ 9
          rw [zI_pI]
          by_cases z : 113 = 113 ∧ j = J
          · rw [if_pos z]; exact g
          · rw [if_neg z]; exact R.1 j
      · rw [in_f (a := a2) (by rw [jl1, j9]; exact g)]
        refine Pc_lt (fun _ => Pc_some (Pc_b1S (Pc_if10 (Pc_b1S (Pc_if10 (Pc_b1S (Pc_if00 (Pc_some ⟨rfl, Q⟩)))))))) (fun z => Pc_lt (fun _ => Pc_some (Pc_b1S (Pc_if10 (Pc_b1S (Pc_if10 (Pc_b1S (Pc_if00 (Pc_some ⟨rfl, Q⟩)))))))) (fun w => ?_))
        rw [jl1] at z
        rw [j9] at w
        exact absurd ⟨z, w⟩ g
    · rw [in_f (a := a1) (by rw [jl0, j5]; exact d)]
      refine Pc_lt (fun _ => Pc_some (Pc_b1S (Pc_if10 (Pc_b1S (Pc_if00 (Pc_some ⟨rfl, Q⟩)))))) (fun z => Pc_lt (fun w => ?_) (fun w => Pc_some (Pc_b1S (Pc_if10 (Pc_b1S (Pc_if00 (Pc_some ⟨rfl, Q⟩)))))))
      rw [jl0] at z
      rw [j6] at w
      exact absurd ⟨z, by omega⟩ d
  · rw [in_f (a := a0) (by rw [jl0, j3]; exact c)]
    refine Pc_lt (fun _ => Pc_some (Pc_b1S (Pc_if00 (Pc_some ⟨rfl, Q⟩)))) (fun z => Pc_lt (fun w => ?_) (fun w => Pc_some (Pc_b1S (Pc_if00 (Pc_some ⟨rfl, Q⟩)))))
    rw [jl0] at z
    rw [j4] at w
    exact absurd ⟨z, by omega⟩ c
/-- what aimed answers and leaves -/
def AEnd (a : Int32 × SS) (K : Option (Int32 × SS)) : Prop := Pc K (fun m => a.1 = m.1 ∧ QAm a.2 m.2)
theorem AEnd_cl : PCl AEnd := ⟨fun _ => Pc_none, fun _ _ _ h hK => h _ hK⟩
theorem L_aimed (S0 : Sh s) (hp0 : ∀ m, m < 3 → zS s (20 + m) 0 = zI t 78 m) (h78 : ∀ m, m < 3 → 0 ≤ (zI t 78 m).toInt ∧ (zI t 78 m).toInt ≤ 60) (Q : QAm s t) (a0 a1 a2 : Int32) : Pc (f_X11_aimed s a0 a1 a2) fun x => Pc (f_X12_aimed t a0 a1 a2) fun m => x.1 = m.1 ∧ QAm x.2 m.2 := by
  have j4 : (4 : Int32).toInt = 4 := rfl
  have j2 : (2 : Int32).toInt = 2 := rfl
  have j60 : (60 : Int32).toInt = 60 := rfl
  obtain ⟨e9, h9, e42, e41, R, e14, h14, al⟩ := id Q
  unfold f_X11_aimed f_X12_aimed f_X11_isYard
  by_cases c : 1 ≤ a0.toInt ∧ a0.toInt ≤ 4
  · rw [in_t (a := a0) (by rw [jl1, j4]; exact c)]
    refine Pc_iff (by rw [jlt, jl1]; omega) (Pc_iff (by rw [jlt, j4]; omega) ?_)
    by_cases d : 1 ≤ a1.toInt ∧ a1.toInt ≤ 60
    · rw [in_t (a := a1) (by rw [jl1, j60]; exact d), if_neg (show ¬ a1 < 1 by rw [jlt, jl1]; omega), if_neg (show ¬ 60 < a1 by rw [jlt, j60]; omega)]
      refine Pc_b1S (Pc_if10 ?_)
      by_cases g : 1 ≤ a2.toInt ∧ a2.toInt ≤ 2
      · rw [in_t (a := a2) (by rw [jl1, j2]; exact g)]
        refine Pc_iff (by rw [jlt, jl1]; omega) (Pc_iff (by rw [jlt, j2]; omega) ?_)
        rw [← e9]
        refine Pc_if (fun z => Pc_some (Pc_b1S (Pc_if10 (Pc_b1S (Pc_if10 (Pc_b1S (Pc_if10 (Pc_ift z (Pc_some ⟨rfl, Q⟩))))))))) (fun z9 => ?_)
        have p9 : 0 < (zS s 34 9).toInt := by
          rcases Int.lt_or_eq_of_le h9.1 with w | w
          · exact w
          · exact absurd (Int32.toInt_inj.1 (by rw [← w]; rfl)) z9
        obtain ⟨r, hr⟩ : ∃ r : Nat, a0.toInt = r := ⟨_, (Int.toNat_of_nonneg (by omega)).symm⟩
        -- behind the weights
        have wg : Pc (f_X6_weighPlaces s a0 a1) (fun u => Frm [] [43] [] s u ∧ WGh t a1.toInt r (zS s 34 9).toInt u) := by
          unfold f_X6_weighPlaces
          exact wghL R e42 e41 h9.2 hr (by omega) d 4000 s 0 (by rw [jl0]; omega) Frm.rf (fun i _ h => by rw [jl0] at h; omega)
        have AW : ∀ u, Frm [] [43] [] s u → WGh t a1.toInt r (zS s 34 9).toInt u → AWt u t a1.toInt r (zS u 34 9).toInt ∧ zS u 34 9 = zS t 59 76 := fun u F w => by
          have e : zS u 34 9 = zS s 34 9 := F.1 34 9 rfl
          rw [e]
          exact ⟨⟨F.Sh_ S0, R, h78, fun m hm => (F.1 (20 + m) 0 rfl).trans (hp0 m hm), w, d, by omega, h9.2⟩, e9⟩
        -- behind the choice
        have ke : ∀ (K : Nat) (v : Int32) (u s' t' : SS) (x2 x4 : Int32), v.toInt = K → 1 ≤ K → K ≤ 2 → Frm [] [43] [] s u → ARl K True u t s' t' x2 x4 → AEnd (x2, pS (pS s' 34 14 v) 34 9 0) (some (x4, pS (pS t' 59 79 v) 59 76 0)) := fun K v u s' t' x2 x4 hv k1 k2 F A => by
          obtain ⟨F1, F2, z | ⟨z1, z2, z3⟩⟩ := A
          · exact absurd trivial z.1
          · refine Pc_some ⟨z1, rfl, ⟨by show (0 : Int) ≤ (0 : Int32).toInt; rw [jl0]; omega, by show (0 : Int32).toInt ≤ (6 : Int); rw [jl0]; omega⟩, fun j => ?_, fun i _ h => ?_, ⟨fun j => ?_, fun i => ?_⟩, rfl, ?_, fun i hi h => ?_⟩
            · show zI s' 42 j = zI t' 113 j
              rw [F1.2.1 42 j rfl, F.2.1 42 j rfl, F2.2.1 113 j rfl]
              exact e42 j
            · exfalso
              have h' : (i : Int) < (0 : Int32).toInt := h
              rw [jl0] at h'
              omega
            · show 1 ≤ (zI t' 113 j).toInt ∧ (zI t' 113 j).toInt ≤ 9
              rw [F2.2.1 113 j rfl]
              exact R.1 j
            · show 0 ≤ (zI t' 112 i).toInt ∧ (zI t' 112 i).toInt ≤ 9
              rw [F2.2.1 112 i rfl]
              exact R.2 i
            · show 0 ≤ v.toInt ∧ v.toInt ≤ 2
              omega
            · have h' : (i : Int) < v.toInt := h
              exact z3 i (by omega)
        have A0 : ∀ (K : Nat) (u : SS), ARl K (0 < (0 : Int32).toInt) u t u t 1000000000 2147483647 := fun K u => ⟨Frm.rf, Frm.rf, Or.inl ⟨by rw [jl0]; omega, rfl, rfl⟩⟩
        -- the reference's head
        have hd : ∀ (K : Option (Int32 × SS)) (Rr : Int32 × SS → Prop), (a2 = 2 → 2 ≤ (zS s 34 9).toInt) → Pc K Rr → Pc (b1 (some (1 : Int32)) fun r1 => (if r1 = (0 : Int32) then some ((-1), t) else (b1 (some (1 : Int32)) fun r3 => (if r3 = (0 : Int32) then some ((-1), t) else (b1 (some (1 : Int32)) fun r5 => (if r5 = (0 : Int32) then some ((-1), t) else (if zS s 34 9 = (0 : Int32) then some ((-1), t) else (jn K fun k8 => (if a2 = (2 : Int32) then (if zS s 34 9 < (2 : Int32) then some ((-2), t) else k8) else k8))))))))) Rr := fun K Rr h k => Pc_b1S (Pc_if10 (Pc_b1S (Pc_if10 (Pc_b1S (Pc_if10 (Pc_iff z9 (Pc_jn (Pc_if (fun q => Pc_iff (by rw [jlt, j2]; have := h q; omega) k) (fun _ => k)))))))))
        refine Pc_jn ?_
        by_cases q : a2 = 2
        · refine Pc_ift q (Pc_if (fun w => Pc_some (Pc_b1S (Pc_if10 (Pc_b1S (Pc_if10 (Pc_b1S (Pc_if10 (Pc_iff z9 (Pc_jn (Pc_ift q (Pc_ift w (Pc_some ⟨rfl, Q⟩)))))))))))) (fun w => ?_))
          have w2 : 2 ≤ (zS s 34 9).toInt := by rw [jlt, j2] at w; omega
          refine Pc_b1 (Pc.mono wg (fun u hu => Pc_jn (Pc_iff (by rw [q]; decide) (Pc_bd ?_))))
          obtain ⟨W, ew⟩ := AW u hu.1 hu.2
          have eu : zS u 34 9 = zS s 34 9 := hu.1.1 34 9 rfl
          unfold f_X6_soonestTwo
          refine Pc.mono (two_p (qM := fun (s41 : SS) (x41_4 : Int32) => (st (pS s41 59 79 2) fun s42 => (st (pS s42 59 76 0) fun s43 => some (x41_4, s43)))) (P := fun a K => AEnd (a.1, pS a.2 34 9 0) K) ⟨fun _ => AEnd_cl.1 _, fun _ => AEnd_cl.2 _⟩ W hr ew (by rw [eu]; exact w2) (fun s' t' x2 x4 A => Pc_st (Pc_some (Q := fun (a : Int32 × SS) => AEnd (a.1, pS a.2 34 9 0) (st (pS t' 59 79 2) fun s42 => st (pS s42 59 76 0) fun s43 => some (x4, s43))) (ke 2 2 u s' t' x2 x4 rfl (by omega) (by omega) hu.1 A))) 4000 4000 u t 1000000000 2147483647 0 (by rw [jl0]; omega) (A0 2 u)) (fun a ha => Pc_st (Pc_some ?_))
          refine hd _ _ (fun _ => w2) ?_
          rw [q]
          exact ha
        · have q1 : a2 = 1 := Int32.toInt_inj.1 (by rw [jl1]; have : a2.toInt ≠ 2 := fun h => q (Int32.toInt_inj.1 h); omega)
          refine Pc_iff q (Pc_b1 (Pc.mono wg (fun u hu => Pc_jn (Pc_ift q1 (Pc_bd ?_)))))
          obtain ⟨W, ew⟩ := AW u hu.1 hu.2
          have eu : zS u 34 9 = zS s 34 9 := hu.1.1 34 9 rfl
          unfold f_X6_soonestOne
          refine Pc.mono (one_p (qM := fun (s41 : SS) (x41_4 : Int32) => (st (pS s41 59 79 1) fun s42 => (st (pS s42 59 76 0) fun s43 => some (x41_4, s43)))) (P := fun a K => AEnd (a.1, pS a.2 34 9 0) K) ⟨fun _ => AEnd_cl.1 _, fun _ => AEnd_cl.2 _⟩ W hr ew (fun s' t' x2 x4 A => Pc_st (Pc_some (Q := fun (a : Int32 × SS) => AEnd (a.1, pS a.2 34 9 0) (st (pS t' 59 79 1) fun s42 => st (pS s42 59 76 0) fun s43 => some (x4, s43))) (ke 1 1 u s' t' x2 x4 rfl (by omega) (by omega) hu.1 (A.w (fun _ => by rw [eu]; exact p9))))) 4000 4000 u t 1000000000 2147483647 0 (by rw [jl0]; omega) (A0 1 u)) (fun a ha => Pc_st (Pc_some ?_))
          refine hd _ _ (fun h => absurd h q) ?_
          rw [q1]
          exact ha
      · rw [in_f (a := a2) (by rw [jl1, j2]; exact g)]
        refine Pc_lt (fun _ => Pc_some (Pc_b1S (Pc_if10 (Pc_b1S (Pc_if10 (Pc_b1S (Pc_if00 (Pc_some ⟨rfl, Q⟩)))))))) (fun z => Pc_lt (fun _ => Pc_some (Pc_b1S (Pc_if10 (Pc_b1S (Pc_if10 (Pc_b1S (Pc_if00 (Pc_some ⟨rfl, Q⟩)))))))) (fun w => ?_))
        rw [jl1] at z
        rw [j2] at w
        exact absurd ⟨z, w⟩ g
    · rw [in_f (a := a1) (by rw [jl1, j60]; exact d)]
      have E : Pc (if a1 < (1 : Int32) then some (0 : Int32) else (if (60 : Int32) < a1 then some 0 else some 1)) (fun v => v = 0) := Pc_lt (fun _ => Pc_some rfl) (fun z => Pc_lt (fun _ => Pc_some rfl) (fun w => absurd ⟨by rw [jl1] at z; exact z, by rw [j60] at w; exact w⟩ d))
      exact Pc_b1 (Pc.mono E (fun v hv => Pc_ift hv (Pc_some (Pc_b1S (Pc_if10 (Pc_b1S (Pc_if00 (Pc_some ⟨rfl, Q⟩))))))))
  · rw [in_f (a := a0) (by rw [jl1, j4]; exact c)]
    refine Pc_lt (fun _ => Pc_some (Pc_b1S (Pc_if00 (Pc_some ⟨rfl, Q⟩)))) (fun z => Pc_lt (fun _ => Pc_some (Pc_b1S (Pc_if00 (Pc_some ⟨rfl, Q⟩)))) (fun w => ?_))
    rw [jl1] at z
    rw [j4] at w
    exact absurd ⟨z, w⟩ c
end AMs
/-! ORDERS -/
theorem nI_n {k : Nat} (h : k < 2147483648) : (nI k).toInt.toNat = k := by rw [nI_t h]; omega
theorem nI1 {k : Nat} (h : k < 5000) : nI k + 1 = nI (k + 1) := by
  apply Int32.toInt_inj.1
  rw [i32_add (by rw [nI_t (by omega), jl1]; omega) (by rw [nI_t (by omega), jl1]; omega), nI_t (by omega), nI_t (by omega), jl1]
  omega
theorem nIm {k : Nat} (h : k < 5000) (h1 : 1 ≤ k) : nI k - 1 = nI (k - 1) := by
  apply Int32.toInt_inj.1
  rw [i32_sub (by rw [nI_t (by omega), jl1]; omega) (by rw [nI_t (by omega), jl1]; omega), nI_t (by omega), nI_t (by omega), jl1]
  omega
theorem nI0 {w : Nat} (h : w < 1024) (e : nI w = 0) : w = 0 := by
  have h2 := congrArg Int32.toInt e
  rw [nI_t (by omega), jl0] at h2
  omega
theorem nIlt {a b : Nat} (ha : a < 5000) (hb : b < 5000) : nI a < nI b ↔ a < b := by
  rw [jlt, nI_t (by omega), nI_t (by omega)]
  omega
theorem an0 {m k : Nat} (hm : m < 1024) (hk : k < 11) : (nI m &&& ((1 : Int32) <<< (nI k &&& 31))) = 0 ↔ m.testBit k = false := by
  rw [sh1n k hk, nx_an]
  have tk : (m &&& 2 ^ k).testBit k = m.testBit k := by rw [Nat.testBit_and, Nat.testBit_two_pow_self, Bool.and_true]
  constructor
  · intro h
    have h3 : m &&& 2 ^ k = 0 := nI0 (Nat.lt_of_le_of_lt Nat.and_le_left hm) h
    rw [← tk, h3, Nat.zero_testBit]
  · intro h
    have h3 : m &&& 2 ^ k = 0 := by
      apply Nat.eq_of_testBit_eq
      intro j
      rw [Nat.zero_testBit, Nat.testBit_and, Nat.testBit_two_pow]
      by_cases z : k = j
      · rw [← z, h, Bool.false_and]
      · rw [decide_eq_false z, Bool.and_false]
    rw [h3]
    rfl
theorem or_add {j k : Nat} (h : j < 2 ^ k) : j ||| 2 ^ k = 2 ^ k + j := by
  apply Nat.eq_of_testBit_eq
  intro i
  rw [Nat.testBit_or, Nat.testBit_two_pow]
  rcases Nat.lt_trichotomy i k with l | l | l
  · rw [Nat.testBit_two_pow_add_gt l, decide_eq_false (by omega), Bool.or_false]
  · subst l
    rw [Nat.testBit_two_pow_add_eq, Nat.testBit_lt_two_pow h, decide_eq_true rfl]
    rfl
  · have p : 2 ^ (k + 1) ≤ 2 ^ i := Nat.pow_le_pow_right (n := 2) (by decide) l
    have p2 : 2 ^ k + j < 2 ^ i := by
      rw [Nat.pow_succ] at p
      generalize 2 ^ k = A at *
      generalize 2 ^ i = B at *
      omega
    have p3 : j < 2 ^ i := Nat.lt_of_le_of_lt (Nat.le_add_left _ _) p2
    rw [Nat.testBit_lt_two_pow p2, Nat.testBit_lt_two_pow p3, decide_eq_false (by omega)]
    rfl
/-- what is left of all -/
def cpl (N S : Nat) : Nat := 2 ^ N - (S + 1)
theorem cp_tb {N S : Nat} (h : S < 2 ^ N) (i : Nat) : (cpl N S).testBit i = (decide (i < N) && !S.testBit i) := Nat.testBit_two_pow_sub_succ h i
theorem cp_t {N S k : Nat} (h : S < 2 ^ N) (hk : k < N) : (cpl N S).testBit k = !S.testBit k := by rw [cp_tb h, decide_eq_true hk, Bool.true_and]
theorem cp_lt {N S : Nat} (h : S < 2 ^ N) : cpl N S < 2 ^ N := by
  unfold cpl
  generalize 2 ^ N = M at *
  omega
theorem cp_cp {N S : Nat} (h : S < 2 ^ N) : cpl N (cpl N S) = S := by
  unfold cpl
  generalize 2 ^ N = M at *
  omega
theorem cp_lt2 {N S S' : Nat} (h : S' < 2 ^ N) (l : S < S') : cpl N S' < cpl N S := by
  unfold cpl
  generalize 2 ^ N = M at *
  omega
theorem cp_add {N S k : Nat} (h : S < 2 ^ N) (hk : k < N) (hb : S.testBit k = false) : S ||| 2 ^ k < 2 ^ N ∧ S < (S ||| 2 ^ k) ∧ cpl N (S ||| 2 ^ k) = cpl N S ^^^ 2 ^ k := by
  have l : S ||| 2 ^ k < 2 ^ N := Nat.or_lt_two_pow h (Nat.pow_lt_pow_right (by decide) hk)
  have tb : (cpl N S).testBit k = true := by rw [cp_t h hk, hb]; rfl
  have e : cpl N (S ||| 2 ^ k) = cpl N S ^^^ 2 ^ k := by
    apply Nat.eq_of_testBit_eq
    intro j
    rw [del_tb tb, cp_tb l, cp_tb h, Nat.testBit_or, Nat.testBit_two_pow]
    by_cases z : k = j
    · rw [if_pos z, decide_eq_true z, Bool.or_true, Bool.not_true, Bool.and_false]
    · rw [if_neg z, decide_eq_false z, Bool.or_false]
  have d := del_lt tb
  rw [← e] at d
  refine ⟨l, ?_, e⟩
  unfold cpl at d
  generalize S ||| 2 ^ k = S' at *
  generalize 2 ^ N = M at *
  omega
/-- hours of the needs in S, below k -/
def psm (a : Nat → Int32) (S : Nat) : Nat → Int32
  | 0 => 0
  | k + 1 => psm a S k + (if S.testBit k then a k else 0)
theorem psm_c {a : Nat → Int32} {S S' : Nat} : ∀ k, (∀ j, j < k → S.testBit j = S'.testBit j) → psm a S k = psm a S' k
  | 0, _ => rfl
  | k + 1, h => by
    show psm a S k + (if S.testBit k then a k else 0) = psm a S' k + (if S'.testBit k then a k else 0)
    rw [psm_c k (fun j hj => h j (by omega)), h k (by omega)]
theorem psm_b {a : Nat → Int32} {S N : Nat} (hN : N ≤ 10) (h : ∀ j, j < N → 0 ≤ (a j).toInt ∧ (a j).toInt ≤ 9) : ∀ k, k ≤ N → 0 ≤ (psm a S k).toInt ∧ (psm a S k).toInt ≤ 9 * (k : Int)
  | 0, _ => by
    show 0 ≤ (0 : Int32).toInt ∧ (0 : Int32).toInt ≤ 9 * ((0 : Nat) : Int)
    rw [jl0]
    omega
  | k + 1, hk => by
    have ih := psm_b (S := S) hN h k (by omega)
    have b : 0 ≤ (if S.testBit k then a k else 0).toInt ∧ (if S.testBit k then a k else 0).toInt ≤ 9 := by
      by_cases z : S.testBit k = true
      · rw [if_pos z]; exact h k (by omega)
      · rw [if_neg z, jl0]; omega
    show 0 ≤ (psm a S k + (if S.testBit k then a k else 0)).toInt ∧ (psm a S k + (if S.testBit k then a k else 0)).toInt ≤ 9 * ((k + 1 : Nat) : Int)
    rw [i32_add (by omega) (by omega)]
    omega
section ORs
variable {s t s0 t0 s1 t1 : SS}
def sumX (s0 s : SS) (N : Nat) : Prop := ∀ S, S < 2 ^ N → zI s 39 S = psm (zI s0 35) S N
theorem sum_i {q0 : SS → Option (Int32 × SS)} {y1 : Int32} {Q : Int32 × SS → Prop} {k : Nat} (hk : k < 10) (hq : ∀ s, Frm [] [38, 39, 40] [] s0 s → sumX s0 s (k + 1) → Pc (q0 s) Q) : ∀ (n : Nat) (s : SS) (j : Nat), Frm [] [38, 39, 40] [] s0 s → sumX s0 s k → (∀ S, S < j → zI s 39 (2 ^ k + S) = psm (zI s0 35) (2 ^ k + S) (k + 1)) → j ≤ 2 ^ k → Pc (f_X6_leastLateness_L28 q0 y1 (nI k) n s (nI j)) Q
  | 0, _, _, _, _, _, _ => Pc_none
  | n + 1, s, j, F, A, B, hj => by
    have hk2 : 2 ^ k ≤ 512 := Nat.pow_le_pow_right (n := 2) (by decide) (show k ≤ 9 by omega)
    have hp : 2 ^ (k + 1) = 2 ^ k + 2 ^ k := by rw [Nat.pow_succ]; omega
    show Pc (f_X6_leastLateness_L28_b q0 y1 (nI k) (f_X6_leastLateness_L28 q0 y1 (nI k) n) s (nI j)) Q
    unfold f_X6_leastLateness_L28_b
    rw [sh1n k (by omega), nx_or, nI_n (k := j) (by omega), nI_n (k := k) (by omega)]
    by_cases c : j < 2 ^ k
    · refine Pc_ift ((nIlt (by omega) (by omega)).mpr c) (Pc_gd (fun _ => Pc_gd (fun _ => Pc_vl (Pc_vl (Pc_gd (fun _ => Pc_st (Pc_vl ?_)))))))
      rw [or_add c, nI_n (k := 2 ^ k + j) (by omega), nI1 (by omega)]
      refine sum_i hk hq n _ (j + 1) (F.pI rfl) (fun S hS => ?_) (fun S hS => ?_) (by omega)
      · rw [zI_pI, if_neg (by omega)]; exact A S hS
      · rw [zI_pI]
        by_cases z : S = j
        · rw [if_pos ⟨rfl, by omega⟩, z, A j c, F.2.1 35 k rfl]
          show _ = psm (zI s0 35) (2 ^ k + j) k + (if (2 ^ k + j).testBit k then zI s0 35 k else 0)
          rw [Nat.testBit_two_pow_add_eq, Nat.testBit_lt_two_pow c, psm_c (S := 2 ^ k + j) (S' := j) k (fun i hi => Nat.testBit_two_pow_add_gt hi j)]
          rfl
        · rw [if_neg (by omega)]; exact B S (by omega)
    · refine Pc_iff (fun z => c ((nIlt (by omega) (by omega)).mp z)) (hq s F (fun S hS => ?_))
      by_cases z : S < 2 ^ k
      · rw [A S z]
        show _ = psm (zI s0 35) S k + (if S.testBit k then zI s0 35 k else 0)
        rw [Nat.testBit_lt_two_pow z]
        exact (Int32.add_zero _).symm
      · have := B (S - 2 ^ k) (by omega)
        rw [show 2 ^ k + (S - 2 ^ k) = S by omega] at this
        exact this
theorem sum_k {q0 : SS → Option (Int32 × SS)} {y1 : Int32} {Q : Int32 × SS → Prop} {N : Nat} (hN : N ≤ 10) (e3 : zS s0 34 3 = nI N) (hq : ∀ s, Frm [] [38, 39, 40] [] s0 s → sumX s0 s N → Pc (q0 s) Q) : ∀ (n : Nat) (s : SS) (k : Nat), k ≤ N → Frm [] [38, 39, 40] [] s0 s → sumX s0 s k → Pc (f_X6_leastLateness_L18 q0 y1 n s (nI k)) Q
  | 0, _, _, _, _, _ => Pc_none
  | n + 1, s, k, hk, F, A => by
    show Pc (f_X6_leastLateness_L18_b q0 y1 (f_X6_leastLateness_L18 q0 y1 n) s (nI k)) Q
    unfold f_X6_leastLateness_L18_b
    rw [show zS s 34 3 = nI N from (F.1 34 3 rfl).trans e3]
    by_cases c : k < N
    · refine Pc_ift ((nIlt (by omega) (by omega)).mpr c) ?_
      refine sum_i (s0 := s0) (by omega) (fun s' F' A' => Pc_vl ?_) 4000 s 0 F A (fun S hS => absurd hS (Nat.not_lt_zero S)) (Nat.zero_le _)
      rw [nI1 (by omega)]
      exact sum_k hN e3 hq n s' (k + 1) (by omega) F' A'
    · refine Pc_iff (fun z => c ((nIlt (by omega) (by omega)).mp z)) (hq s F ?_)
      rw [show N = k by omega]
      exact A
/-- what a need costs that comes behind those in S -/
def cst (s0 : SS) (N S x : Nat) : Int32 := zI s0 36 x * (if (0 : Int32) < psm (zI s0 35) S N + zI s0 35 x - zI s0 37 x then psm (zI s0 35) S N + zI s0 35 x - zI s0 37 x else 0)
def NB (s0 : SS) (N : Nat) : Prop := ∀ i, i < N → (0 ≤ (zI s0 35 i).toInt ∧ (zI s0 35 i).toInt ≤ 9) ∧ (0 ≤ (zI s0 36 i).toInt ∧ (zI s0 36 i).toInt ≤ 99) ∧ (0 ≤ (zI s0 37 i).toInt ∧ (zI s0 37 i).toInt ≤ 99)
def NA (s0 t0 : SS) (N : Nat) : Prop := ∀ i, i < N → zI s0 35 i = zI t0 106 i ∧ zI s0 36 i = zI t0 107 i ∧ zI s0 37 i = zI t0 108 i
theorem cst_b {N S x : Nat} (hN : N ≤ 10) (hb : NB s0 N) (hx : x < N) : 0 ≤ (cst s0 N S x).toInt ∧ (cst s0 N S x).toInt ≤ 9801 := by
  obtain ⟨b1, b2, b3⟩ := hb x hx
  have p := psm_b (a := zI s0 35) (S := S) hN (fun j hj => (hb j hj).1) N (Nat.le_refl N)
  have e1 : (psm (zI s0 35) S N + zI s0 35 x).toInt = (psm (zI s0 35) S N).toInt + (zI s0 35 x).toInt := i32_add (by omega) (by omega)
  have e2 : (psm (zI s0 35) S N + zI s0 35 x - zI s0 37 x).toInt = (psm (zI s0 35) S N).toInt + (zI s0 35 x).toInt - (zI s0 37 x).toInt := by rw [i32_sub (by omega) (by omega), e1]
  unfold cst
  refine c99 b2 ?_
  by_cases z : (0 : Int32) < psm (zI s0 35) S N + zI s0 35 x - zI s0 37 x
  · rw [if_pos z, e2]
    rw [jlt, jl0, e2] at z
    omega
  · rw [if_neg z, jl0]
    omega
theorem swX {N S x : Nat} (hN : N ≤ 10) (hS : S < 2 ^ N) (hx : x < N) (F : Frm [] [38, 39, 40] [] s0 s) (A : sumX s0 s N) : Pc (f_X6_sumWith s (nI S) (nI x)) (fun v => v = cst s0 N S x + zI s 38 (S ||| 2 ^ x)) := by
  have h10 := p10 hN
  have l : S ||| 2 ^ x < 2 ^ N := Nat.or_lt_two_pow hS (Nat.pow_lt_pow_right (by decide) hx)
  unfold f_X6_sumWith
  rw [sh1n x (by omega), nx_or, nI_n (k := S) (by omega), nI_n (k := x) (by omega), maxJ, A S hS, F.2.1 35 x rfl, F.2.1 37 x rfl, F.2.1 36 x rfl]
  refine Pc_gd (fun _ => Pc_gd (fun _ => Pc_gd (fun _ => Pc_b1S (Pc_gd (fun _ => Pc_vl (Pc_gd (fun _ => Pc_some ?_)))))))
  rw [nI_n (k := S ||| 2 ^ x) (by omega)]
  rfl
theorem csL {N S : Nat} {y1 : Int32} {q0 : Int32 → Option Int32} {Q : Int32 → Prop} (hN : N ≤ 10) (hS : S < 2 ^ N) (e67 : zS t 59 67 = nI N) (al : NA s0 t N) (hq : Pc (q0 (psm (zI s0 35) S N)) Q) : ∀ (n k : Nat), k ≤ N → Pc (f_X12_costNext_L5 q0 t y1 (nI (cpl N S)) n (psm (zI s0 35) S k) (nI k)) Q
  | 0, _, _ => Pc_none
  | n + 1, k, hk => by
    have h10 := p10 hN
    have lT := cp_lt hS
    show Pc (f_X12_costNext_L5_b q0 t y1 (nI (cpl N S)) (f_X12_costNext_L5 q0 t y1 (nI (cpl N S)) n) (psm (zI s0 35) S k) (nI k)) Q
    unfold f_X12_costNext_L5_b
    rw [e67]
    by_cases c : k < N
    · refine Pc_ift ((nIlt (by omega) (by omega)).mpr c) (Pc_jn ?_)
      have ih := csL (y1 := y1) (q0 := q0) hN hS e67 al hq n (k + 1) (by omega)
      have ct := cp_t hS c
      rw [nI_n (k := k) (by omega)]
      cases b : S.testBit k with
      | true =>
        rw [b] at ct
        refine Pc_ift ((bt0 (by omega) (by omega)).mpr ct) (Pc_gd (fun _ => Pc_vl (Pc_vl ?_)))
        have e : psm (zI s0 35) S (k + 1) = psm (zI s0 35) S k + zI t 106 k := by
          show psm (zI s0 35) S k + (if S.testBit k then zI s0 35 k else 0) = _
          rw [if_pos b, (al k c).1]
        rw [nI1 (by omega), ← e]
        exact ih
      | false =>
        rw [b] at ct
        refine Pc_iff (fun z => ?_) (Pc_vl (Pc_vl ?_))
        · have := (bt0 (m := cpl N S) (k := k) (by omega) (by omega)).mp z
          rw [ct] at this
          cases this
        · have e : psm (zI s0 35) S (k + 1) = psm (zI s0 35) S k + 0 := by
            show psm (zI s0 35) S k + (if S.testBit k then zI s0 35 k else 0) = _
            rw [if_neg (by rw [b]; decide)]
          rw [nI1 (by omega), ← e]
          exact ih
    · refine Pc_iff (fun z => c ((nIlt (by omega) (by omega)).mp z)) ?_
      rw [show k = N by omega]
      exact hq
theorem cnM {N S x : Nat} (hN : N ≤ 10) (hS : S < 2 ^ N) (hx : x < N) (e67 : zS t 59 67 = nI N) (al : NA s0 t N) : Pc (f_X12_costNext t (nI x) (nI (cpl N S))) (fun v => v = cst s0 N S x) := by
  unfold f_X12_costNext
  refine csL (s0 := s0) (S := S) hN hS e67 al ?_ 4000 0 (Nat.zero_le _)
  obtain ⟨a1, a2, a3⟩ := al x hx
  rw [nI_n (k := x) (by omega), ← a1, ← a2, ← a3]
  refine Pc_gd (fun _ => Pc_gd (fun _ => Pc_vl (Pc_if (fun z => Pc_gd (fun _ => Pc_some ?_)) (fun z => Pc_some ?_))))
  · unfold cst
    rw [if_pos z]
    exact Int32.mul_comm _ _
  · unfold cst
    rw [if_neg z]
    exact (Int32.mul_zero).symm
/-- a set, both ways -/
def OK1 (s0 : SS) (N : Nat) (s t : SS) (S : Nat) : Prop := zI s 38 S = zI t 109 (cpl N S) ∧ (0 ≤ (zI s 38 S).toInt ∧ (zI s 38 S).toInt ≤ 9801 * ((cpl N S : Nat) : Int)) ∧ (S + 1 < 2 ^ N → ∃ x, x < N ∧ S.testBit x = false ∧ zI s 38 S = cst s0 N S x + zI s 38 (S ||| 2 ^ x))
/-- what all the loops know -/
def OB (s0 t0 : SS) (N : Nat) : Prop := (1 ≤ N ∧ N ≤ 10) ∧ zS s0 34 3 = nI N ∧ zS t0 59 67 = nI N ∧ NA s0 t0 N ∧ NB s0 N
def OR (s0 t0 : SS) (N T : Nat) (s t : SS) : Prop := Frm [] [38, 39, 40] [] s0 s ∧ Frm [] [109, 110] [] t0 t ∧ sumX s0 s N ∧ ∀ S, 2 ^ N ≤ S + T → S < 2 ^ N → OK1 s0 N s t S
theorem NA.f {N : Nat} (h : NA s0 t0 N) (F : Frm [] [109, 110] [] t0 t) : NA s0 t N := fun i hi => by rw [F.2.1 106 i rfl, F.2.1 107 i rfl, F.2.1 108 i rfl]; exact h i hi
def PCg {α : Type} (P : α → Option (Int32 × SS) → Prop) : Prop := (∀ a, P a none) ∧ ∀ a K K', (∀ R : Int32 × SS → Prop, Pc K R → Pc K' R) → P a K → P a K'
def Inn (s0 : SS) (N S : Nat) (s : SS) (x3 y : Int32) (k : Nat) : Prop := (x3 = 1000000000 ∧ y = 2147483647 ∧ ∀ j, j < k → S.testBit j = true) ∨ (x3 = y ∧ (0 ≤ x3.toInt ∧ x3.toInt ≤ 9801 * ((cpl N S : Nat) : Int)) ∧ ∃ x, x < N ∧ S.testBit x = false ∧ x3 = cst s0 N S x + zI s 38 (S ||| 2 ^ x))
theorem ord_i {qX : Int32 → Option (Int32 × SS)} {qM : SS → Option (Int32 × SS)} {P : Int32 × SS → Option (Int32 × SS) → Prop} {N S : Nat} (HP : PCg P) (B : OB s0 t0 N) (hS : S + 1 < 2 ^ N) (F : Frm [] [38, 39, 40] [] s0 s) (A : sumX s0 s N) (F1 : Frm [] [109, 110] [] t0 t1) (O : ∀ S', S < S' → S' < 2 ^ N → OK1 s0 N s t1 S') (hq : ∀ t x3, Frm [] [109, 110] [] t1 t → (∀ j, j ≠ cpl N S → zI t 109 j = zI t1 109 j) → Inn s0 N S s x3 (zI t 109 (cpl N S)) N → Pc (qX x3) (fun a => P a (qM t))) : ∀ (n m : Nat) (t : SS) (x3 : Int32) (k : Nat), k ≤ N → Frm [] [109, 110] [] t1 t → (∀ j, j ≠ cpl N S → zI t 109 j = zI t1 109 j) → Inn s0 N S s x3 (zI t 109 (cpl N S)) k → Pc (f_X6_leastLateness_L91 qX s (nI S) n x3 (nI k)) (fun a => P a (f_X12_order_L32 qM (nI (cpl N S)) m t (nI k)))
  | 0, _, _, _, _, _, _, _, _ => Pc_none
  | n + 1, 0, _, _, _, _, _, _, _ => fun a _ => HP.1 a
  | n + 1, m + 1, t, x3, k, hk, Ft, G, I => by
    obtain ⟨⟨n1, hN⟩, e3, e67, al, hb⟩ := id B
    have h10 := p10 hN
    have hS' : S < 2 ^ N := by omega
    have lT := cp_lt hS'
    have Ft0 : Frm [] [109, 110] [] t0 t := F1.tr Ft
    have e67' : zS t 59 67 = nI N := (Ft0.1 59 67 rfl).trans e67
    show Pc (f_X6_leastLateness_L91_b qX s (nI S) (f_X6_leastLateness_L91 qX s (nI S) n) x3 (nI k)) (fun a => P a (f_X12_order_L32_b qM (nI (cpl N S)) (f_X12_order_L32 qM (nI (cpl N S)) m) t (nI k)))
    unfold f_X6_leastLateness_L91_b f_X12_order_L32_b
    rw [show zS s 34 3 = nI N from (F.1 34 3 rfl).trans e3, e67', nI_n (k := cpl N S) (by omega)]
    by_cases c : k < N
    · have ck : nI k < nI N := (nIlt (by omega) (by omega)).mpr c
      have ct := cp_t hS' c
      refine Pc_ift ck (Pc_jn ?_)
      cases b : S.testBit k with
      | true =>
        rw [b] at ct
        refine Pc_iff (fun z => ?_) (Pc_vl ?_)
        · have := (an0 (m := S) (k := k) (by omega) (by omega)).mp z
          rw [b] at this
          cases this
        · rw [nI1 (by omega)]
          refine Pc.mono (ord_i HP B hS F A F1 O hq n m t x3 (k + 1) (by omega) Ft G ?_) (fun a ha => HP.2 a _ _ (fun R h => Pc_ift ck (Pc_jn (Pc_ift ((bt0 (by omega) (by omega)).mpr ct) (Pc_vl h)))) ha)
          rcases I with ⟨i1, i2, i3⟩ | i
          · refine Or.inl ⟨i1, i2, fun j hj => ?_⟩
            by_cases z : j = k
            · rw [z]; exact b
            · exact i3 j (by omega)
          · exact Or.inr i
      | false =>
        rw [b] at ct
        have ct : (cpl N S).testBit k = true := ct
        obtain ⟨d1, d2, d3⟩ := cp_add hS' c b
        obtain ⟨o1, o2, _⟩ := O _ d2 d1
        have cb := cst_b (S := S) hN hb c
        have dl := del_lt ct
        have e9 : zI t 109 (cpl N S ^^^ 2 ^ k) = zI s 38 (S ||| 2 ^ k) := by
          rw [G _ (by omega), ← d3]
          exact o1.symm
        have lt2 := cp_lt2 d1 d2
        have Ve : (cst s0 N S k + zI s 38 (S ||| 2 ^ k)).toInt = (cst s0 N S k).toInt + (zI s 38 (S ||| 2 ^ k)).toInt := i32_add (by omega) (by omega)
        -- the reference, this need
        have md : ∀ R : Int32 × SS → Prop, Pc (f_X12_order_L32 qM (nI (cpl N S)) m (if cst s0 N S k + zI s 38 (S ||| 2 ^ k) < zI t 109 (cpl N S) then pI t 109 (cpl N S) (cst s0 N S k + zI s 38 (S ||| 2 ^ k)) else t) (nI (k + 1))) R → Pc (if nI k < nI N then (jn (fun (s6 : SS) => (vl (nI k + 1) fun v7 => (f_X12_order_L32 qM (nI (cpl N S)) m s6 v7))) fun k6 => (if ((nI (cpl N S) >>> (nI k &&& 31)) &&& (1 : Int32)) = (0 : Int32) then (k6 t) else (b1 (f_X12_costNext t (nI k) (nI (cpl N S))) fun r10 => (vl ((nI (cpl N S) &&& (((1 : Int32) <<< (nI k &&& 31)) ^^^ ((-1) : Int32)))) fun v11 => (gd (inB v11 1024) (vl ((r10 + (zI t 109 (v11.toInt.toNat)))) fun v13 => (gd (inB (nI (cpl N S)) 1024) (if v13 < (zI t 109 (cpl N S)) then (gd (inB (nI (cpl N S)) 1024) (st (pI t 109 (cpl N S) v13) fun s17 => (k6 s17))) else (k6 t))))))))) else (qM t)) R := by
          intro R g
          refine Pc_ift ck (Pc_jn (Pc_iff (fun z => ?_) (Pc_b1 (Pc.mono (cnM (s0 := s0) (x := k) hN hS' c e67' (al.f Ft0)) (fun v hv => ?_)))))
          · have := (bt0 (m := cpl N S) (k := k) (by omega) (by omega)).mp z
            rw [ct] at this
            cases this
          · rw [nx_del (by omega) ct, hv]
            refine Pc_vl (Pc_gd (fun _ => Pc_vl (Pc_gd (fun _ => ?_))))
            rw [nI_n (k := cpl N S ^^^ 2 ^ k) (by omega), e9]
            refine Pc_if (fun z => Pc_gd (fun _ => Pc_st (Pc_vl ?_))) (fun z => Pc_vl ?_)
            · rw [if_pos z] at g
              rw [nI1 (by omega)]
              exact g
            · rw [if_neg z] at g
              rw [nI1 (by omega)]
              exact g
        refine Pc_ift ((an0 (by omega) (by omega)).mpr b) (Pc_b1 (Pc.mono (swX hN hS' c F A) (fun v hv => ?_)))
        rw [hv, minJ]
        generalize hV : cst s0 N S k + zI s 38 (S ||| 2 ^ k) = V at Ve md ⊢
        refine Pc_b1S (Pc_vl ?_)
        rw [nI1 (k := k) (by omega)] at md ⊢
        have Vb : 0 ≤ V.toInt ∧ V.toInt ≤ 9801 * ((cpl N S : Nat) : Int) := by rw [Ve]; omega
        have W : V < x3 ↔ V < zI t 109 (cpl N S) := by
          rcases I with ⟨i1, i2, _⟩ | ⟨i1, _⟩
          · rw [i1, i2, jlt, jlt, show (1000000000 : Int32).toInt = 1000000000 from rfl, show (2147483647 : Int32).toInt = 2147483647 from rfl]
            omega
          · rw [i1]
        by_cases z : V < x3
        · rw [if_pos z]
          rw [if_pos (W.mp z)] at md
          refine Pc.mono (ord_i HP B hS F A F1 O hq n m (pI t 109 (cpl N S) V) V (k + 1) (by omega) (Ft.pI rfl) (fun j hj => ?_) ?_) (fun a ha => HP.2 a _ _ md ha)
          · rw [zI_pI, if_neg (fun w => hj w.2)]
            exact G j hj
          · rw [zI_pI, if_pos ⟨rfl, rfl⟩]
            exact Or.inr ⟨rfl, Vb, k, c, b, hV.symm⟩
        · rw [if_neg z]
          rw [if_neg (fun w => z (W.mpr w))] at md
          refine Pc.mono (ord_i HP B hS F A F1 O hq n m t x3 (k + 1) (by omega) Ft G ?_) (fun a ha => HP.2 a _ _ md ha)
          rcases I with ⟨i1, _, _⟩ | i
          · exfalso
            apply z
            rw [i1, jlt, show (1000000000 : Int32).toInt = 1000000000 from rfl]
            omega
          · exact Or.inr i
    · have ck : ¬ nI k < nI N := fun z => c ((nIlt (by omega) (by omega)).mp z)
      have kN : k = N := by omega
      refine Pc_iff ck (Pc.mono (hq t x3 Ft G (by have I' := I; rw [kN] at I'; exact I')) (fun a ha => HP.2 a _ _ (fun R h => Pc_iff ck h) ha))
theorem ord_s {qX : SS → Option (Int32 × SS)} {qM : SS → Option (Int32 × SS)} {P : Int32 × SS → Option (Int32 × SS) → Prop} {N : Nat} (HP : PCg P) (B : OB s0 t0 N) (hq : ∀ s t, OR s0 t0 N (2 ^ N) s t → Pc (qX s) (fun a => P a (qM t))) : ∀ (n m : Nat) (s t : SS) (T : Nat) (x : Int32), 1 ≤ T → T ≤ 2 ^ N → x.toInt = ((2 ^ N : Nat) : Int) - 1 - (T : Int) → OR s0 t0 N T s t → Pc (f_X6_leastLateness_L81 qX n s x) (fun a => P a (f_X12_order_L11 qM m t (nI T)))
  | 0, _, _, _, _, _, _, _, _, _ => Pc_none
  | n + 1, 0, _, _, _, _, _, _, _, _ => fun a _ => HP.1 a
  | n + 1, m + 1, s, t, T, x, t1, t2, hx, O => by
    obtain ⟨⟨n1, hN⟩, e3, e67, al, hb⟩ := id B
    have h10 := p10 hN
    obtain ⟨F, Ft, A, Ok⟩ := id O
    have e67' : zS t 59 67 = nI N := (Ft.1 59 67 rfl).trans e67
    show Pc (f_X6_leastLateness_L81_b qX (f_X6_leastLateness_L81 qX n) s x) (fun a => P a (f_X12_order_L11_b qM (f_X12_order_L11 qM m) t (nI T)))
    unfold f_X6_leastLateness_L81_b f_X12_order_L11_b
    rw [e67', sh1n N (by omega), nI_n (k := T) (by omega)]
    by_cases c : T < 2 ^ N
    · obtain ⟨S, hS⟩ : ∃ S : Nat, S = 2 ^ N - 1 - T := ⟨_, rfl⟩
      have lS : S + 1 < 2 ^ N := by omega
      have eT : cpl N S = T := by unfold cpl; omega
      have ex : x = nI S := Int32.toInt_inj.1 (by rw [nI_t (by omega)]; omega)
      have ck : nI T < nI (2 ^ N) := (nIlt (by omega) (by omega)).mpr c
      rw [ex, nI_n (k := S) (by omega)]
      refine Pc_iff (by rw [jlt, nI_t (by omega), jl0]; omega) ?_
      have md : ∀ a, P a (f_X12_order_L32 (fun (s18 : SS) => (vl (nI T + 1) fun v19 => (f_X12_order_L11 qM m s18 v19))) (nI T) 4000 (pI t 109 T 2147483647) 0) → P a (if nI T < nI (2 ^ N) then (gd (inB (nI T) 1024) (st (pI t 109 T 2147483647) fun s4 => (f_X12_order_L32 (fun (s18 : SS) => (vl (nI T + 1) fun v19 => (f_X12_order_L11 qM m s18 v19))) (nI T) 4000 s4 0))) else (qM t)) := fun a ha => HP.2 a _ _ (fun R h => Pc_ift ck (Pc_gd (fun _ => Pc_st h))) ha
      refine Pc.mono ?_ md
      have key := ord_i (s := s) (t1 := pI t 109 T 2147483647) (S := S) (qX := fun (x26_3 : Int32) => (gd (inB (nI S) 1024) (st (pI s 38 S x26_3) fun s28 => (vl (nI S + (-1)) fun v29 => (f_X6_leastLateness_L81 qX n s28 v29))))) (qM := fun (s18 : SS) => (vl (nI T + 1) fun v19 => (f_X12_order_L11 qM m s18 v19))) (P := P) HP B lS F A (Ft.pI rfl) (fun S' l1 l2 => ?_) (fun t' x3 Ft' G I => Pc_gd (fun _ => Pc_st (Pc_vl ?_))) 4000 4000 (pI t 109 T 2147483647) 1000000000 0 (Nat.zero_le _) Frm.rf (fun _ _ => rfl) (Or.inl ⟨rfl, by rw [eT, zI_pI, if_pos ⟨rfl, rfl⟩], fun j hj => absurd hj (Nat.not_lt_zero j)⟩)
      · rw [eT] at key
        exact key
      · obtain ⟨o1, o2, o3⟩ := Ok S' (by omega) l2
        have := cp_lt2 l2 l1
        exact ⟨by rw [zI_pI, if_neg (by omega)]; exact o1, o2, o3⟩
      · -- this set is done
        have nx : (nI S + (-1)).toInt = ((2 ^ N : Nat) : Int) - 1 - ((T + 1 : Nat) : Int) := by
          have jm1 : (-1 : Int32).toInt = -1 := rfl
          have es : (nI S).toInt = (S : Int) := nI_t (by omega)
          rw [i32_add (by rw [jm1]; omega) (by rw [jm1]; omega), jm1]
          omega
        rw [eT] at G I
        have tT : zI t' 109 T = x3 ∧ (0 ≤ x3.toInt ∧ x3.toInt ≤ 9801 * ((cpl N S : Nat) : Int)) ∧ ∃ y, y < N ∧ S.testBit y = false ∧ x3 = cst s0 N S y + zI s 38 (S ||| 2 ^ y) := by
          rcases I with ⟨_, _, i3⟩ | ⟨i1, i2, i3⟩
          · exfalso
            refine ex_bit (m := T) (N := N) t1 c (fun k hk => ?_)
            rw [← eT, cp_t (by omega) hk, i3 k hk]
            rfl
          · exact ⟨i1.symm, i2, i3⟩
        have O' : OR s0 t0 N (T + 1) (pI s 38 S x3) t' := by
          have up : ∀ S', S < S' → zI (pI s 38 S x3) 38 S' = zI s 38 S' := fun S' h => by rw [zI_pI, if_neg (by omega)]
          refine ⟨F.pI rfl, (Ft.pI rfl).tr Ft', A, fun S' h1 h2 => ?_⟩
          by_cases z : S' = S
          · subst z
            obtain ⟨u1, u2, y, u3, u4, u5⟩ := tT
            have ev : zI (pI s 38 S' x3) 38 S' = x3 := by rw [zI_pI, if_pos ⟨rfl, rfl⟩]
            refine ⟨by rw [ev, eT]; exact u1.symm, by rw [ev]; exact u2, fun _ => ⟨y, u3, u4, ?_⟩⟩
            rw [ev, up _ (cp_add (by omega) u3 u4).2.1]
            exact u5
          · obtain ⟨o1, o2, o3⟩ := Ok S' (by omega) h2
            have ll := cp_lt2 h2 (show S < S' by omega)
            refine ⟨?_, by rw [up S' (by omega)]; exact o2, fun h => ?_⟩
            · rw [up S' (by omega), G _ (by omega), zI_pI, if_neg (by omega)]
              exact o1
            · obtain ⟨y, v1, v2, v3⟩ := o3 h
              refine ⟨y, v1, v2, ?_⟩
              rw [up S' (by omega), up _ (Nat.lt_trans (show S < S' by omega) (cp_add h2 v1 v2).2.1)]
              exact v3
        refine Pc.mono (ord_s HP B hq n m (pI s 38 S x3) t' (T + 1) (nI S + (-1)) (by omega) (by omega) nx O') (fun a ha => HP.2 a _ _ (fun R h => Pc_vl ?_) ha)
        rw [nI1 (by omega)]
        exact h
    · have eT : T = 2 ^ N := by omega
      have ck : ¬ nI T < nI (2 ^ N) := fun z => c ((nIlt (by omega) (by omega)).mp z)
      refine Pc_ift (by rw [jlt, jl0]; omega) (Pc.mono (hq s t (by rw [← eT]; exact O)) (fun a ha => HP.2 a _ _ (fun R h => Pc_iff ck h) ha))
/-- the first that is least, both ways -/
theorem ord_f {qX : Int32 → Option SS} {qM : Int32 → Option (Int32 × SS)} {P : SS → Option (Int32 × SS) → Prop} {N S : Nat} {y2 z2 z3 : Int32} (HP : PCg P) (B : OB s0 t0 N) (hS : S + 1 < 2 ^ N) (O : OR s0 t0 N (2 ^ N) s t) (hq : ∀ x, x < N → S.testBit x = false → Pc (qX (nI x)) (fun a => P a (qM (nI x)))) : ∀ (n m k : Nat), k < N → (∀ j, j < k → S.testBit j = false → ¬ cst s0 N S j + zI s 38 (S ||| 2 ^ j) = zI s 38 S) → Pc (f_X6_placesFollow_L14 qX s (nI S) y2 n (nI k)) (fun a => P a (f_X12_order_L129 qM t (nI (cpl N S)) z2 z3 m (nI k)))
  | 0, _, _, _, _ => Pc_none
  | n + 1, 0, _, _, _ => fun a _ => HP.1 a
  | n + 1, m + 1, k, hk, I => by
    obtain ⟨⟨n1, hN⟩, e3, e67, al, hb⟩ := id B
    have h10 := p10 hN
    obtain ⟨F, Ft, A, Ok⟩ := id O
    have hS' : S < 2 ^ N := by omega
    have lT := cp_lt hS'
    have e67' : zS t 59 67 = nI N := (Ft.1 59 67 rfl).trans e67
    have ct := cp_t hS' hk
    obtain ⟨o1, o2, o3⟩ := Ok S (by omega) hS'
    show Pc (f_X6_placesFollow_L14_b qX s (nI S) y2 (f_X6_placesFollow_L14 qX s (nI S) y2 n) (nI k)) (fun a => P a (f_X12_order_L129_b qM t (nI (cpl N S)) z2 z3 (f_X12_order_L129 qM t (nI (cpl N S)) z2 z3 m) (nI k)))
    unfold f_X6_placesFollow_L14_b f_X12_order_L129_b
    rw [show zS s 34 3 = nI N from (F.1 34 3 rfl).trans e3, nIm (by omega) n1, nI_n (k := cpl N S) (by omega), nI_n (k := S) (by omega), ← o1]
    -- the reference, this need
    have md : ∀ R : Int32 × SS → Prop, (S.testBit k = true → Pc (f_X12_order_L129 qM t (nI (cpl N S)) z2 z3 m (nI (k + 1))) R) → (S.testBit k = false → cst s0 N S k + zI s 38 (S ||| 2 ^ k) = zI s 38 S → Pc (qM (nI k)) R) → (S.testBit k = false → ¬ cst s0 N S k + zI s 38 (S ||| 2 ^ k) = zI s 38 S → Pc (f_X12_order_L129 qM t (nI (cpl N S)) z2 z3 m (nI (k + 1))) R) → Pc (jn ((vl (nI k + 1) fun v26 => (f_X12_order_L129 qM t (nI (cpl N S)) z2 z3 m v26))) fun k25 => (if ((nI (cpl N S) >>> (nI k &&& 31)) &&& (1 : Int32)) = (0 : Int32) then k25 else (b1 (f_X12_costNext t (nI k) (nI (cpl N S))) fun r28 => (vl ((nI (cpl N S) &&& (((1 : Int32) <<< (nI k &&& 31)) ^^^ ((-1) : Int32)))) fun v29 => (gd (inB v29 1024) (gd (inB (nI (cpl N S)) 1024) (if (r28 + (zI t 109 (v29.toInt.toNat))) = (zI s 38 S) then (qM (nI k)) else k25))))))) R := by
      intro R g1 g2 g3
      rw [nI1 (by omega)]
      refine Pc_jn ?_
      cases b : S.testBit k with
      | true =>
        rw [b] at ct
        exact Pc_ift ((bt0 (by omega) (by omega)).mpr ct) (Pc_vl (g1 b))
      | false =>
        rw [b] at ct
        have ct : (cpl N S).testBit k = true := ct
        obtain ⟨d1, d2, d3⟩ := cp_add hS' hk b
        have dl := del_lt ct
        have e9 : zI t 109 (cpl N S ^^^ 2 ^ k) = zI s 38 (S ||| 2 ^ k) := by
          rw [← d3]
          exact (Ok _ (by omega) d1).1.symm
        refine Pc_iff (fun z => ?_) (Pc_b1 (Pc.mono (cnM (s0 := s0) (x := k) hN hS' hk e67' (al.f Ft)) (fun v hv => ?_)))
        · have := (bt0 (m := cpl N S) (k := k) (by omega) (by omega)).mp z
          rw [ct] at this
          cases this
        · rw [nx_del (by omega) ct, hv]
          refine Pc_vl (Pc_gd (fun _ => Pc_gd (fun _ => ?_)))
          rw [nI_n (k := cpl N S ^^^ 2 ^ k) (by omega), e9]
          exact Pc_if (fun z => g2 b z) (fun z => Pc_vl (g3 b z))
    by_cases c : k + 1 < N
    · refine Pc_ift ((nIlt (by omega) (by omega)).mpr (by omega)) (Pc_jn ?_)
      rw [nI1 (k := k) (by omega)] at md ⊢
      cases b : S.testBit k with
      | true =>
        refine Pc_iff (fun z => ?_) (Pc_vl ?_)
        · have := (an0 (m := S) (k := k) (by omega) (by omega)).mp z
          rw [b] at this
          cases this
        · refine Pc.mono (ord_f HP B hS O hq n m (k + 1) (by omega) (fun j hj hb => ?_)) (fun a ha => HP.2 a _ _ (fun R h => md R (fun _ => h) (fun w => absurd (b.symm.trans w) (by decide)) (fun w => absurd (b.symm.trans w) (by decide))) ha)
          by_cases z : j = k
          · rw [z, b] at hb
            cases hb
          · exact I j (by omega) hb
      | false =>
        refine Pc_ift ((an0 (by omega) (by omega)).mpr b) (Pc_b1 (Pc.mono (swX hN hS' hk F A) (fun v hv => Pc_gd (fun _ => ?_))))
        rw [hv]
        by_cases e : cst s0 N S k + zI s 38 (S ||| 2 ^ k) = zI s 38 S
        · exact Pc_ift e (Pc.mono (hq k hk b) (fun a ha => HP.2 a _ _ (fun R h => md R (fun w => absurd (b.symm.trans w) (by decide)) (fun _ _ => h) (fun _ w => absurd e w)) ha))
        · refine Pc_iff e (Pc_vl (Pc.mono (ord_f HP B hS O hq n m (k + 1) (by omega) (fun j hj hb => ?_)) (fun a ha => HP.2 a _ _ (fun R h => md R (fun w => absurd (b.symm.trans w) (by decide)) (fun _ w => absurd w e) (fun _ _ => h)) ha)))
          by_cases z : j = k
          · rw [z]; exact e
          · exact I j (by omega) hb
    · obtain ⟨y, y1, y3, y4⟩ := o3 hS
      have yk : y = k := by
        by_cases z : y < k
        · exact absurd y4.symm (I y z y3)
        · omega
      subst yk
      refine Pc_iff (fun z => ?_) (Pc.mono (hq y hk y3) (fun a ha => HP.2 a _ _ (fun R h => md R (fun w => absurd (y3.symm.trans w) (by decide)) (fun _ _ => h) (fun _ w => absurd y4.symm w)) ha))
      have := (nIlt (by omega) (by omega)).mp z
      omega
theorem OR.w {N i : Nat} {v : Int32} (O : OR s0 t0 N (2 ^ N) s t) : OR s0 t0 N (2 ^ N) (pI s 40 i v) (pI t 110 i v) := ⟨O.1.pI rfl, O.2.1.pI rfl, O.2.2.1, O.2.2.2⟩
theorem ord_p {qX : SS → Option SS} {qM : SS → Option (Int32 × SS)} {P : SS → Option (Int32 × SS) → Prop} {N : Nat} {y2 : Int32} (HP : PCg P) (B : OB s0 t0 N) (hq : ∀ s t, OR s0 t0 N (2 ^ N) s t → (∀ j, j < N → zI s 40 j = zI t 110 j) → zI s 38 0 = y2 → Pc (qX s) (fun a => P a (qM t))) : ∀ (n m : Nat) (s t : SS) (S i : Nat), i ≤ N → S < 2 ^ N → pc (cpl N S) + i = N → OR s0 t0 N (2 ^ N) s t → (∀ j, j < i → zI s 40 j = zI t 110 j) → zI s 38 0 = y2 → Pc (f_X6_placesFollow_L4 qX n s (nI S) (nI i)) (fun a => P a (f_X12_order_L118 qM y2 m t (nI (cpl N S)) (nI i)))
  | 0, _, _, _, _, _, _, _, _, _, _, _ => Pc_none
  | n + 1, 0, _, _, _, _, _, _, _, _, _, _ => fun a _ => HP.1 a
  | n + 1, m + 1, s, t, S, i, hi, hS, hp, O, E, e0 => by
    obtain ⟨⟨n1, hN⟩, e3, e67, al, hb⟩ := id B
    have h10 := p10 hN
    have lT := cp_lt hS
    show Pc (f_X6_placesFollow_L4_b qX (f_X6_placesFollow_L4 qX n) s (nI S) (nI i)) (fun a => P a (f_X12_order_L118_b qM y2 (f_X12_order_L118 qM y2 m) t (nI (cpl N S)) (nI i)))
    unfold f_X6_placesFollow_L4_b f_X12_order_L118_b
    rw [show zS s 34 3 = nI N from (O.1.1 34 3 rfl).trans e3, show zS t 59 67 = nI N from (O.2.1.1 59 67 rfl).trans e67, nI_n (k := i) (by omega)]
    by_cases c : i < N
    · have ck : nI i < nI N := (nIlt (by omega) (by omega)).mpr c
      have T1 : 1 ≤ cpl N S := pc_0 (N := N - i) (by omega) (by omega)
      have lS : S + 1 < 2 ^ N := by unfold cpl at T1; omega
      refine Pc_ift ck (Pc.mono ?_ (fun a ha => HP.2 a _ _ (fun R h => Pc_ift ck h) ha))
      refine ord_f (s0 := s0) (t0 := t0) (P := P) HP B lS O (fun x hx hb => ?_) 4000 4000 0 (by omega) (fun j hj => absurd hj (Nat.not_lt_zero j))
      have tb : (cpl N S).testBit x = true := by rw [cp_t hS hx, hb]; rfl
      obtain ⟨d1, d2, d3⟩ := cp_add hS hx hb
      have pd := pc_del (by omega) tb
      rw [sh1n x (by omega), nx_or, nI1 (by omega)]
      refine Pc_gd (fun _ => Pc_st (Pc_vl (Pc_vl ?_)))
      refine Pc.mono (ord_p HP B hq n m (pI s 40 i (nI x)) (pI t 110 i (nI x)) (S ||| 2 ^ x) (i + 1) (by omega) d1 (by rw [d3]; omega) O.w (fun j hj => ?_) e0) (fun a ha => HP.2 a _ _ (fun R h => Pc_gd (fun _ => Pc_st (Pc_vl (Pc_vl ?_)))) ha)
      · rw [zI_pI, zI_pI]
        by_cases z : j = i
        · rw [if_pos ⟨rfl, z⟩, if_pos ⟨rfl, z⟩]
        · rw [if_neg (fun w => z w.2), if_neg (fun w => z w.2)]
          exact E j (by omega)
      · rw [← sh1n x (by omega), nx_del (by omega) tb, ← d3]
        exact h
    · have ck : ¬ nI i < nI N := fun z => c ((nIlt (by omega) (by omega)).mp z)
      refine Pc_iff ck (Pc.mono (hq s t O (fun j hj => E j (by omega)) e0) (fun a ha => HP.2 a _ _ (fun R h => Pc_iff ck h) ha))
/-- needs told, and the last order -/
def QNed (s t : SS) : Prop := zS s 34 3 = zS t 59 67 ∧ (0 ≤ (zS s 34 3).toInt ∧ (zS s 34 3).toInt ≤ 10) ∧ ∀ i : Nat, (i : Int) < (zS s 34 3).toInt → (zI s 35 i = zI t 106 i ∧ zI s 36 i = zI t 107 i ∧ zI s 37 i = zI t 108 i) ∧ (0 ≤ (zI s 35 i).toInt ∧ (zI s 35 i).toInt ≤ 9) ∧ (0 ≤ (zI s 36 i).toInt ∧ (zI s 36 i).toInt ≤ 99) ∧ (0 ≤ (zI s 37 i).toInt ∧ (zI s 37 i).toInt ≤ 99)
def QOrd (s t : SS) : Prop := (zS s 34 7 = 0 ∧ zS t 59 72 = -1) ∨ (zS s 34 7 = zS t 59 72 ∧ (0 ≤ (zS s 34 7).toInt ∧ (zS s 34 7).toInt ≤ 10) ∧ ∀ i : Nat, (i : Int) < (zS s 34 7).toInt → zI s 40 i = zI t 110 i)
theorem V_ordered (Q : QOrd s t) (a0 : Int32) : Pc (f_X11_ordered s a0) fun x => Pc (f_X12_ordered t a0) fun m => x = m := by
  unfold f_X11_ordered f_X12_ordered
  have M0 : ∀ K : Option Int32, ¬ ((0 : Int32).toInt ≤ a0.toInt ∧ a0.toInt ≤ (zS t 59 72 - 1).toInt) → Pc (b1 (f_X12_in a0 0 (zS t 59 72 - 1)) fun r1 => if r1 = 0 then some (-1) else K) (fun m => (-1 : Int32) = m) := fun K h => by
    rw [in_f h]
    exact Pc_b1S (Pc_if00 (Pc_some rfl))
  rcases Q with ⟨w1, w2⟩ | ⟨w1, w2, w3⟩
  · have e : (zS t 59 72 - 1).toInt = -2 := by rw [w2]; rfl
    refine Pc_lt (fun z => Pc_some (M0 _ (by rw [jl0] at z ⊢; omega))) (fun z => Pc_lt (fun w => ?_) (fun w => Pc_some (M0 _ (by rw [e, jl0]; omega))))
    rw [w1, jl0] at w
    rw [jl0] at z
    omega
  · have e : (zS t 59 72 - 1).toInt = (zS s 34 7).toInt - 1 := by rw [← w1, i32_sub (by rw [jl1]; omega) (by rw [jl1]; omega), jl1]
    refine Pc_lt (fun z => Pc_some (M0 _ (by rw [jl0] at z ⊢; omega))) (fun z => Pc_lt (fun w => ?_) (fun w => Pc_some (M0 _ (by rw [e]; omega))))
    rw [jl0] at z
    rw [in_t (a := a0) (by rw [jl0, e]; omega)]
    refine Pc_gd (fun g => Pc_some (Pc_b1S (Pc_if10 (Pc_gd (fun _ => Pc_some (w3 _ (by omega)))))))
theorem L_need (Q : QNed s t) (a0 a1 : Int32) : Pc (f_X11_need s a0 a1) fun x => Pc (f_X12_need t a0 a1) fun m => x.1 = m.1 ∧ QNed x.2 m.2 := by
  have j100 : (100 : Int32).toInt = 100 := rfl
  have j999 : (999 : Int32).toInt = 999 := rfl
  have j99 : (99 : Int32).toInt = 99 := rfl
  have j9 : (9 : Int32).toInt = 9 := rfl
  have j10 : (10 : Int32).toInt = 10 := rfl
  obtain ⟨e3, h3, al⟩ := id Q
  unfold f_X11_need f_X12_need f_X6_needTold
  have D : ∀ K : Option (Int32 × SS), ¬ (100 ≤ a0.toInt ∧ a0.toInt ≤ 999) → Pc (if a0 < (0 : Int32) then some ((-1), t) else (b1 (f_X12_in (a0 / (100 : Int32)) (1 : Int32) (9 : Int32)) fun r2 => (if r2 = (0 : Int32) then some ((-1), t) else K))) (fun m => (-1 : Int32) = m.1 ∧ QNed s m.2) := fun K h => by
    refine Pc_lt (fun _ => Pc_some ⟨rfl, Q⟩) (fun z => ?_)
    rw [jl0] at z
    rw [in_f (a := a0 / 100) (by rw [jl1, j9, d100 z]; omega)]
    exact Pc_b1S (Pc_if00 (Pc_some ⟨rfl, Q⟩))
  refine Pc_lt (fun z => Pc_some (D _ (by rw [j100] at z; omega))) (fun l1 => Pc_lt (fun z => Pc_some (D _ (by rw [j999] at z; omega))) (fun l2 => ?_))
  rw [j100] at l1
  rw [j999] at l2
  have p0 : 0 ≤ a0.toInt := by omega
  have dd := d100 p0
  have mm := m100 p0
  rw [in_t (a := a0 / 100) (by rw [jl1, j9, dd]; omega)]
  have D2 : ∀ (K : Option (Int32 × SS)) (R : Int32 × SS → Prop), Pc K R → Pc (if a0 < (0 : Int32) then some ((-1), t) else (b1 (some (1 : Int32)) fun r2 => (if r2 = (0 : Int32) then some ((-1), t) else K))) R := fun K R h => Pc_iff (by rw [jlt, jl0]; omega) (Pc_b1S (Pc_if10 h))
  refine Pc_if (fun z => Pc_some (D2 _ _ (Pc_ift z (Pc_some ⟨rfl, Q⟩)))) (fun z => ?_)
  by_cases d : 0 ≤ a1.toInt ∧ a1.toInt ≤ 99
  · rw [in_t (a := a1) (by rw [jl0, j99]; exact d)]
    refine Pc_iff (by rw [jlt, jl0]; omega) (Pc_iff (by rw [jlt, j99]; omega) ?_)
    by_cases g : (zS s 34 3).toInt < 10
    · rw [if_pos (show zS s 34 3 < 10 by rw [jlt, j10]; exact g)]
      refine Pc_bd (Pc_vl (Pc_gd (fun _ => Pc_st (Pc_vl (Pc_gd (fun _ => Pc_st (Pc_vl (Pc_gd (fun _ => Pc_st (Pc_vl (Pc_st (Pc_some (Pc_some (D2 _ _ (Pc_iff z (Pc_b1S (Pc_if10 (Pc_iff ?_ (Pc_vl (Pc_vl (Pc_gd (fun _ => Pc_st (Pc_vl (Pc_vl (Pc_gd (fun _ => Pc_st (Pc_vl (Pc_gd (fun _ => Pc_st (Pc_vl (Pc_st (Pc_some ?_))))))))))))))))))))))))))))))))
      · rw [← e3]
        intro w
        rw [w, j10] at g
        omega
      · have n1 : (zS s 34 3 + 1).toInt = (zS s 34 3).toInt + 1 := by rw [i32_add (by rw [jl1]; omega) (by rw [jl1]; omega), jl1]
        have E3 : zS s 34 3 + 1 = zS t 59 67 + 1 := by rw [e3]
        refine ⟨E3, E3, ?_, fun i h => ?_⟩
        · show 0 ≤ (zS s 34 3 + 1).toInt ∧ (zS s 34 3 + 1).toInt ≤ 10
          omega
        · have h' : (i : Int) < (zS s 34 3 + 1).toInt := h
          have r1 : ∀ v w u : Int32, zI (pI (pI (pI s 35 (zS s 34 3).toInt.toNat v) 36 (zS s 34 3).toInt.toNat w) 37 (zS s 34 3).toInt.toNat u) 35 i = if i = (zS s 34 3).toInt.toNat then v else zI s 35 i := fun v w u => by
            rw [zI_pI, if_neg (by omega), zI_pI, if_neg (by omega), zI_pI]
            by_cases q : i = (zS s 34 3).toInt.toNat
            · rw [if_pos ⟨rfl, q⟩, if_pos q]
            · rw [if_neg (fun k => q k.2), if_neg q]
          have r2 : ∀ v w u : Int32, zI (pI (pI (pI s 35 (zS s 34 3).toInt.toNat v) 36 (zS s 34 3).toInt.toNat w) 37 (zS s 34 3).toInt.toNat u) 36 i = if i = (zS s 34 3).toInt.toNat then w else zI s 36 i := fun v w u => by
            rw [zI_pI, if_neg (by omega), zI_pI]
            by_cases q : i = (zS s 34 3).toInt.toNat
            · rw [if_pos ⟨rfl, q⟩, if_pos q]
            · rw [if_neg (fun k => q k.2), if_neg q, zI_pI, if_neg (by omega)]
          have r3 : ∀ v w u : Int32, zI (pI (pI (pI s 35 (zS s 34 3).toInt.toNat v) 36 (zS s 34 3).toInt.toNat w) 37 (zS s 34 3).toInt.toNat u) 37 i = if i = (zS s 34 3).toInt.toNat then u else zI s 37 i := fun v w u => by
            rw [zI_pI]
            by_cases q : i = (zS s 34 3).toInt.toNat
            · rw [if_pos ⟨rfl, q⟩, if_pos q]
            · rw [if_neg (fun k => q k.2), if_neg q, zI_pI, if_neg (by omega), zI_pI, if_neg (by omega)]
          have m1 : ∀ v w u : Int32, zI (pI (pI (pI t 106 (zS t 59 67).toInt.toNat v) 107 (zS t 59 67).toInt.toNat w) 108 (zS t 59 67).toInt.toNat u) 106 i = if i = (zS t 59 67).toInt.toNat then v else zI t 106 i := fun v w u => by
            rw [zI_pI, if_neg (by omega), zI_pI, if_neg (by omega), zI_pI]
            by_cases q : i = (zS t 59 67).toInt.toNat
            · rw [if_pos ⟨rfl, q⟩, if_pos q]
            · rw [if_neg (fun k => q k.2), if_neg q]
          have m2 : ∀ v w u : Int32, zI (pI (pI (pI t 106 (zS t 59 67).toInt.toNat v) 107 (zS t 59 67).toInt.toNat w) 108 (zS t 59 67).toInt.toNat u) 107 i = if i = (zS t 59 67).toInt.toNat then w else zI t 107 i := fun v w u => by
            rw [zI_pI, if_neg (by omega), zI_pI]
            by_cases q : i = (zS t 59 67).toInt.toNat
            · rw [if_pos ⟨rfl, q⟩, if_pos q]
            · rw [if_neg (fun k => q k.2), if_neg q, zI_pI, if_neg (by omega)]
          have m3 : ∀ v w u : Int32, zI (pI (pI (pI t 106 (zS t 59 67).toInt.toNat v) 107 (zS t 59 67).toInt.toNat w) 108 (zS t 59 67).toInt.toNat u) 108 i = if i = (zS t 59 67).toInt.toNat then u else zI t 108 i := fun v w u => by
            rw [zI_pI]
            by_cases q : i = (zS t 59 67).toInt.toNat
            · rw [if_pos ⟨rfl, q⟩, if_pos q]
            · rw [if_neg (fun k => q k.2), if_neg q, zI_pI, if_neg (by omega), zI_pI, if_neg (by omega)]
          have G1 := r1 (a0 / 100) (a0 % 100) a1
          have G2 := r2 (a0 / 100) (a0 % 100) a1
          have G3 := r3 (a0 / 100) (a0 % 100) a1
          have H1 := m1 (a0 / 100) (a0 % 100) a1
          have H2 := m2 (a0 / 100) (a0 % 100) a1
          have H3 := m3 (a0 / 100) (a0 % 100) a1
          rw [← e3] at H1 H2 H3
          show (zI (pI (pI (pI s 35 (zS s 34 3).toInt.toNat (a0 / 100)) 36 (zS s 34 3).toInt.toNat (a0 % 100)) 37 (zS s 34 3).toInt.toNat a1) 35 i = zI (pI (pI (pI t 106 (zS t 59 67).toInt.toNat (a0 / 100)) 107 (zS t 59 67).toInt.toNat (a0 % 100)) 108 (zS t 59 67).toInt.toNat a1) 106 i ∧ zI (pI (pI (pI s 35 (zS s 34 3).toInt.toNat (a0 / 100)) 36 (zS s 34 3).toInt.toNat (a0 % 100)) 37 (zS s 34 3).toInt.toNat a1) 36 i = zI (pI (pI (pI t 106 (zS t 59 67).toInt.toNat (a0 / 100)) 107 (zS t 59 67).toInt.toNat (a0 % 100)) 108 (zS t 59 67).toInt.toNat a1) 107 i ∧ zI (pI (pI (pI s 35 (zS s 34 3).toInt.toNat (a0 / 100)) 36 (zS s 34 3).toInt.toNat (a0 % 100)) 37 (zS s 34 3).toInt.toNat a1) 37 i = zI (pI (pI (pI t 106 (zS t 59 67).toInt.toNat (a0 / 100)) 107 (zS t 59 67).toInt.toNat (a0 % 100)) 108 (zS t 59 67).toInt.toNat a1) 108 i) ∧ (0 ≤ (zI (pI (pI (pI s 35 (zS s 34 3).toInt.toNat (a0 / 100)) 36 (zS s 34 3).toInt.toNat (a0 % 100)) 37 (zS s 34 3).toInt.toNat a1) 35 i).toInt ∧ (zI (pI (pI (pI s 35 (zS s 34 3).toInt.toNat (a0 / 100)) 36 (zS s 34 3).toInt.toNat (a0 % 100)) 37 (zS s 34 3).toInt.toNat a1) 35 i).toInt ≤ 9) ∧ (0 ≤ (zI (pI (pI (pI s 35 (zS s 34 3).toInt.toNat (a0 / 100)) 36 (zS s 34 3).toInt.toNat (a0 % 100)) 37 (zS s 34 3).toInt.toNat a1) 36 i).toInt ∧ (zI (pI (pI (pI s 35 (zS s 34 3).toInt.toNat (a0 / 100)) 36 (zS s 34 3).toInt.toNat (a0 % 100)) 37 (zS s 34 3).toInt.toNat a1) 36 i).toInt ≤ 99) ∧ (0 ≤ (zI (pI (pI (pI s 35 (zS s 34 3).toInt.toNat (a0 / 100)) 36 (zS s 34 3).toInt.toNat (a0 % 100)) 37 (zS s 34 3).toInt.toNat a1) 37 i).toInt ∧ (zI (pI (pI (pI s 35 (zS s 34 3).toInt.toNat (a0 / 100)) 36 (zS s 34 3).toInt.toNat (a0 % 100)) 37 (zS s 34 3).toInt.toNat a1) 37 i).toInt ≤ 99)
          rw [← e3, G1, G2, G3, H1, H2, H3]
          by_cases q : i = (zS s 34 3).toInt.toNat
          · rw [if_pos q, if_pos q, if_pos q, if_pos q, if_pos q, if_pos q, dd, mm]
            exact ⟨⟨rfl, rfl, rfl⟩, by omega, by omega, d⟩
          · rw [if_neg q, if_neg q, if_neg q, if_neg q, if_neg q, if_neg q]
            exact al i (by omega)
    · rw [if_neg (show ¬ zS s 34 3 < 10 by rw [jlt, j10]; exact g)]
      refine Pc_bdS (Pc_some (D2 _ _ (Pc_iff z (Pc_b1S (Pc_if10 (Pc_ift ?_ (Pc_some ⟨rfl, Q⟩)))))))
      rw [← e3]
      exact Int32.toInt_inj.1 (by rw [j10]; omega)
  · rw [in_f (a := a1) (by rw [jl0, j99]; exact d)]
    refine Pc_lt (fun _ => Pc_some (D2 _ _ (Pc_iff z (Pc_b1S (Pc_if00 (Pc_some ⟨rfl, Q⟩)))))) (fun l => Pc_lt (fun _ => Pc_some (D2 _ _ (Pc_iff z (Pc_b1S (Pc_if00 (Pc_some ⟨rfl, Q⟩)))))) (fun w => ?_))
    rw [jl0] at l
    rw [j99] at w
    exact absurd ⟨l, w⟩ d
def OEnd (a : Int32 × SS) (K : Option (Int32 × SS)) : Prop := Pc K (fun m => a.1 = m.1 ∧ QNed a.2 m.2 ∧ QOrd a.2 m.2)
theorem OEnd_cl : PCg OEnd := ⟨fun _ => Pc_none, fun _ _ _ h hK => h _ hK⟩
theorem L_order (h0 : zI t 109 0 = 0) (Q : QNed s t) (Qo : QOrd s t) : Pc (f_X11_order s) fun x => Pc (f_X12_order t) fun m => x.1 = m.1 ∧ QNed x.2 m.2 ∧ QOrd x.2 m.2 := by
  obtain ⟨e3, h3, al⟩ := id Q
  unfold f_X11_order f_X12_order
  rw [← e3]
  refine Pc_if (fun z => Pc_some (Pc_ift z (Pc_some ⟨rfl, Q, Qo⟩))) (fun z => Pc_bd ?_)
  obtain ⟨N, hN⟩ : ∃ N : Nat, (zS s 34 3).toInt = (N : Int) := ⟨_, (Int.toNat_of_nonneg h3.1).symm⟩
  have eN : zS s 34 3 = nI N := Int32.toInt_inj.1 (by rw [nI_t (by omega)]; exact hN)
  have N1 : 1 ≤ N := by
    cases N with
    | zero => exact absurd eN z
    | succ n => omega
  have N10 : N ≤ 10 := by omega
  have h10 := p10 N10
  have hp1 : 2 ^ 1 ≤ 2 ^ N := Nat.pow_le_pow_right (n := 2) (by decide) N1
  have B : OB s t N := ⟨⟨N1, N10⟩, eN, e3.symm.trans eN, fun i hi => (al i (by omega)).1, fun i hi => (al i (by omega)).2⟩
  suffices h : Pc (f_X6_leastLateness s) (fun a => OEnd a (f_X12_order_L11 (fun (s20 : SS) => (vl ((((1 : Int32) <<< ((zS s20 59 67) &&& 31)) - (1 : Int32))) fun v21 => (gd (inB v21 1024) (vl ((zI s20 109 (v21.toInt.toNat))) fun v23 => (f_X12_order_L118 (fun (s38 : SS) => (vl ((zS s38 59 67)) fun v39 => (st (pS s38 59 72 v39) fun s40 => (st (pS s40 59 67 0) fun s41 => some (v23, s41))))) v23 4000 s20 v21 0))))) 4000 t 1)) from
    Pc.mono h (fun a ha => Pc_some (Pc_iff z ha))
  unfold f_X6_leastLateness
  rw [eN, sh1n N (by omega), nIm (k := 2 ^ N) (by omega) (by omega)]
  refine Pc_vl (Pc_st ?_)
  refine sum_k (s0 := s) N10 eN (fun s15 F A => Pc_gd (fun _ => Pc_st (Pc_vl ?_))) 4000 _ 0 (Nat.zero_le _) (Frm.rf.pI rfl) (fun S hS => ?_)
  · rw [nI_n (k := 2 ^ N - 1) (by omega)]
    refine ord_s (s0 := s) (t0 := t) (N := N) (P := OEnd) OEnd_cl B (fun s30 t20 O => ?_) 4000 4000 (pI s15 38 (2 ^ N - 1) 0) t 1 _ (by omega) (by omega) ?_ ⟨F.pI rfl, Frm.rf, A, fun S h1 h2 => ?_⟩
    · -- the places
      have o0 := (O.2.2.2 0 (by omega) (by omega)).1
      have c0 : cpl N 0 = 2 ^ N - 1 := by unfold cpl; omega
      rw [show zS t20 59 67 = nI N from (O.2.1.1 59 67 rfl).trans B.2.2.1, sh1n N (by omega), nIm (k := 2 ^ N) (by omega) (by omega)]
      have md : ∀ (a : Int32 × SS), OEnd a (f_X12_order_L118 (fun (s38 : SS) => (vl ((zS s38 59 67)) fun v39 => (st (pS s38 59 72 v39) fun s40 => (st (pS s40 59 67 0) fun s41 => some (zI s30 38 0, s41))))) (zI s30 38 0) 4000 t20 (nI (cpl N 0)) (nI 0)) → OEnd a (vl (nI (2 ^ N - 1)) fun v21 => (gd (inB v21 1024) (vl ((zI t20 109 (v21.toInt.toNat))) fun v23 => (f_X12_order_L118 (fun (s38 : SS) => (vl ((zS s38 59 67)) fun v39 => (st (pS s38 59 72 v39) fun s40 => (st (pS s40 59 67 0) fun s41 => some (v23, s41))))) v23 4000 t20 v21 0)))) := fun a ha => OEnd_cl.2 a _ _ (fun R h => Pc_vl (Pc_gd (fun _ => Pc_vl (by
        rw [nI_n (k := 2 ^ N - 1) (by omega), ← c0, ← o0]
        exact h)))) ha
      refine Pc.mono ?_ md
      unfold f_X6_placesFollow
      refine Pc_b1 ?_
      refine Pc.mono (ord_p (s0 := s) (t0 := t) (N := N) (y2 := zI s30 38 0) (qM := fun (s38 : SS) => (vl ((zS s38 59 67)) fun v39 => (st (pS s38 59 72 v39) fun s40 => (st (pS s40 59 67 0) fun s41 => some (zI s30 38 0, s41))))) (P := fun u K => OEnd (zI (pS u 34 3 0) 38 0, pS u 34 3 0) K) ⟨fun _ => OEnd_cl.1 _, fun _ => OEnd_cl.2 _⟩ B (fun s' t' O' E e0 => Pc_vl (Pc_st (Pc_some (Q := fun u => OEnd (zI (pS u 34 3 0) 38 0, pS u 34 3 0) (vl ((zS t' 59 67)) fun v39 => (st (pS t' 59 72 v39) fun s40 => (st (pS s40 59 67 0) fun s41 => some (zI s30 38 0, s41))))) (Pc_vl (Pc_st (Pc_st (Pc_some ?_))))))) 4000 4000 s30 t20 0 0 (Nat.zero_le _) (by omega) (by rw [c0, pc_full N (by omega)]; rfl) O (fun j hj => absurd hj (Nat.not_lt_zero j)) rfl) (fun u hu => Pc_st (Pc_some hu))
      have f3 : zS s' 34 3 = nI N := (O'.1.1 34 3 rfl).trans eN
      have f67 : zS t' 59 67 = nI N := (O'.2.1.1 59 67 rfl).trans B.2.2.1
      have tN : (nI N).toInt = (N : Int) := nI_t (by omega)
      refine ⟨e0, ⟨rfl, ⟨by show (0 : Int) ≤ (0 : Int32).toInt; rw [jl0]; omega, by show (0 : Int32).toInt ≤ (10 : Int); rw [jl0]; omega⟩, fun i h => ?_⟩, Or.inr ⟨?_, ?_, fun i h => ?_⟩⟩
      · exfalso
        have h' : (i : Int) < (0 : Int32).toInt := h
        rw [jl0] at h'
        omega
      · show zS s' 34 3 = zS t' 59 67
        rw [f3, f67]
      · show 0 ≤ (zS s' 34 3).toInt ∧ (zS s' 34 3).toInt ≤ 10
        rw [f3]
        omega
      · have h' : (i : Int) < (zS s' 34 3).toInt := h
        rw [f3] at h'
        exact E i (by omega)
    · rw [nIm (by omega) (by omega), nI_t (by omega)]
      omega
    · have e : S = 2 ^ N - 1 := by omega
      have ce : cpl N S = 0 := by unfold cpl; omega
      have e38 : zI (pI s15 38 (2 ^ N - 1) 0) 38 S = 0 := by rw [zI_pI, if_pos ⟨rfl, e⟩]
      refine ⟨by rw [e38, ce, h0], by rw [e38, ce, jl0]; omega, fun h => ?_⟩
      exfalso
      omega
  · have e : S = 0 := by
      rw [Nat.pow_zero] at hS
      omega
    rw [e]
    rfl
end ORs
