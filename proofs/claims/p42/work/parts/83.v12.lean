/-! WATCHES -/
section WTs
variable {s t s0 t0 : SS}
def QWat (s t : SS) : Prop := (zS s 6 7 = 0 ∧ zS t 59 74 = -1) ∨ ((1 ≤ (zS s 6 7).toInt ∧ (zS s 6 7).toInt ≤ 3) ∧ zS s 6 7 = zS t 59 74 ∧ ∀ i, i < 9 → zI s 12 i = zI t 111 i)
def WLk (s0 t0 s t : SS) (f : Int) : Prop := Frm [(6, 7)] [12] [] s0 s ∧ Frm [] [111] [] t0 t ∧ (∀ i : Nat, i < 9 → (i : Int) < f → zI s 12 i = zI t 111 i) ∧ ∀ i : Nat, i < 9 → f ≤ (i : Int) → zI s 12 i = -2
/-- all places are watched: the reference looks on, and takes nobody -/
theorem wat_t {q0 : SS → Int32 → Option (Int32 × SS)} {y1 y2 x3 : Int32} {R : Int32 × SS → Prop} (hq : Pc (q0 t x3) R) (h3 : x3 = 3 * y1) : ∀ (m : Nat) (x4 x5 : Int32), Pc (f_X12_watch_L29 q0 y1 y2 m t x3 x4 x5) R
  | 0, _, _ => Pc_none
  | m + 1, x4, x5 => by
    have ih := wat_t (q0 := q0) (y1 := y1) (y2 := y2) (R := R) hq h3 m
    show Pc (f_X12_watch_L29_b q0 y1 y2 (f_X12_watch_L29 q0 y1 y2 m) t x3 x4 x5) R
    unfold f_X12_watch_L29_b
    exact Pc_if (fun _ => Pc_if (fun _ => Pc_gd (fun _ => Pc_jn (Pc_if (fun _ => Pc_vl (ih _ _)) (fun _ => Pc_vl (Pc_gd (fun _ => Pc_if (fun _ => Pc_vl (ih _ _)) (fun _ => Pc_ift h3 (Pc_vl (ih _ _))))))))) (fun _ => hq)) (fun _ => hq)
/-- behind the last body the class finds nobody -/
theorem wat_x {y1 y2 x3 x4 : Int32} (M : ∀ i : Nat, i < 120 → (zS s0 15 3).toInt ≤ i → ¬ zI s 10 i = 1) : ∀ (n : Nat) (x5 : Int32), 0 ≤ x5.toInt → (zS s0 15 3).toInt ≤ x5.toInt → Pc (f_X2_watchesMade_L22 y1 y2 n s x3 x4 x5) (fun a => a = (x4, s))
  | 0, _, _, _ => Pc_none
  | n + 1, x5, h0, h1 => by
    have j120 : (120 : Int32).toInt = 120 := rfl
    show Pc (f_X2_watchesMade_L22_b y1 y2 (f_X2_watchesMade_L22 y1 y2 n) s x3 x4 x5) _
    unfold f_X2_watchesMade_L22_b
    refine Pc_lt (fun c => Pc_if (fun _ => Pc_if (fun _ => Pc_gd (fun _ => Pc_jn (Pc_iff (M _ ?_ ?_) (Pc_vl ?_)))) (fun _ => Pc_some rfl)) (fun _ => Pc_some rfl)) (fun _ => Pc_some rfl)
    · rw [j120] at c; omega
    · omega
    · rw [j120] at c
      have n1 : (x5 + 1).toInt = x5.toInt + 1 := by rw [i32_add (by rw [jl1]; omega) (by rw [jl1]; omega), jl1]
      exact wat_x M n (x5 + 1) (by omega) (by omega)
theorem wat_l {q0 : SS → Int32 → Option (Int32 × SS)} {y1 y2 : Int32} (hy : 1 ≤ y1.toInt ∧ y1.toInt ≤ 3) (B : B1 s0 t0) (M : QMen s0 t0) : ∀ (n m : Nat) (s t : SS) (x3 x4 x5 : Int32), WLk s0 t0 s t x4.toInt → 0 ≤ x5.toInt → 0 ≤ x3.toInt → 0 ≤ x4.toInt → x4.toInt ≤ 3 * y1.toInt → Pc (f_X2_watchesMade_L22 y1 y2 n s x3 x4 x5) (fun a => ∀ R : Int32 × SS → Prop, (∀ u f, WLk s0 t0 a.2 u f.toInt → 0 ≤ f.toInt → f.toInt ≤ 9 → a.1 = f → Pc (q0 u f) R) → Pc (f_X12_watch_L29 q0 y1 y2 m t x4 x3 x5) R)
  | 0, _, _, _, _, _, _, _, _, _, _, _ => Pc_none
  | n + 1, 0, _, _, _, _, _, _, _, _, _, _ => fun _ _ _ _ => Pc_none
  | n + 1, m + 1, s, t, x3, x4, x5, L, h5, h3, h4, h43 => by
    have j120 : (120 : Int32).toInt = 120 := rfl
    have j9 : (9 : Int32).toInt = 9 := rfl
    have j3 : (3 : Int32).toInt = 3 := rfl
    obtain ⟨b1, b2, b3⟩ := B.1.tot
    obtain ⟨F, F', l1, l2⟩ := id L
    have m3 : ((3 : Int32) * y1).toInt = 3 * y1.toInt := by rw [i32_mul (by rw [j3]; omega) (by rw [j3]; omega), j3]
    have e4 : zS t 59 4 = zS s0 15 3 := (F'.1 59 4 rfl).trans b1.symm
    have e10 : ∀ i, zI s 10 i = zI s0 10 i := fun i => F.2.1 10 i rfl
    by_cases tot : x5.toInt < (zS s0 15 3).toInt
    · have hx : x5.toInt.toNat < 120 := by omega
      have n1 : (x5 + 1).toInt = x5.toInt + 1 := by rw [i32_add (by rw [jl1]; omega) (by rw [jl1]; omega), jl1]
      obtain ⟨w1, w2, w3, w4, w5⟩ := M.1 _ hx
      have e77 : zI t 77 x5.toInt.toNat = zI s0 10 x5.toInt.toNat := (F'.2.1 77 _ rfl).trans w3.symm
      have e9 : zI s 9 x5.toInt.toNat = zI t 76 x5.toInt.toNat := (F.2.1 9 _ rfl).trans ((B.1.2.2.1 _).trans (F'.2.1 76 _ rfl).symm)
      show Pc (f_X2_watchesMade_L22_b y1 y2 (f_X2_watchesMade_L22 y1 y2 n) s x3 x4 x5) _
      unfold f_X2_watchesMade_L22_b
      refine Pc_ift (by rw [jlt, j120]; omega) (Pc_lt (fun c9 => Pc_lt (fun cf => Pc_gd (fun _ => Pc_jn ?_)) (fun cf => Pc_some (fun R hk => ?_))) (fun c9 => Pc_some (fun R hk => ?_)))
      · rw [j9] at c9
        rw [m3] at cf
        have n3 : (x3 + 1).toInt = x3.toInt + 1 := by rw [i32_add (by rw [jl1]; omega) (by rw [jl1]; omega), jl1]
        -- the reference, one body
        have hd : ∀ (K : Option (Int32 × SS)) (R : Int32 × SS → Prop), Pc K R → Pc (if x5 < zS t 59 4 then (if x3 < (9 : Int32) then K else q0 t x4) else q0 t x4) R := fun K R k => Pc_ift (by rw [e4, jlt]; exact tot) (Pc_ift (by rw [jlt, j9]; exact c9) k)
        rw [e10]
        refine Pc_if (fun z => Pc_vl (Pc_gd (fun _ => ?_))) (fun z => Pc_vl (Pc.mono (wat_l (q0 := q0) (y2 := y2) hy B M n m s t x3 x4 (x5 + 1) L (by omega) h3 h4 h43) (fun a ha R hk => ?_)))
        · rw [e9]
          refine Pc_if (fun il => Pc_vl (Pc.mono (wat_l (q0 := q0) (y2 := y2) hy B M n m s t (x3 + 1) x4 (x5 + 1) L (by omega) (by omega) h4 h43) (fun a ha R hk => ?_))) (fun il => Pc_gd (fun g4 => Pc_st (Pc_vl (Pc_vl ?_))))
          · show Pc (f_X12_watch_L29_b q0 y1 y2 (f_X12_watch_L29 q0 y1 y2 m) t x4 x3 x5) R
            unfold f_X12_watch_L29_b
            exact hd _ _ (Pc_gd (fun _ => Pc_jn (Pc_iff (by rw [e77, z]; decide) (Pc_vl (Pc_gd (fun _ => Pc_ift il (Pc_vl (ha R hk))))))))
          · have n4 : (x4 + 1).toInt = x4.toInt + 1 := by rw [i32_add (by rw [jl1]; omega) (by rw [jl1]; omega), jl1]
            have L' : WLk s0 t0 (pI s 12 x4.toInt.toNat x5) (pI t 111 x4.toInt.toNat x5) (x4 + 1).toInt := by
              refine ⟨F.pI rfl, F'.pI rfl, fun i hi h => ?_, fun i hi h => ?_⟩
              · rw [zI_pI, zI_pI]
                by_cases q : i = x4.toInt.toNat
                · rw [if_pos ⟨rfl, q⟩, if_pos ⟨rfl, q⟩]
                · rw [if_neg (fun w => q w.2), if_neg (fun w => q w.2)]
                  exact l1 i hi (by omega)
              · rw [zI_pI, if_neg (by omega)]
                exact l2 i hi (by omega)
            refine Pc.mono (wat_l (q0 := q0) (y2 := y2) hy B M n m _ _ (x3 + 1) (x4 + 1) (x5 + 1) L' (by omega) (by omega) (by omega) (by omega)) (fun a ha R hk => ?_)
            show Pc (f_X12_watch_L29_b q0 y1 y2 (f_X12_watch_L29 q0 y1 y2 m) t x4 x3 x5) R
            unfold f_X12_watch_L29_b
            refine hd _ _ (Pc_gd (fun _ => Pc_jn (Pc_iff (by rw [e77, z]; decide) (Pc_vl (Pc_gd (fun _ => Pc_iff il (Pc_iff (fun q => ?_) (Pc_gd (fun _ => Pc_st (Pc_vl (Pc_vl (ha R hk))))))))))))
            rw [q, m3] at cf
            omega
        · show Pc (f_X12_watch_L29_b q0 y1 y2 (f_X12_watch_L29 q0 y1 y2 m) t x4 x3 x5) R
          unfold f_X12_watch_L29_b
          have z0 : zI t 77 x5.toInt.toNat = 0 := by
            rw [e77]
            rcases w4 with q | q
            · rw [← e10]; rw [e10]; exact q
            · exact absurd q z
          exact hd _ _ (Pc_gd (fun _ => Pc_jn (Pc_ift z0 (Pc_vl (ha R hk)))))
      · rw [m3] at cf
        exact wat_t (hk t x4 L h4 (by omega) rfl) (Int32.toInt_inj.1 (by rw [m3]; omega)) (m + 1) x3 x5
      · rw [j9] at c9
        show Pc (f_X12_watch_L29_b q0 y1 y2 (f_X12_watch_L29 q0 y1 y2 m) t x4 x3 x5) R
        unfold f_X12_watch_L29_b
        exact Pc_if (fun _ => Pc_iff (by rw [jlt, j9]; omega) (hk t x4 L h4 (by omega) rfl)) (fun _ => hk t x4 L h4 (by omega) rfl)
    · refine Pc.mono (wat_x (s0 := s0) (s := s) (fun i hi h w => ?_) (n + 1) x5 h5 (by omega)) (fun a ha R hk => ?_)
      · rw [e10] at w
        have := ((M.1 i hi).2.2.2.2 w).1
        omega
      · rw [ha] at hk
        show Pc (f_X12_watch_L29_b q0 y1 y2 (f_X12_watch_L29 q0 y1 y2 m) t x4 x3 x5) R
        unfold f_X12_watch_L29_b
        rw [e4]
        exact Pc_iff (by rw [jlt]; exact tot) (hk t x4 L h4 (by omega) rfl)
/-- nobody for the rest -/
theorem wat_f {y1 y3 : Int32} {t1 : SS} {q0 : SS → Option (Int32 × SS)} {R : Int32 × SS → Prop} {f : Int} (hq : ∀ u, Frm [] [111] [] t1 u → (∀ i : Nat, (i : Int) < f → zI u 111 i = zI t1 111 i) → (∀ i : Nat, i < 9 → f ≤ (i : Int) → zI u 111 i = -2) → Pc (q0 u) R) : ∀ (m : Nat) (t : SS) (x : Int32), 0 ≤ x.toInt → f ≤ x.toInt → Frm [] [111] [] t1 t → (∀ i : Nat, (i : Int) < f → zI t 111 i = zI t1 111 i) → (∀ i : Nat, i < 9 → f ≤ (i : Int) → (i : Int) < x.toInt → zI t 111 i = -2) → Pc (f_X12_watch_L102 q0 y1 y3 m t x) R
  | 0, _, _, _, _, _, _, _ => Pc_none
  | m + 1, t, x, h0, hf, F, a1, a2 => by
    have j9 : (9 : Int32).toInt = 9 := rfl
    show Pc (f_X12_watch_L102_b q0 y1 y3 (f_X12_watch_L102 q0 y1 y3 m) t x) R
    unfold f_X12_watch_L102_b
    refine Pc_lt (fun c => Pc_gd (fun _ => Pc_st (Pc_vl ?_))) (fun c => hq t F a1 (fun i hi h => a2 i hi h (by rw [j9] at c; omega)))
    rw [j9] at c
    have n1 : (x + 1).toInt = x.toInt + 1 := by rw [i32_add (by rw [jl1]; omega) (by rw [jl1]; omega), jl1]
    refine wat_f hq m _ (x + 1) (by omega) (by omega) (F.pI rfl) (fun i h => ?_) (fun i hi h1 h2 => ?_)
    · rw [zI_pI, if_neg (by omega)]; exact a1 i h
    · rw [zI_pI]
      by_cases z : 111 = 111 ∧ i = x.toInt.toNat
      · rw [if_pos z]
      · rw [if_neg z]
        exact a2 i hi h1 (by omega)
theorem L_watch (B : B1 s t) (M : QMen s t) (W : QWat s t) (a0 a1 : Int32) : Pc (f_X11_watch s a0 a1) fun x => Pc (f_X12_watch t a0 a1) fun m => x.1 = m.1 ∧ QWat x.2 m.2 := by
  have j3 : (3 : Int32).toInt = 3 := rfl
  have j9 : (9 : Int32).toInt = 9 := rfl
  unfold f_X11_watch f_X12_watch
  by_cases c : 1 ≤ a0.toInt ∧ a0.toInt ≤ 3
  · rw [in_t (a := a0) (by rw [jl1, j3]; exact c)]
    refine Pc_iff (by rw [jlt, jl1]; omega) (Pc_iff (by rw [jlt, j3]; omega) ?_)
    by_cases d : 0 ≤ a1.toInt ∧ a1.toInt ≤ 9
    · rw [in_t (a := a1) (by rw [jl0, j9]; exact d)]
      refine Pc_iff (by rw [jlt, jl0]; omega) (Pc_iff (by rw [jlt, j9]; omega) (Pc_bd ?_))
      unfold f_X2_watchesMade
      refine Pc_st (Pc_st ?_)
      have F0 : Frm [(6, 7)] [12] [] s (pF (pS s 6 7 a0) 12 (-2)) := (Frm.rf.pS rfl).pF rfl
      have e67 : zS (pF (pS s 6 7 a0) 12 (-2)) 6 7 = a0 := rfl
      have L0 : WLk s t (pF (pS s 6 7 a0) 12 (-2)) t (0 : Int32).toInt := ⟨F0, Frm.rf, fun i _ h => by rw [jl0] at h; omega, fun i _ _ => by rw [zI_pF, if_pos rfl]⟩
      generalize pF (pS s 6 7 a0) 12 (-2) = s2 at F0 e67 L0 ⊢
      -- the class keeps how many places
      intro a ea
      have K7 : Frm [] [12] [] s2 a.2 := v_X2_watchesMade_L22 (WS := []) (WI := [12]) (WJ := []) (b := s2) (Q := fun x => Frm [] [12] [] s2 x.2) (F0.Sh_ B.1.sh) rfl (fun _ _ h => h) 4000 s2 0 0 0 Frm.rf _ ea
      have h7 : zS a.2 6 7 = a0 := (K7.1 6 7 rfl).trans e67
      refine Pc_some (Pc_b1S (Pc_if10 (Pc_b1S (Pc_if10 ?_))))
      refine wat_l (q0 := fun (s19 : SS) (x19_3 : Int32) => (f_X12_watch_L102 (fun (s24 : SS)  => (st (pS s24 59 74 a0) fun s25 => some (x19_3, s25))) a0 x19_3 4000 s19 x19_3)) (y2 := a1) c B M 4000 4000 s2 t 0 0 0 L0 (by decide) (by decide) (by decide) (by rw [jl0]; omega) a ea _ (fun u f Lu f0 f9 ef => ?_)
      obtain ⟨_, Fu, l1, l2⟩ := Lu
      refine wat_f (t1 := u) (f := f.toInt) (fun v Fv v1 v2 => Pc_st (Pc_some ⟨ef, Or.inr ⟨by rw [h7]; exact c, ?_, fun i hi => ?_⟩⟩)) 4000 u f f0 (Int.le_refl _) Frm.rf (fun _ _ => rfl) (fun i _ h1 h2 => by omega)
      · show zS a.2 6 7 = zS (pS v 59 74 a0) 59 74
        rw [h7, zS_pS, if_pos ⟨rfl, rfl⟩]
      · show zI a.2 12 i = zI v 111 i
        by_cases z : (i : Int) < f.toInt
        · rw [v1 i z]; exact l1 i hi z
        · rw [v2 i hi (by omega)]; exact l2 i hi (by omega)
    · rw [in_f (a := a1) (by rw [jl0, j9]; exact d)]
      refine Pc_lt (fun _ => Pc_some (Pc_b1S (Pc_if10 (Pc_b1S (Pc_if00 (Pc_some ⟨rfl, W⟩)))))) (fun z => Pc_lt (fun _ => Pc_some (Pc_b1S (Pc_if10 (Pc_b1S (Pc_if00 (Pc_some ⟨rfl, W⟩)))))) (fun w => ?_))
      rw [jl0] at z
      rw [j9] at w
      exact absurd ⟨z, w⟩ d
  · rw [in_f (a := a0) (by rw [jl1, j3]; exact c)]
    refine Pc_lt (fun _ => Pc_some (Pc_b1S (Pc_if00 (Pc_some ⟨rfl, W⟩)))) (fun z => Pc_lt (fun _ => Pc_some (Pc_b1S (Pc_if00 (Pc_some ⟨rfl, W⟩)))) (fun w => ?_))
    rw [jl1] at z
    rw [j3] at w
    exact absurd ⟨z, w⟩ c
theorem V_watched (W : QWat s t) (a0 a1 : Int32) : Pc (f_X11_watched s a0 a1) fun x => Pc (f_X12_watched t a0 a1) fun m => x = m := by
  have j2 : (2 : Int32).toInt = 2 := rfl
  unfold f_X11_watched f_X12_watched
  by_cases c : 0 ≤ a0.toInt ∧ a0.toInt ≤ 2
  · rw [in_t (a := a0) (by rw [jl0, j2]; exact c)]
    refine Pc_iff (by rw [jlt, jl0]; omega) (Pc_iff (by rw [jlt, j2]; omega) ?_)
    have M0 : ∀ K : Option Int32, ¬ ((0 : Int32).toInt ≤ a1.toInt ∧ a1.toInt ≤ (zS t 59 74 - 1).toInt) → Pc (b1 (some (1 : Int32)) fun r1 => if r1 = 0 then some (-1) else b1 (f_X12_in a1 0 (zS t 59 74 - 1)) fun r3 => if r3 = 0 then some (-1) else K) (fun m => (-1 : Int32) = m) := fun K h => by
      rw [in_f h]
      exact Pc_b1S (Pc_if10 (Pc_b1S (Pc_if00 (Pc_some rfl))))
    rcases W with ⟨w1, w2⟩ | ⟨w1, w2, w3⟩
    · have e : (zS t 59 74 - 1).toInt = -2 := by rw [w2]; rfl
      refine Pc_lt (fun z => Pc_some (M0 _ (by rw [jl0] at z ⊢; omega))) (fun z => Pc_lt (fun w => ?_) (fun w => Pc_some (M0 _ (by rw [e, jl0]; omega))))
      rw [w1, jl0] at w
      rw [jl0] at z
      omega
    · have e : (zS t 59 74 - 1).toInt = (zS s 6 7).toInt - 1 := by rw [← w2, i32_sub (by rw [jl1]; omega) (by rw [jl1]; omega), jl1]
      refine Pc_lt (fun z => Pc_some (M0 _ (by rw [jl0] at z ⊢; omega))) (fun z => Pc_lt (fun w => ?_) (fun w => Pc_some (M0 _ (by rw [e]; omega))))
      rw [jl0] at z
      rw [in_t (a := a1) (by rw [jl0, e]; omega), ← w2]
      refine Pc_vl (Pc_gd (fun g => Pc_some (Pc_b1S (Pc_if10 (Pc_b1S (Pc_if10 (Pc_vl (Pc_gd (fun g2 => Pc_some ?_)))))))))
      rw [Int32.mul_comm (zS s 6 7) a0]
      exact w3 _ (by have := g.1; have := g.2; omega)
  · rw [in_f (a := a0) (by rw [jl0, j2]; exact c)]
    refine Pc_lt (fun _ => Pc_some (Pc_b1S (Pc_if00 (Pc_some rfl)))) (fun z => Pc_lt (fun _ => Pc_some (Pc_b1S (Pc_if00 (Pc_some rfl)))) (fun w => ?_))
    rw [jl0] at z
    rw [j2] at w
    exact absurd ⟨z, w⟩ c
end WTs
/-! AIMS -/
theorem mul32 {a b : Int32} {A B : Int} (ha : 0 ≤ a.toInt ∧ a.toInt ≤ A) (hb : 0 ≤ b.toInt ∧ b.toInt ≤ B) (h : A * B < 2147483648) : (a * b).toInt = a.toInt * b.toInt ∧ 0 ≤ (a * b).toInt ∧ (a * b).toInt ≤ A * B := by
  have h1 : 0 ≤ a.toInt * b.toInt := Int.mul_nonneg ha.1 hb.1
  have h2 : a.toInt * b.toInt ≤ A * B := Int.mul_le_mul ha.2 hb.2 hb.1 (Int.le_trans ha.1 ha.2)
  have e : (a * b).toInt = a.toInt * b.toInt := i32_mul (by omega) (by omega)
  rw [e]
  exact ⟨rfl, h1, h2⟩
section AMs
variable {s t s0 t0 : SS}
/-- the hardest of the first rows, for a place -/
def hmx (t : SS) (p : Nat) : Nat → Int
  | 0 => 1
  | k + 1 => if hmx t p k < (zI t 113 (6 * k + p)).toInt then (zI t 113 (6 * k + p)).toInt else hmx t p k
def QRk (t : SS) : Prop := (∀ j, 1 ≤ (zI t 113 j).toInt ∧ (zI t 113 j).toInt ≤ 9) ∧ ∀ i, 0 ≤ (zI t 112 i).toInt ∧ (zI t 112 i).toInt ≤ 9
theorem hmx_b (R : QRk t) (p : Nat) : ∀ k, 1 ≤ hmx t p k ∧ hmx t p k ≤ 9
  | 0 => ⟨by show (1 : Int) ≤ 1; omega, by show (1 : Int) ≤ 9; omega⟩
  | k + 1 => by
    have a := hmx_b R p k
    have b := R.1 (6 * k + p)
    show 1 ≤ (if hmx t p k < (zI t 113 (6 * k + p)).toInt then (zI t 113 (6 * k + p)).toInt else hmx t p k) ∧ (if hmx t p k < (zI t 113 (6 * k + p)).toInt then (zI t 113 (6 * k + p)).toInt else hmx t p k) ≤ 9
    split <;> omega
/-- minutes of a place and a machine -/
def mnA (t : SS) (y : Int) (r p m : Nat) : Int := ((zI t 112 p).toInt + 1) * y * (zI t 78 m).toInt * hmx t p r
theorem mnA_b (R : QRk t) (h78 : ∀ m, m < 3 → 0 ≤ (zI t 78 m).toInt ∧ (zI t 78 m).toInt ≤ 60) {y : Int} {r p m : Nat} (hm : m < 3) (hy : 1 ≤ y ∧ y ≤ 60) : 0 ≤ mnA t y r p m ∧ mnA t y r p m ≤ 324000 := by
  have a := R.2 p
  have b := hmx_b R p r
  have d := h78 m hm
  unfold mnA
  have e1 : 0 ≤ ((zI t 112 p).toInt + 1) * y ∧ ((zI t 112 p).toInt + 1) * y ≤ 10 * 60 := ⟨Int.mul_nonneg (by omega) (by omega), Int.mul_le_mul (by omega) hy.2 (by omega) (by omega)⟩
  have e2 : 0 ≤ ((zI t 112 p).toInt + 1) * y * (zI t 78 m).toInt ∧ ((zI t 112 p).toInt + 1) * y * (zI t 78 m).toInt ≤ 600 * 60 := ⟨Int.mul_nonneg e1.1 d.1, Int.mul_le_mul e1.2 d.2 d.1 (by omega)⟩
  exact ⟨Int.mul_nonneg e2.1 (by omega), Int.le_trans (Int.mul_le_mul e2.2 b.2 (by omega) (by omega)) (by omega)⟩
theorem mxY {Y h r : Int} (hY : 0 ≤ Y) : (if Y * h < Y * r then Y * r else Y * h) = Y * (if h < r then r else h) := by
  by_cases c : h < r
  · rw [if_pos c]
    by_cases d : Y * h < Y * r
    · rw [if_pos d]
    · have : Y * h ≤ Y * r := Int.mul_le_mul_of_nonneg_left (by omega) hY
      rw [if_neg d]
      omega
  · have : Y * r ≤ Y * h := Int.mul_le_mul_of_nonneg_left (by omega) hY
    rw [if_neg c, if_neg (by omega)]
theorem mntL {a0 a1 a2 a3 : Int32} {p m r : Nat} (R : QRk t) (h78 : ∀ m, m < 3 → 0 ≤ (zI t 78 m).toInt ∧ (zI t 78 m).toInt ≤ 60) (h0 : a0.toInt = p) (hp : p < 6) (h1 : a1.toInt = m) (hm : m < 3) (h2 : a2.toInt = r) (hr : 1 ≤ r ∧ r ≤ 4) (h3 : 1 ≤ a3.toInt ∧ a3.toInt ≤ 60) : ∀ (n k : Nat) (x5 x6 : Int32), x6.toInt = k → k ≤ r → x5.toInt = (if k = 0 then 0 else mnA t a3.toInt k p m) → Pc (f_X12_minutesAt_L6 t a0 a1 a2 a3 n x5 x6) (fun v => v.toInt = mnA t a3.toInt r p m)
  | 0, _, _, _, _, _, _ => Pc_none
  | n + 1, k, x5, x6, h6, hk, h5 => by
    have j6 : (6 : Int32).toInt = 6 := rfl
    have e0 : a0.toInt.toNat = p := by omega
    have e1 : a1.toInt.toNat = m := by omega
    show Pc (f_X12_minutesAt_L6_b t a0 a1 a2 a3 (f_X12_minutesAt_L6 t a0 a1 a2 a3 n) x5 x6) _
    unfold f_X12_minutesAt_L6_b
    rw [e0, e1]
    refine Pc_lt (fun c => Pc_gd (fun _ => Pc_gd (fun _ => Pc_vl (Pc_gd (fun _ => ?_))))) (fun c => Pc_some ?_)
    · have n1 : (x6 + 1).toInt = x6.toInt + 1 := by rw [i32_add (by rw [jl1]; omega) (by rw [jl1]; omega), jl1]
      have m6 : ((6 : Int32) * x6).toInt = 6 * k := by rw [i32_mul (by rw [j6]; omega) (by rw [j6]; omega), j6, h6]
      have i6 : ((6 : Int32) * x6 + a0).toInt.toNat = 6 * k + p := by
        rw [i32_add (by rw [m6]; omega) (by rw [m6]; omega), m6]
        omega
      rw [i6]
      have r12 := R.2 p
      have r13 := R.1 (6 * k + p)
      have d := h78 m hm
      have q1 : (zI t 112 p + 1).toInt = (zI t 112 p).toInt + 1 := by rw [i32_add (by rw [jl1]; omega) (by rw [jl1]; omega), jl1]
      obtain ⟨u1, u2⟩ := mul32 (a := zI t 112 p + 1) (b := a3) (A := 10) (B := 60) (by rw [q1]; omega) (by omega) (by omega)
      obtain ⟨v1, v2⟩ := mul32 (a := (zI t 112 p + 1) * a3) (b := zI t 78 m) (A := 600) (B := 60) (by omega) d (by omega)
      obtain ⟨w1, w2⟩ := mul32 (a := (zI t 112 p + 1) * a3 * zI t 78 m) (b := zI t 113 (6 * k + p)) (A := 36000) (B := 9) (by omega) (by omega) (by omega)
      obtain ⟨Y, hY⟩ : ∃ Y : Int, Y = ((zI t 112 p).toInt + 1) * a3.toInt * (zI t 78 m).toInt := ⟨_, rfl⟩
      have X : (((zI t 112 p + 1) * a3 * zI t 78 m) * zI t 113 (6 * k + p)).toInt = Y * (zI t 113 (6 * k + p)).toInt := by rw [w1, v1, u1, q1, hY]
      have X0 : 0 ≤ Y := by rw [hY, ← q1, ← u1, ← v1]; exact v2.1
      have Mk : ∀ j, mnA t a3.toInt j p m = Y * hmx t p j := fun j => by rw [hY]; rfl
      have hs : hmx t p (k + 1) = if hmx t p k < (zI t 113 (6 * k + p)).toInt then (zI t 113 (6 * k + p)).toInt else hmx t p k := rfl
      refine Pc_vl (Pc_jn ?_)
      generalize ((zI t 112 p + 1) * a3 * zI t 78 m) * zI t 113 (6 * k + p) = V at X ⊢
      -- the greater one is the next value
      have nx : (if x5.toInt < V.toInt then V.toInt else x5.toInt) = mnA t a3.toInt (k + 1) p m := by
        rw [Mk, X, h5, hs]
        by_cases z : k = 0
        · have h1' : hmx t p k = 1 := by rw [z]; rfl
          have Y1 : 0 ≤ Y * (zI t 113 (6 * k + p)).toInt := Int.mul_nonneg X0 (by omega)
          have er : (if (1 : Int) < (zI t 113 (6 * k + p)).toInt then (zI t 113 (6 * k + p)).toInt else 1) = (zI t 113 (6 * k + p)).toInt := by
            by_cases y : 1 < (zI t 113 (6 * k + p)).toInt
            · rw [if_pos y]
            · rw [if_neg y]; omega
          rw [if_pos z, h1', er]
          by_cases w : 0 < Y * (zI t 113 (6 * k + p)).toInt
          · rw [if_pos w]
          · rw [if_neg w]; omega
        · rw [if_neg z, Mk, mxY X0]
      refine Pc_lt (fun z => Pc_vl (mntL R h78 h0 hp h1 hm h2 hr h3 n (k + 1) _ _ (by omega) (by omega) ?_)) (fun z => Pc_vl (mntL R h78 h0 hp h1 hm h2 hr h3 n (k + 1) _ _ (by omega) (by omega) ?_))
      · rw [if_pos z] at nx
        rw [if_neg (by omega)]
        exact nx
      · rw [if_neg (by omega)] at nx
        rw [if_neg (by omega)]
        exact nx
    · have : k = r := by omega
      rw [h5, if_neg (by omega), this]
theorem mntM {a0 a1 a2 a3 : Int32} {p m r : Nat} (R : QRk t) (h78 : ∀ m, m < 3 → 0 ≤ (zI t 78 m).toInt ∧ (zI t 78 m).toInt ≤ 60) (h0 : a0.toInt = p) (hp : p < 6) (h1 : a1.toInt = m) (hm : m < 3) (h2 : a2.toInt = r) (hr : 1 ≤ r ∧ r ≤ 4) (h3 : 1 ≤ a3.toInt ∧ a3.toInt ≤ 60) : Pc (f_X12_minutesAt t a0 a1 a2 a3) (fun v => v.toInt = mnA t a3.toInt r p m) := by
  unfold f_X12_minutesAt
  exact mntL R h78 h0 hp h1 hm h2 hr h3 4000 0 0 0 rfl (by omega) (by rw [if_pos rfl]; rfl)
/-- the class: the hardest row of a place -/
theorem wgh16 {y1 y2 y3 : Int32} {p r : Nat} {q0 : Int32 → Option SS} {Q : SS → Prop} (R : QRk t) (e42 : ∀ j, zI s 42 j = zI t 113 j) (h3 : y3.toInt = p) (hp : p < 6) (h1 : y1.toInt = r) (hr : r ≤ 4) (hq : ∀ v : Int32, v.toInt = hmx t p r → Pc (q0 v) Q) : ∀ (n k : Nat) (x4 x5 : Int32), x5.toInt = k → k ≤ r → x4.toInt = hmx t p k → Pc (f_X6_weighPlaces_L16 q0 s y1 y2 y3 n x4 x5) Q
  | 0, _, _, _, _, _, _ => Pc_none
  | n + 1, k, x4, x5, h5, hk, h4 => by
    have j4 : (4 : Int32).toInt = 4 := rfl
    have j6 : (6 : Int32).toInt = 6 := rfl
    show Pc (f_X6_weighPlaces_L16_b q0 s y1 y2 y3 (f_X6_weighPlaces_L16 q0 s y1 y2 y3 n) x4 x5) Q
    unfold f_X6_weighPlaces_L16_b
    refine Pc_lt (fun c => Pc_ift (by rw [jlt, j4]; omega) (Pc_vl (Pc_gd (fun _ => ?_)))) (fun c => hq x4 (by rw [h4, show k = r by omega]))
    have n1 : (x5 + 1).toInt = x5.toInt + 1 := by rw [i32_add (by rw [jl1]; omega) (by rw [jl1]; omega), jl1]
    have m6 : (x5 * (6 : Int32)).toInt = 6 * k := by rw [i32_mul (by rw [j6]; omega) (by rw [j6]; omega), j6, h5]; omega
    have i6 : (x5 * (6 : Int32) + y3).toInt.toNat = 6 * k + p := by
      rw [i32_add (by rw [m6]; omega) (by rw [m6]; omega), m6]
      omega
    rw [i6, e42, maxJ]
    refine Pc_b1S (Pc_vl (wgh16 R e42 h3 hp h1 hr hq n (k + 1) _ _ (by omega) (by omega) ?_))
    show _ = if hmx t p k < (zI t 113 (6 * k + p)).toInt then (zI t 113 (6 * k + p)).toInt else hmx t p k
    rw [mxI, h4]
def WGh (t : SS) (y : Int) (r : Nat) (c : Int) (s : SS) : Prop := ∀ i : Nat, i < 6 → (i : Int) < c → (zI s 43 i).toInt = ((zI t 112 i).toInt + 1) * y * hmx t i r
theorem wghL {y1 y2 : Int32} {r : Nat} (R : QRk t) (e42 : ∀ j, zI s0 42 j = zI t 113 j) (e41 : ∀ i : Nat, i < 6 → (i : Int) < (zS s0 34 9).toInt → zI s0 41 i = zI t 112 i) (h9 : (zS s0 34 9).toInt ≤ 6) (h1 : y1.toInt = r) (hr : r ≤ 4) (h2 : 1 ≤ y2.toInt ∧ y2.toInt ≤ 60) : ∀ (n : Nat) (s : SS) (x3 : Int32), 0 ≤ x3.toInt → Frm [] [43] [] s0 s → WGh t y2.toInt r x3.toInt s → Pc (f_X6_weighPlaces_L2 y1 y2 n s x3) (fun u => Frm [] [43] [] s0 u ∧ WGh t y2.toInt r (zS s0 34 9).toInt u)
  | 0, _, _, _, _, _ => Pc_none
  | n + 1, s, x3, h0, F, W => by
    show Pc (f_X6_weighPlaces_L2_b y1 y2 (f_X6_weighPlaces_L2 y1 y2 n) s x3) _
    unfold f_X6_weighPlaces_L2_b
    have e9 : zS s 34 9 = zS s0 34 9 := F.1 34 9 rfl
    rw [e9]
    refine Pc_lt (fun c => ?_) (fun c => Pc_some ⟨F, fun i hi h => W i hi (by omega)⟩)
    obtain ⟨p, hp⟩ : ∃ p : Nat, x3.toInt = p := ⟨_, (Int.toNat_of_nonneg h0).symm⟩
    have ep : x3.toInt.toNat = p := by omega
    have n1 : (x3 + 1).toInt = x3.toInt + 1 := by rw [i32_add (by rw [jl1]; omega) (by rw [jl1]; omega), jl1]
    refine wgh16 (p := p) (r := r) R (fun j => (F.2.1 42 j rfl).trans (e42 j)) hp (by omega) h1 hr (fun v hv => ?_) 4000 0 1 0 rfl (by omega) rfl
    rw [ep]
    refine Pc_gd (fun _ => Pc_vl (Pc_gd (fun _ => Pc_st (Pc_vl ?_))))
    have a41 : zI s 41 p = zI t 112 p := (F.2.1 41 p rfl).trans (e41 p (by omega) (by omega))
    have r12 := R.2 p
    have hb := hmx_b R p r
    have q1 : (zI t 112 p + 1).toInt = (zI t 112 p).toInt + 1 := by rw [i32_add (by rw [jl1]; omega) (by rw [jl1]; omega), jl1]
    obtain ⟨u1, u2⟩ := mul32 (a := zI t 112 p + 1) (b := y2) (A := 10) (B := 60) (by rw [q1]; omega) (by omega) (by omega)
    obtain ⟨v1, v2⟩ := mul32 (a := (zI t 112 p + 1) * y2) (b := v) (A := 600) (B := 9) (by omega) (by omega) (by omega)
    rw [a41]
    refine wghL R e42 e41 h9 h1 hr h2 n _ (x3 + 1) (by omega) (F.pI rfl) (fun i hi h => ?_)
    rw [zI_pI]
    by_cases z : i = p
    · rw [if_pos ⟨rfl, z⟩, v1, u1, q1, hv, z]
    · rw [if_neg (fun w => z w.2)]
      exact W i hi (by omega)
/-- places and machines chosen alike; e: one has been weighed -/
def ARl (K : Nat) (e : Prop) (s0 t0 s t : SS) (x2 x4 : Int32) : Prop := Frm [] [44, 45] [] s0 s ∧ Frm [] [114, 115] [] t0 t ∧ ((¬ e ∧ x2 = 1000000000 ∧ x4 = 2147483647) ∨ (x2 = x4 ∧ (0 ≤ x2.toInt ∧ x2.toInt ≤ 324000) ∧ ∀ i, i < K → zI s 44 i = zI t 114 i ∧ zI s 45 i = zI t 115 i))
theorem ARl.w {K : Nat} {e e' : Prop} {x2 x4 : Int32} (A : ARl K e s0 t0 s t x2 x4) (h : e' → e) : ARl K e' s0 t0 s t x2 x4 := ⟨A.1, A.2.1, A.2.2.imp (fun z => ⟨fun w => z.1 (h w), z.2⟩) (fun z => z)⟩
/-- a value is less than both that stand, or than none -/
theorem ARl.lt {K : Nat} {e : Prop} {x2 x4 v : Int32} (A : ARl K e s0 t0 s t x2 x4) (hv : 0 ≤ v.toInt ∧ v.toInt ≤ 324000) : v < x2 ↔ v < x4 := by
  rcases A.2.2 with ⟨_, z2, z4⟩ | ⟨z, _⟩
  · rw [z2, z4, jlt, jlt, show (1000000000 : Int32).toInt = 1000000000 from rfl, show (2147483647 : Int32).toInt = 2147483647 from rfl]
    omega
  · rw [z]
theorem ARl.no {K : Nat} {e : Prop} {x2 x4 v : Int32} (A : ARl K e s0 t0 s t x2 x4) (hv : 0 ≤ v.toInt ∧ v.toInt ≤ 324000) (h : ¬ v < x2) : ARl K True s0 t0 s t x2 x4 := by
  refine ⟨A.1, A.2.1, ?_⟩
  rcases A.2.2 with ⟨_, z2, z4⟩ | z
  · exfalso
    apply h
    rw [z2, jlt, show (1000000000 : Int32).toInt = 1000000000 from rfl]
    omega
  · exact Or.inr z
def PCl (P : Int32 × SS → Option (Int32 × SS) → Prop) : Prop := (∀ a, P a none) ∧ ∀ a K K', (∀ R : Int32 × SS → Prop, Pc K R → Pc K' R) → P a K → P a K'
/-- what stands while it is weighed -/
def AWt (s0 t0 : SS) (y : Int) (r : Nat) (c : Int) : Prop := Sh s0 ∧ QRk t0 ∧ (∀ m, m < 3 → 0 ≤ (zI t0 78 m).toInt ∧ (zI t0 78 m).toInt ≤ 60) ∧ (∀ m, m < 3 → zS s0 (20 + m) 0 = zI t0 78 m) ∧ WGh t0 y r c s0 ∧ (1 ≤ y ∧ y ≤ 60) ∧ (1 ≤ r ∧ r ≤ 4) ∧ c ≤ 6
theorem hmx_c {t' : SS} (h : ∀ j, zI t' 113 j = zI t 113 j) (p : Nat) : ∀ k, hmx t' p k = hmx t p k
  | 0 => rfl
  | k + 1 => by
    show (if hmx t' p k < (zI t' 113 (6 * k + p)).toInt then (zI t' 113 (6 * k + p)).toInt else hmx t' p k) = (if hmx t p k < (zI t 113 (6 * k + p)).toInt then (zI t 113 (6 * k + p)).toInt else hmx t p k)
    rw [hmx_c h p k, h]
theorem mnA_f {y : Int} {r p m : Nat} (F : Frm [] [114, 115] [] t0 t) : mnA t y r p m = mnA t0 y r p m := by
  unfold mnA
  rw [hmx_c (fun j => F.2.1 113 j rfl), F.2.1 112 p rfl, F.2.1 78 m rfl]
theorem QRk.f (R : QRk t0) (F : Frm [] [114, 115] [] t0 t) : QRk t := ⟨fun j => by rw [F.2.1 113 j rfl]; exact R.1 j, fun i => by rw [F.2.1 112 i rfl]; exact R.2 i⟩
/-- the reference's minutes while it is weighed -/
theorem AWt.m {y c : Int} {r p m : Nat} {a0 a1 a2 a3 : Int32} (W : AWt s0 t0 y r c) (F : Frm [] [114, 115] [] t0 t) (h0 : a0.toInt = p) (hp : p < 6) (h1 : a1.toInt = m) (hm : m < 3) (h2 : a2.toInt = r) (h3 : a3.toInt = y) : Pc (f_X12_minutesAt t a0 a1 a2 a3) (fun v => v.toInt = mnA t0 y r p m) := by
  obtain ⟨_, R, h78, _, _, hy, hr, _⟩ := W
  refine Pc.mono (mntM (R.f F) (fun m hm => by rw [F.2.1 78 m rfl]; exact h78 m hm) h0 hp h1 hm h2 hr (by rw [h3]; exact hy)) (fun v hv => ?_)
  rw [hv, h3, mnA_f F]
/-- the class's minutes -/
theorem AWt.x {y c : Int} {r p m : Nat} (W : AWt s0 t0 y r c) (F : Frm [] [44, 45] [] s0 s) (hp : (p : Int) < c) (hm : m < 3) : (zI s 43 p * zS s (20 + m) 0).toInt = mnA t0 y r p m := by
  obtain ⟨_, R, h78, hp0, Wg, hy, hr, hc⟩ := W
  have p6 : p < 6 := by omega
  have w := Wg p p6 hp
  have e43 : zI s 43 p = zI s0 43 p := F.2.1 43 p rfl
  have ep : zS s (20 + m) 0 = zI t0 78 m := (F.1 (20 + m) 0 rfl).trans (hp0 m hm)
  have a := R.2 p
  have b := hmx_b R p r
  have e1 : 0 ≤ ((zI t0 112 p).toInt + 1) * y ∧ ((zI t0 112 p).toInt + 1) * y ≤ 10 * 60 := ⟨Int.mul_nonneg (by omega) (by omega), Int.mul_le_mul (by omega) hy.2 (by omega) (by omega)⟩
  have e2 : 0 ≤ ((zI t0 112 p).toInt + 1) * y * hmx t0 p r ∧ ((zI t0 112 p).toInt + 1) * y * hmx t0 p r ≤ 600 * 9 := ⟨Int.mul_nonneg e1.1 (by omega), Int.mul_le_mul e1.2 b.2 (by omega) (by omega)⟩
  obtain ⟨u1, u2⟩ := mul32 (a := zI s0 43 p) (b := zI t0 78 m) (A := 5400) (B := 60) (by rw [w]; omega) (h78 m hm) (by omega)
  rw [e43, ep, u1, w]
  unfold mnA
  exact Int.mul_right_comm _ _ _
theorem AWt.b {y c : Int} {r p m : Nat} (W : AWt s0 t0 y r c) (hm : m < 3) : 0 ≤ mnA t0 y r p m ∧ mnA t0 y r p m ≤ 324000 := mnA_b W.2.1 W.2.2.1 hm W.2.2.2.2.2.1
theorem AWt.r {y c : Int} {r : Nat} {x : Int32} {m : Nat} (W : AWt s0 t0 y r c) (F : Frm [] [44, 45] [] s0 s) (hx : x.toInt = m) (hm : m < 3) : zR s 19 x.toInt.toNat = some (20 + m) := by
  rw [F.zR_, show x.toInt.toNat = m by omega]
  exact W.1.2.2.2.1 m hm
/-- one machine: machine by machine -/
theorem one_m {qX : SS → Int32 → Option (Int32 × SS)} {qM : SS → Int32 → Option (Int32 × SS)} {P : Int32 × SS → Option (Int32 × SS) → Prop} {a0 a1 y3 : Int32} {c : Int} {r p : Nat} (HP : PCl P) (W : AWt s0 t0 a1.toInt r c) (h0 : a0.toInt = r) (h3 : y3.toInt = p) (hp : (p : Int) < c) (hq : ∀ s t x2 x4, ARl 1 True s0 t0 s t x2 x4 → Pc (qX s x2) (fun a => P a (qM t x4))) : ∀ (n k : Nat) (s t : SS) (x2 x4 x : Int32) (m : Nat), x.toInt = m → m ≤ 3 → ARl 1 (0 < m) s0 t0 s t x2 x4 → Pc (f_X6_soonestOne_L16 qX y3 n s x2 x) (fun a => P a (f_X12_aimed_L109 qM a0 a1 1 y3 0 k t x4 x))
  | 0, _, _, _, _, _, _, _, _, _, _ => Pc_none
  | n + 1, 0, _, _, _, _, _, _, _, _, _ => fun a _ => HP.1 a
  | n + 1, k + 1, s, t, x2, x4, x, m, hx, hm, A => by
    have j3 : (3 : Int32).toInt = 3 := rfl
    have ey : y3.toInt.toNat = p := by omega
    show Pc (f_X6_soonestOne_L16_b qX y3 (f_X6_soonestOne_L16 qX y3 n) s x2 x) (fun a => P a (f_X12_aimed_L109_b qM a0 a1 1 y3 0 (f_X12_aimed_L109 qM a0 a1 1 y3 0 k) t x4 x))
    unfold f_X6_soonestOne_L16_b f_X12_aimed_L109_b
    refine Pc_lt (fun cx => ?_) (fun cx => ?_)
    · rw [j3] at cx
      have m3 : m < 3 := by omega
      have n1 : (x + 1).toInt = x.toInt + 1 := by rw [i32_add (by rw [jl1]; omega) (by rw [jl1]; omega), jl1]
      have vb := W.b (p := p) m3
      rw [W.r A.1 hx m3, ey]
      refine Pc_gd (fun _ => Pc_gd (fun _ => Pc_onS (Pc_vl (Pc_jn ?_))))
      have vx := W.x (s := s) (p := p) A.1 hp m3
      generalize zI s 43 p * zS s (20 + m) 0 = V at vx ⊢
      have lt := A.lt (v := V) (by omega)
      -- the reference, this machine
      have md : ∀ R : Int32 × SS → Prop, (∀ r19 : Int32, r19 = V → Pc (f_X12_aimed_L109 qM a0 a1 1 y3 0 k (if r19 < x4 then pI (pI (pI (pI t 114 0 y3) 115 0 x) 114 1 0) 115 1 2 else t) (if r19 < x4 then r19 else x4) (x + 1)) R) → Pc (if x < (3 : Int32) then (jn (fun (t17_0 : Int32) => (f_X12_aimed_L130 (fun (s32 : SS) (x32_4 : Int32) => (vl (x + 1) fun v33 => (f_X12_aimed_L109 qM a0 a1 1 y3 0 k s32 x32_4 v33))) a0 a1 1 y3 0 x 4000 t x4 t17_0)) fun k17 => (if (1 : Int32) = (2 : Int32) then (k17 (x + (1 : Int32))) else (k17 2))) else (qM t x4)) R := by
        intro R g
        refine Pc_ift (by rw [jlt, j3]; omega) (Pc_jn (Pc_iff (by decide) ?_))
        show Pc (f_X12_aimed_L130_b _ a0 a1 1 y3 0 x (f_X12_aimed_L130 _ a0 a1 1 y3 0 x 3999) t x4 2) R
        unfold f_X12_aimed_L130_b
        refine Pc_ift (by decide) (Pc_b1 (Pc.mono (W.m (t := t) (a0 := y3) (a1 := x) (a2 := a0) (a3 := a1) A.2.1 h3 (by have := W.2.2.2.2.2.2.2; omega) hx m3 h0 rfl) (fun r19 hr => Pc_jn (Pc_iff (by decide) (Pc_jn (Pc_iff (by rw [jlt, jl0]; omega) (Pc_jn ?_)))))))
        have e19 : r19 = V := Int32.toInt_inj.1 (hr.trans vx.symm)
        have G := g r19 e19
        -- behind it
        have tl : ∀ (u : SS) (v : Int32), Pc (f_X12_aimed_L109 qM a0 a1 1 y3 0 k u v (x + 1)) R → Pc (vl ((2 : Int32) + 1) fun v23 => f_X12_aimed_L130 (fun (s32 : SS) (x32_4 : Int32) => (vl (x + 1) fun v33 => (f_X12_aimed_L109 qM a0 a1 1 y3 0 k s32 x32_4 v33))) a0 a1 1 y3 0 x 3999 u v v23) R := by
          intro u v h
          refine Pc_vl ?_
          show Pc (f_X12_aimed_L130_b _ a0 a1 1 y3 0 x (f_X12_aimed_L130 _ a0 a1 1 y3 0 x 3998) u v (2 + 1)) R
          unfold f_X12_aimed_L130_b
          exact Pc_iff (by decide) (Pc_vl h)
        refine Pc_if (fun z => ?_) (fun z => ?_)
        · rw [if_pos z, if_pos z] at G
          exact Pc_st (Pc_st (Pc_st (Pc_st (tl _ _ G))))
        · rw [if_neg z, if_neg z] at G
          exact tl _ _ G
      refine Pc_if (fun z => Pc_st (Pc_st (Pc_vl ?_))) (fun z => Pc_vl ?_)
      · have A' : ARl 1 (0 < m + 1) s0 t0 (pI (pI s 44 0 y3) 45 0 x) (pI (pI (pI (pI t 114 0 y3) 115 0 x) 114 1 0) 115 1 2) V V := by
          refine ⟨(A.1.pI rfl).pI rfl, (((A.2.1.pI rfl).pI rfl).pI rfl).pI rfl, Or.inr ⟨rfl, by omega, fun i hi => ?_⟩⟩
          have : i = 0 := by omega
          subst this
          exact ⟨rfl, rfl⟩
        refine Pc.mono (one_m HP W h0 h3 hp hq n k _ _ V V (x + 1) (m + 1) (by omega) (by omega) A') (fun a ha => HP.2 a _ _ (fun R h => md R (fun r19 e => ?_)) ha)
        rw [e, if_pos (lt.mp z), if_pos (lt.mp z)]
        exact h
      · have A' : ARl 1 (0 < m + 1) s0 t0 s t x2 x4 := (A.no (v := V) (by omega) z).w (fun _ => trivial)
        refine Pc.mono (one_m HP W h0 h3 hp hq n k _ _ x2 x4 (x + 1) (m + 1) (by omega) (by omega) A') (fun a ha => HP.2 a _ _ (fun R h => md R (fun r19 e => ?_)) ha)
        rw [e, if_neg (fun w => z (lt.mpr w)), if_neg (fun w => z (lt.mpr w))]
        exact h
    · rw [j3] at cx
      refine Pc.mono (hq s t x2 x4 (A.w (fun _ => by omega))) (fun a ha => HP.2 a _ _ (fun R h => Pc_iff (by rw [jlt, j3]; omega) h) ha)
/-- one machine: place by place -/
theorem one_p {qX : SS → Int32 → Option (Int32 × SS)} {qM : SS → Int32 → Option (Int32 × SS)} {P : Int32 × SS → Option (Int32 × SS) → Prop} {a0 a1 : Int32} {r : Nat} (HP : PCl P) (W : AWt s0 t0 a1.toInt r (zS s0 34 9).toInt) (h0 : a0.toInt = r) (e9 : zS s0 34 9 = zS t0 59 76) (hq : ∀ s t x2 x4, ARl 1 (0 < (zS s0 34 9).toInt) s0 t0 s t x2 x4 → Pc (qX s x2) (fun a => P a (qM t x4))) : ∀ (n k : Nat) (s t : SS) (x2 x4 x : Int32), 0 ≤ x.toInt → ARl 1 (0 < x.toInt) s0 t0 s t x2 x4 → Pc (f_X6_soonestOne_L5 qX n s x2 x) (fun a => P a (f_X12_aimed_L61 qM a0 a1 1 k t x4 x))
  | 0, _, _, _, _, _, _, _, _ => Pc_none
  | n + 1, 0, _, _, _, _, _, _, _ => fun a _ => HP.1 a
  | n + 1, k + 1, s, t, x2, x4, x, hx, A => by
    have c6 := W.2.2.2.2.2.2.2
    show Pc (f_X6_soonestOne_L5_b qX (f_X6_soonestOne_L5 qX n) s x2 x) (fun a => P a (f_X12_aimed_L61_b qM a0 a1 1 (f_X12_aimed_L61 qM a0 a1 1 k) t x4 x))
    unfold f_X6_soonestOne_L5_b f_X12_aimed_L61_b
    have es : zS s 34 9 = zS s0 34 9 := A.1.1 34 9 rfl
    have et : zS t 59 76 = zS s0 34 9 := (A.2.1.1 59 76 rfl).trans e9.symm
    rw [es, et]
    refine Pc_lt (fun cx => ?_) (fun cx => Pc.mono (hq s t x2 x4 (A.w (fun h => by omega))) (fun a ha => HP.2 a _ _ (fun R h => Pc_iff (by rw [jlt]; omega) h) ha))
    obtain ⟨p, hp⟩ : ∃ p : Nat, x.toInt = p := ⟨_, (Int.toNat_of_nonneg hx).symm⟩
    have n1 : (x + 1).toInt = x.toInt + 1 := by rw [i32_add (by rw [jl1]; omega) (by rw [jl1]; omega), jl1]
    -- the reference: one round of its inner loop
    have md : ∀ (a : Int32 × SS), P a (f_X12_aimed_L109 (fun (s35 : SS) (x35_4 : Int32) => (vl ((0 : Int32) + 1) fun v14 => f_X12_aimed_L73 (fun (s39 : SS) (x39_4 : Int32) => (vl (x + 1) fun v40 => (f_X12_aimed_L61 qM a0 a1 1 k s39 x39_4 v40))) a0 a1 1 x 3999 s35 x35_4 v14)) a0 a1 1 x 0 4000 t x4 0) → P a (if x < zS s0 34 9 then (f_X12_aimed_L73 (fun (s39 : SS) (x39_4 : Int32) => (vl (x + 1) fun v40 => (f_X12_aimed_L61 qM a0 a1 1 k s39 x39_4 v40))) a0 a1 1 x 4000 t x4 0) else (qM t x4)) := fun a ha => HP.2 a _ _ (fun R h => by
      refine Pc_ift (by rw [jlt]; exact cx) ?_
      show Pc (f_X12_aimed_L73_b _ a0 a1 1 x (f_X12_aimed_L73 _ a0 a1 1 x 3999) t x4 0) R
      unfold f_X12_aimed_L73_b
      exact Pc_jn (Pc_iff (by decide) (Pc_ift (by decide) (Pc_jn (Pc_jn (Pc_iff (by decide) h)))))) ha
    refine Pc.mono (one_m (qM := fun (s35 : SS) (x35_4 : Int32) => (vl ((0 : Int32) + 1) fun v14 => f_X12_aimed_L73 (fun (s39 : SS) (x39_4 : Int32) => (vl (x + 1) fun v40 => (f_X12_aimed_L61 qM a0 a1 1 k s39 x39_4 v40))) a0 a1 1 x 3999 s35 x35_4 v14)) (P := P) HP W h0 hp (by omega) (fun s' t' y2 y4 A' => ?_) 4000 4000 s t x2 x4 0 0 rfl (by omega) (A.w (fun h => by omega))) (fun a ha => md a ha)
    refine Pc_vl (Pc.mono (one_p HP W h0 e9 hq n k s' t' y2 y4 (x + 1) (by omega) (A'.w (fun _ => trivial))) (fun a ha => HP.2 a _ _ (fun R h => Pc_vl ?_) ha))
    show Pc (f_X12_aimed_L73_b _ a0 a1 1 x (f_X12_aimed_L73 _ a0 a1 1 x 3998) t' y4 (0 + 1)) R
    unfold f_X12_aimed_L73_b
    exact Pc_jn (Pc_iff (by decide) (Pc_iff (by decide) (Pc_vl h)))
/-- a run that implies is the same run, or none -/
theorem imp_eq {ρ : Type} {K K' : Option ρ} (h : ∀ R : ρ → Prop, Pc K R → Pc K' R) : K' = none ∨ K' = K := by
  cases e : K' with
  | none => exact Or.inl rfl
  | some m => exact Or.inr (h (fun m' => K = some m') (fun r er => er) m e).symm
/-- the reference stands where the class stands -/
def TQ (s0 t0 : SS) (e : Prop) (qM : SS → Int32 → Option (Int32 × SS)) (a : Int32 × SS) (K : Option (Int32 × SS)) : Prop := K = none ∨ ∃ u y4, ARl 2 e s0 t0 a.2 u a.1 y4 ∧ K = qM u y4
theorem TQ_cl {e : Prop} {qM : SS → Int32 → Option (Int32 × SS)} : PCl (TQ s0 t0 e qM) := by
  refine ⟨fun a => Or.inl rfl, fun a K K' h hK => ?_⟩
  rcases imp_eq h with z | z
  · exact Or.inl z
  · rw [z]; exact hK
theorem two_o {qX : SS → Int32 → Option (Int32 × SS)} {qM : SS → Int32 → Option (Int32 × SS)} {P : Int32 × SS → Option (Int32 × SS) → Prop} {a0 a1 y2 y3 y6 : Int32} {c : Int} {e : Prop} {r p q m : Nat} (HP : PCl P) (W : AWt s0 t0 a1.toInt r c) (h0 : a0.toInt = r) (h2 : y2.toInt = p) (hp : (p : Int) < c) (h3 : y3.toInt = q) (hr : (q : Int) < c) (h6 : y6.toInt = m) (hm : m < 3) (hq : ∀ s t x2 x4, ARl 2 (e ∨ m + 1 < 3) s0 t0 s t x2 x4 → Pc (qX s x2) (fun a => P a (qM t x4))) : ∀ (n k : Nat) (s t : SS) (x2 x4 x : Int32) (o : Nat), x.toInt = o → o ≤ 3 → ARl 2 (e ∨ m + 1 < o) s0 t0 s t x2 x4 → Pc (f_X6_soonestPair_L20 qX y2 y3 y6 n s x2 x) (fun a => P a (f_X12_aimed_L130 qM a0 a1 2 y2 y3 y6 k t x4 x))
  | 0, _, _, _, _, _, _, _, _, _, _ => Pc_none
  | n + 1, 0, _, _, _, _, _, _, _, _, _ => fun a _ => HP.1 a
  | n + 1, k + 1, s, t, x2, x4, x, o, hx, ho, A => by
    have j3 : (3 : Int32).toInt = 3 := rfl
    have c6 := W.2.2.2.2.2.2.2
    have ep : y2.toInt.toNat = p := by omega
    have eq : y3.toInt.toNat = q := by omega
    show Pc (f_X6_soonestPair_L20_b qX y2 y3 y6 (f_X6_soonestPair_L20 qX y2 y3 y6 n) s x2 x) (fun a => P a (f_X12_aimed_L130_b qM a0 a1 2 y2 y3 y6 (f_X12_aimed_L130 qM a0 a1 2 y2 y3 y6 k) t x4 x))
    unfold f_X6_soonestPair_L20_b f_X12_aimed_L130_b
    refine Pc_lt (fun cx => ?_) (fun cx => ?_)
    · rw [j3] at cx
      have o3 : o < 3 := by omega
      have n1 : (x + 1).toInt = x.toInt + 1 := by rw [i32_add (by rw [jl1]; omega) (by rw [jl1]; omega), jl1]
      have vb := W.b (p := p) hm
      have ub := W.b (p := q) o3
      rw [W.r A.1 h6 hm, W.r A.1 hx o3, ep, eq]
      refine Pc_gd (fun _ => Pc_gd (fun _ => Pc_onS (Pc_gd (fun _ => Pc_gd (fun _ => Pc_onS ?_)))))
      have vx := W.x (s := s) (p := p) A.1 hp hm
      have ux := W.x (s := s) (p := q) A.1 hr o3
      generalize zI s 43 p * zS s (20 + m) 0 = V1 at vx ⊢
      generalize zI s 43 q * zS s (20 + o) 0 = V2 at ux ⊢
      rw [maxJ]
      refine Pc_b1S (Pc_jn ?_)
      have VV : (if V1 < V2 then V2 else V1).toInt = if V1.toInt < V2.toInt then V2.toInt else V1.toInt := mxI
      -- the reference, this pair
      have md : ∀ R : Int32 × SS → Prop, (∀ v : Int32, v = (if V1 < V2 then V2 else V1) → Pc (f_X12_aimed_L130 qM a0 a1 2 y2 y3 y6 k (if v < x4 then pI (pI (pI (pI t 114 0 y2) 115 0 y6) 114 1 y3) 115 1 x else t) (if v < x4 then v else x4) (x + 1)) R) → Pc (if x < (3 : Int32) then (b1 (f_X12_minutesAt t y2 y6 a0 a1) fun r19 => (jn (fun (t20_0 : Int32) => (jn (fun (t21_0 : Int32) => (jn (fun (s22 : SS) (j22_4 : Int32) => (vl (x + 1) fun v23 => (f_X12_aimed_L130 qM a0 a1 2 y2 y3 y6 k s22 j22_4 v23))) fun k22 => (if t21_0 < x4 then (st (pI t 114 ((0 : Int32).toInt.toNat) y2) fun s25 => (st (pI s25 115 ((0 : Int32).toInt.toNat) y6) fun s26 => (st (pI s26 114 ((1 : Int32).toInt.toNat) y3) fun s27 => (st (pI s27 115 ((1 : Int32).toInt.toNat) x) fun s28 => (k22 s28 t21_0))))) else (k22 t x4)))) fun k21 => (if r19 < t20_0 then (k21 t20_0) else (k21 r19)))) fun k20 => (if (2 : Int32) = (2 : Int32) then (b1 (f_X12_minutesAt t y3 x a0 a1) fun r31 => (k20 r31)) else (k20 0)))) else (qM t x4)) R := by
        intro R g
        refine Pc_ift (by rw [jlt, j3]; omega) (Pc_b1 (Pc.mono (W.m (t := t) (a0 := y2) (a1 := y6) (a2 := a0) (a3 := a1) A.2.1 h2 (by omega) h6 hm h0 rfl) (fun r19 hr19 => Pc_jn (Pc_ift rfl (Pc_b1 (Pc.mono (W.m (t := t) (a0 := y3) (a1 := x) (a2 := a0) (a3 := a1) A.2.1 h3 (by omega) hx o3 h0 rfl) (fun r31 hr31 => Pc_jn ?_)))))))
        have e19 : r19 = V1 := Int32.toInt_inj.1 (hr19.trans vx.symm)
        have e31 : r31 = V2 := Int32.toInt_inj.1 (hr31.trans ux.symm)
        rw [e19, e31]
        -- behind it
        have tl : ∀ v : Int32, v = (if V1 < V2 then V2 else V1) → Pc (jn (fun (s22 : SS) (j22_4 : Int32) => (vl (x + 1) fun v23 => (f_X12_aimed_L130 qM a0 a1 2 y2 y3 y6 k s22 j22_4 v23))) fun k22 => (if v < x4 then (st (pI t 114 ((0 : Int32).toInt.toNat) y2) fun s25 => (st (pI s25 115 ((0 : Int32).toInt.toNat) y6) fun s26 => (st (pI s26 114 ((1 : Int32).toInt.toNat) y3) fun s27 => (st (pI s27 115 ((1 : Int32).toInt.toNat) x) fun s28 => (k22 s28 v))))) else (k22 t x4))) R := by
          intro v hv
          have G := g v hv
          refine Pc_jn (Pc_if (fun z => ?_) (fun z => ?_))
          · rw [if_pos z, if_pos z] at G
            exact Pc_st (Pc_st (Pc_st (Pc_st (Pc_vl G))))
          · rw [if_neg z, if_neg z] at G
            exact Pc_vl G
        exact Pc_if (fun z => tl V2 (by rw [if_pos z])) (fun z => tl V1 (by rw [if_neg z]))
      generalize (if V1 < V2 then V2 else V1) = V at VV md ⊢
      have Vb : 0 ≤ V.toInt ∧ V.toInt ≤ 324000 := by
        rw [VV]
        by_cases z : V1.toInt < V2.toInt
        · rw [if_pos z]; omega
        · rw [if_neg z]; omega
      have lt := A.lt (v := V) Vb
      refine Pc_if (fun z => Pc_st (Pc_st (Pc_st (Pc_st (Pc_vl ?_))))) (fun z => Pc_vl ?_)
      · have A' : ARl 2 (e ∨ m + 1 < o + 1) s0 t0 (pI (pI (pI (pI s 44 0 y2) 45 0 y6) 44 1 y3) 45 1 x) (pI (pI (pI (pI t 114 0 y2) 115 0 y6) 114 1 y3) 115 1 x) V V := by
          refine ⟨(((A.1.pI rfl).pI rfl).pI rfl).pI rfl, (((A.2.1.pI rfl).pI rfl).pI rfl).pI rfl, Or.inr ⟨rfl, Vb, fun i hi => ?_⟩⟩
          rcases (by omega : i = 0 ∨ i = 1) with z | z
          · subst z
            exact ⟨rfl, rfl⟩
          · subst z
            exact ⟨rfl, rfl⟩
        refine Pc.mono (two_o HP W h0 h2 hp h3 hr h6 hm hq n k _ _ V V (x + 1) (o + 1) (by omega) (by omega) A') (fun a ha => HP.2 a _ _ (fun R h => md R (fun v ev => ?_)) ha)
        rw [ev, if_pos (lt.mp z), if_pos (lt.mp z)]
        exact h
      · have A' : ARl 2 (e ∨ m + 1 < o + 1) s0 t0 s t x2 x4 := (A.no (v := V) Vb z).w (fun _ => trivial)
        refine Pc.mono (two_o HP W h0 h2 hp h3 hr h6 hm hq n k _ _ x2 x4 (x + 1) (o + 1) (by omega) (by omega) A') (fun a ha => HP.2 a _ _ (fun R h => md R (fun v ev => ?_)) ha)
        rw [ev, if_neg (fun w => z (lt.mpr w)), if_neg (fun w => z (lt.mpr w))]
        exact h
    · rw [j3] at cx
      refine Pc.mono (hq s t x2 x4 (A.w (fun z => ?_))) (fun a ha => HP.2 a _ _ (fun R h => Pc_iff (by rw [jlt, j3]; omega) h) ha)
      exact z.imp (fun z => z) (fun z => by omega)
theorem two_m {qM : SS → Int32 → Option (Int32 × SS)} {a0 a1 y2 y3 : Int32} {c : Int} {e : Prop} {r p q : Nat} (W : AWt s0 t0 a1.toInt r c) (h0 : a0.toInt = r) (h2 : y2.toInt = p) (hp : (p : Int) < c) (h3 : y3.toInt = q) (hr : (q : Int) < c) : ∀ (n k : Nat) (s t : SS) (x2 x4 x : Int32) (m : Nat), x.toInt = m → m ≤ 3 → ARl 2 (e ∨ 0 < m) s0 t0 s t x2 x4 → Pc (f_X6_soonestPair_L7 y2 y3 n s x2 x) (fun a => TQ s0 t0 True qM a (f_X12_aimed_L109 qM a0 a1 2 y2 y3 k t x4 x))
  | 0, _, _, _, _, _, _, _, _, _, _ => Pc_none
  | n + 1, 0, _, _, _, _, _, _, _, _, _ => fun a _ => Or.inl rfl
  | n + 1, k + 1, s, t, x2, x4, x, m, hx, hm, A => by
    have j3 : (3 : Int32).toInt = 3 := rfl
    show Pc (f_X6_soonestPair_L7_b y2 y3 (f_X6_soonestPair_L7 y2 y3 n) s x2 x) (fun a => TQ s0 t0 True qM a (f_X12_aimed_L109_b qM a0 a1 2 y2 y3 (f_X12_aimed_L109 qM a0 a1 2 y2 y3 k) t x4 x))
    unfold f_X6_soonestPair_L7_b f_X12_aimed_L109_b
    refine Pc_lt (fun cx => ?_) (fun cx => ?_)
    · rw [j3] at cx
      have n1 : (x + 1).toInt = x.toInt + 1 := by rw [i32_add (by rw [jl1]; omega) (by rw [jl1]; omega), jl1]
      refine Pc_vl (Pc.mono (two_o (qM := fun (s32 : SS) (x32_4 : Int32) => (vl (x + 1) fun v33 => (f_X12_aimed_L109 qM a0 a1 2 y2 y3 k s32 x32_4 v33))) (P := TQ s0 t0 True qM) (e := e ∨ 0 < m) TQ_cl W h0 h2 hp h3 hr hx (by omega) (fun s' t' z2 z4 A' => ?_) 4000 4000 s t x2 x4 (x + 1) (m + 1) (by omega) (by omega) (A.w (fun z => z.elim (fun z => z) (fun z => by omega)))) (fun a ha => TQ_cl.2 a _ _ (fun R h => ?_) ha))
      · exact Pc_vl (Pc.mono (two_m W h0 h2 hp h3 hr n k s' t' z2 z4 (x + 1) (m + 1) (by omega) (by omega) (A'.w (fun z => z.elim (fun z => Or.inl (Or.inl z)) (fun z => by by_cases w : 0 < m; exact Or.inl (Or.inr w); exact Or.inr (by omega))))) (fun a ha => ha))
      · exact Pc_ift (by rw [jlt, j3]; omega) (Pc_jn (Pc_ift rfl h))
    · rw [j3] at cx
      refine Pc_some ?_
      rw [if_neg (by rw [jlt, j3]; omega)]
      exact Or.inr ⟨t, x4, A.w (fun _ => Or.inr (by omega)), rfl⟩
theorem two_q {qX : SS → Int32 → Option (Int32 × SS)} {qM : SS → Int32 → Option (Int32 × SS)} {P : Int32 × SS → Option (Int32 × SS) → Prop} {a0 a1 y3 : Int32} {e : Prop} {r p : Nat} (HP : PCl P) (W : AWt s0 t0 a1.toInt r (zS s0 34 9).toInt) (h0 : a0.toInt = r) (e9 : zS s0 34 9 = zS t0 59 76) (h3 : y3.toInt = p) (hp : (p : Int) < (zS s0 34 9).toInt) (hq : ∀ s t x2 x4, ARl 2 (e ∨ ∃ q : Nat, (q : Int) < (zS s0 34 9).toInt ∧ q ≠ p) s0 t0 s t x2 x4 → Pc (qX s x2) (fun a => P a (qM t x4))) : ∀ (n k : Nat) (s t : SS) (x2 x4 x : Int32), 0 ≤ x.toInt → ARl 2 (e ∨ ∃ q : Nat, (q : Int) < x.toInt ∧ q ≠ p) s0 t0 s t x2 x4 → Pc (f_X6_soonestTwo_L16 qX y3 n s x2 x) (fun a => P a (f_X12_aimed_L73 qM a0 a1 2 y3 k t x4 x))
  | 0, _, _, _, _, _, _, _, _ => Pc_none
  | n + 1, 0, _, _, _, _, _, _, _ => fun a _ => HP.1 a
  | n + 1, k + 1, s, t, x2, x4, x, hx, A => by
    have c6 := W.2.2.2.2.2.2.2
    show Pc (f_X6_soonestTwo_L16_b qX y3 (f_X6_soonestTwo_L16 qX y3 n) s x2 x) (fun a => P a (f_X12_aimed_L73_b qM a0 a1 2 y3 (f_X12_aimed_L73 qM a0 a1 2 y3 k) t x4 x))
    unfold f_X6_soonestTwo_L16_b f_X12_aimed_L73_b
    have es : zS s 34 9 = zS s0 34 9 := A.1.1 34 9 rfl
    have et : zS t 59 76 = zS s0 34 9 := (A.2.1.1 59 76 rfl).trans e9.symm
    rw [es, et]
    refine Pc_lt (fun cx => Pc_jn ?_) (fun cx => Pc.mono (hq s t x2 x4 (A.w (fun h => ?_))) (fun a ha => HP.2 a _ _ (fun R h => Pc_jn (Pc_ift rfl (Pc_iff (by rw [jlt]; omega) h))) ha))
    · obtain ⟨w, hw⟩ : ∃ w : Nat, x.toInt = w := ⟨_, (Int.toNat_of_nonneg hx).symm⟩
      have n1 : (x + 1).toInt = x.toInt + 1 := by rw [i32_add (by rw [jl1]; omega) (by rw [jl1]; omega), jl1]
      refine Pc_if (fun z => Pc_vl ?_) (fun z => Pc_bd ?_)
      · have ew : w = p := by have := congrArg Int32.toInt z; omega
        refine Pc.mono (two_q HP W h0 e9 h3 hp hq n k s t x2 x4 (x + 1) (by omega) (A.w (fun h => ?_))) (fun a ha => HP.2 a _ _ (fun R h => Pc_jn (Pc_ift rfl (Pc_ift (by rw [jlt]; exact cx) (Pc_jn (Pc_jn (Pc_ift rfl (Pc_ift z.symm (Pc_vl h)))))))) ha)
        rcases h with h | ⟨v, h1, h2⟩
        · exact Or.inl h
        · exact Or.inr ⟨v, by omega, h2⟩
      · have nw : w ≠ p := fun h => z (Int32.toInt_inj.1 (by omega))
        unfold f_X6_soonestPair
        refine Pc.mono (two_m (qM := fun (s13 : SS) (j13_4 : Int32) => (vl (x + 1) fun v14 => (f_X12_aimed_L73 qM a0 a1 2 y3 k s13 j13_4 v14))) (e := e ∨ ∃ q : Nat, (q : Int) < x.toInt ∧ q ≠ p) W h0 h3 hp hw (by omega) 4000 4000 s t x2 x4 0 0 rfl (by omega) (A.w (fun h => h.elim (fun h => h) (fun h => absurd h (Nat.lt_irrefl 0))))) (fun a ha => ?_)
        have md : ∀ R : Int32 × SS → Prop, Pc (f_X12_aimed_L109 (fun (s13 : SS) (j13_4 : Int32) => (vl (x + 1) fun v14 => (f_X12_aimed_L73 qM a0 a1 2 y3 k s13 j13_4 v14))) a0 a1 2 y3 x 4000 t x4 0) R → Pc (jn (fun (t11_0 : Int32) => (if x < t11_0 then (jn (fun (s13 : SS) (j13_4 : Int32) => (vl (x + 1) fun v14 => (f_X12_aimed_L73 qM a0 a1 2 y3 k s13 j13_4 v14))) fun k13 => (jn ((f_X12_aimed_L109 (fun (s35 : SS) (x35_4 : Int32) => (k13 s35 x35_4)) a0 a1 2 y3 x 4000 t x4 0)) fun k15 => (if (2 : Int32) = (2 : Int32) then (if x = y3 then (k13 t x4) else k15) else k15))) else (qM t x4))) fun k11 => (if (2 : Int32) = (2 : Int32) then (k11 (zS s0 34 9)) else (k11 1))) R := fun R h => Pc_jn (Pc_ift rfl (Pc_ift (by rw [jlt]; exact cx) (Pc_jn (Pc_jn (Pc_ift rfl (Pc_iff (fun h => z h.symm) h))))))
        rcases ha with ha | ⟨u, y4, A', ha⟩
        · refine fun b _ => HP.2 b _ _ md ?_
          rw [ha]
          exact HP.1 b
        · refine Pc_vl (Pc.mono (two_q HP W h0 e9 h3 hp hq n k a.2 u a.1 y4 (x + 1) (by omega) (A'.w (fun _ => trivial))) (fun b hb => HP.2 b _ _ md ?_))
          rw [ha]
          exact hb
    · rcases h with h | ⟨v, h1, h2⟩
      · exact Or.inl h
      · exact Or.inr ⟨v, by omega, h2⟩
theorem two_p {qX : SS → Int32 → Option (Int32 × SS)} {qM : SS → Int32 → Option (Int32 × SS)} {P : Int32 × SS → Option (Int32 × SS) → Prop} {a0 a1 : Int32} {r : Nat} (HP : PCl P) (W : AWt s0 t0 a1.toInt r (zS s0 34 9).toInt) (h0 : a0.toInt = r) (e9 : zS s0 34 9 = zS t0 59 76) (h2 : 2 ≤ (zS s0 34 9).toInt) (hq : ∀ s t x2 x4, ARl 2 True s0 t0 s t x2 x4 → Pc (qX s x2) (fun a => P a (qM t x4))) : ∀ (n k : Nat) (s t : SS) (x2 x4 x : Int32), 0 ≤ x.toInt → ARl 2 (0 < x.toInt) s0 t0 s t x2 x4 → Pc (f_X6_soonestTwo_L5 qX n s x2 x) (fun a => P a (f_X12_aimed_L61 qM a0 a1 2 k t x4 x))
  | 0, _, _, _, _, _, _, _, _ => Pc_none
  | n + 1, 0, _, _, _, _, _, _, _ => fun a _ => HP.1 a
  | n + 1, k + 1, s, t, x2, x4, x, hx, A => by
    have c6 := W.2.2.2.2.2.2.2
    show Pc (f_X6_soonestTwo_L5_b qX (f_X6_soonestTwo_L5 qX n) s x2 x) (fun a => P a (f_X12_aimed_L61_b qM a0 a1 2 (f_X12_aimed_L61 qM a0 a1 2 k) t x4 x))
    unfold f_X6_soonestTwo_L5_b f_X12_aimed_L61_b
    have es : zS s 34 9 = zS s0 34 9 := A.1.1 34 9 rfl
    have et : zS t 59 76 = zS s0 34 9 := (A.2.1.1 59 76 rfl).trans e9.symm
    rw [es, et]
    refine Pc_lt (fun cx => ?_) (fun cx => Pc.mono (hq s t x2 x4 (A.w (fun _ => by omega))) (fun a ha => HP.2 a _ _ (fun R h => Pc_iff (by rw [jlt]; omega) h) ha))
    obtain ⟨p, hp⟩ : ∃ p : Nat, x.toInt = p := ⟨_, (Int.toNat_of_nonneg hx).symm⟩
    have n1 : (x + 1).toInt = x.toInt + 1 := by rw [i32_add (by rw [jl1]; omega) (by rw [jl1]; omega), jl1]
    refine Pc.mono (two_q (qM := fun (s39 : SS) (x39_4 : Int32) => (vl (x + 1) fun v40 => (f_X12_aimed_L61 qM a0 a1 2 k s39 x39_4 v40))) (P := P) (e := 0 < x.toInt) HP W h0 e9 hp (by omega) (fun s' t' y2 y4 A' => ?_) 4000 4000 s t x2 x4 0 (by rw [jl0]; omega) (A.w (fun h => ?_))) (fun a ha => HP.2 a _ _ (fun R h => Pc_ift (by rw [jlt]; exact cx) h) ha)
    · refine Pc_vl (Pc.mono (two_p HP W h0 e9 h2 hq n k s' t' y2 y4 (x + 1) (by omega) (A'.w (fun _ => ?_))) (fun a ha => HP.2 a _ _ (fun R h => Pc_vl h) ha))
      by_cases z : p = 0
      · exact Or.inr ⟨1, by omega, by omega⟩
      · exact Or.inl (by omega)
    · rcases h with h | ⟨v, h1, _⟩
      · exact h
      · rw [jl0] at h1
        omega
/-- places, rock, and what was last aimed at -/
def QAm (s t : SS) : Prop := zS s 34 9 = zS t 59 76 ∧ (0 ≤ (zS s 34 9).toInt ∧ (zS s 34 9).toInt ≤ 6) ∧ (∀ j, zI s 42 j = zI t 113 j) ∧ (∀ i : Nat, i < 6 → (i : Int) < (zS s 34 9).toInt → zI s 41 i = zI t 112 i) ∧ QRk t ∧ zS s 34 14 = zS t 59 79 ∧ (0 ≤ (zS s 34 14).toInt ∧ (zS s 34 14).toInt ≤ 2) ∧ ∀ i : Nat, i < 2 → (i : Int) < (zS s 34 14).toInt → zI s 44 i = zI t 114 i ∧ zI s 45 i = zI t 115 i
theorem V_aimedAt (Q : QAm s t) (a0 a1 : Int32) : Pc (f_X11_aimedAt s a0 a1) fun x => Pc (f_X12_aimedAt t a0 a1) fun m => x = m := by
  obtain ⟨_, _, _, _, _, e14, h14, al⟩ := Q
  unfold f_X11_aimedAt f_X12_aimedAt
  have e : (zS t 59 79 - 1).toInt = (zS s 34 14).toInt - 1 := by rw [← e14, i32_sub (by rw [jl1]; omega) (by rw [jl1]; omega), jl1]
  by_cases c : 0 ≤ a0.toInt ∧ a0.toInt < (zS s 34 14).toInt
  · rw [in_t (a := a0) (by rw [jl0, e]; omega)]
    refine Pc_iff (by rw [jlt, jl0]; omega) (Pc_ift (by rw [jlt]; omega) ?_)
    by_cases d : 0 ≤ a1.toInt ∧ a1.toInt ≤ 1
    · rw [in_t (a := a1) (by rw [jl0, jl1]; exact d)]
      refine Pc_iff (by rw [jlt, jl0]; omega) (Pc_iff (by rw [jlt, jl1]; omega) (Pc_if (fun z => Pc_gd (fun _ => Pc_some (Pc_b1S (Pc_if10 (Pc_b1S (Pc_if10 (Pc_ift z (Pc_gd (fun _ => Pc_some ?_))))))))) (fun z => Pc_gd (fun _ => Pc_some (Pc_b1S (Pc_if10 (Pc_b1S (Pc_if10 (Pc_iff z (Pc_gd (fun _ => Pc_some ?_)))))))))))
      · exact (al _ (by omega) (by omega)).1
      · exact (al _ (by omega) (by omega)).2
    · rw [in_f (a := a1) (by rw [jl0, jl1]; exact d)]
      refine Pc_lt (fun _ => Pc_some (Pc_b1S (Pc_if10 (Pc_b1S (Pc_if00 (Pc_some rfl)))))) (fun z => Pc_lt (fun _ => Pc_some (Pc_b1S (Pc_if10 (Pc_b1S (Pc_if00 (Pc_some rfl)))))) (fun w => ?_))
      rw [jl0] at z
      rw [jl1] at w
      exact absurd ⟨z, w⟩ d
  · rw [in_f (a := a0) (by rw [jl0, e]; omega)]
    refine Pc_lt (fun _ => Pc_some (Pc_b1S (Pc_if00 (Pc_some rfl)))) (fun z => Pc_lt (fun w => ?_) (fun w => Pc_some (Pc_b1S (Pc_if00 (Pc_some rfl)))))
    rw [jl0] at z
    exact absurd ⟨z, w⟩ c
theorem L_aim (Q : QAm s t) (a0 a1 : Int32) : Pc (f_X11_aim s a0 a1) fun x => Pc (f_X12_aim t a0 a1) fun m => x.1 = m.1 ∧ QAm x.2 m.2 := by
  have j31 : (31 : Int32).toInt = 31 := rfl
  have j32 : (32 : Int32).toInt = 32 := rfl
  have j9 : (9 : Int32).toInt = 9 := rfl
  have j6 : (6 : Int32).toInt = 6 := rfl
  obtain ⟨e9, h9, e42, e41, R, e14, h14, al⟩ := id Q
  unfold f_X11_aim f_X12_aim f_X6_aimTold
  by_cases c : 0 ≤ a0.toInt ∧ a0.toInt ≤ 31
  · rw [in_t (a := a0) (by rw [jl0, j31]; exact c)]
    refine Pc_iff (by rw [jlt, jl0]; omega) (Pc_ift (by rw [jlt, j32]; omega) ?_)
    by_cases d : 0 ≤ a1.toInt ∧ a1.toInt ≤ 9
    · rw [in_t (a := a1) (by rw [jl0, j9]; exact d)]
      refine Pc_iff (by rw [jlt, jl0]; omega) (Pc_iff (by rw [jlt, j9]; omega) ?_)
      by_cases g : (zS s 34 9).toInt < 6
      · rw [if_pos (show zS s 34 9 < 6 by rw [jlt, j6]; exact g)]
        refine Pc_bd (Pc_vl (Pc_gd (fun _ => Pc_st (Pc_vl (Pc_st (Pc_some (Pc_some (Pc_b1S (Pc_if10 (Pc_b1S (Pc_if10 (Pc_iff ?_ (Pc_vl (Pc_gd (fun _ => Pc_st (Pc_vl (Pc_st (Pc_some ?_))))))))))))))))))
        · rw [← e9]
          intro z
          rw [z, j6] at g
          omega
        · obtain ⟨K, hK⟩ : ∃ K : Nat, (zS s 34 9).toInt = K := ⟨_, (Int.toNat_of_nonneg h9.1).symm⟩
          have n1 : (zS s 34 9 + 1).toInt = (zS s 34 9).toInt + 1 := by rw [i32_add (by rw [jl1]; omega) (by rw [jl1]; omega), jl1]
          have x9 : zS (pS (pI s 41 (zS s 34 9).toInt.toNat a1) 34 9 (zS (pI s 41 (zS s 34 9).toInt.toNat a1) 34 9 + 1)) 34 9 = zS s 34 9 + 1 := rfl
          have m9 : zS (pS (pI t 112 (zS t 59 76).toInt.toNat a1) 59 76 (zS (pI t 112 (zS t 59 76).toInt.toNat a1) 59 76 + 1)) 59 76 = zS t 59 76 + 1 := rfl
          refine ⟨?_, ?_, ?_, fun j => ?_, fun i hi h => ?_, ⟨fun j => ?_, fun i => ?_⟩, e14, h14, al⟩
          · show zS (pS (pI s 41 (zS s 34 9).toInt.toNat a1) 34 9 (zS (pI s 41 (zS s 34 9).toInt.toNat a1) 34 9 + 1)) 34 9 = zS (pS (pI t 112 (zS t 59 76).toInt.toNat a1) 59 76 (zS (pI t 112 (zS t 59 76).toInt.toNat a1) 59 76 + 1)) 59 76
            rw [x9, m9, e9]
          · show zS (pS (pI s 41 (zS s 34 9).toInt.toNat a1) 34 9 (zS (pI s 41 (zS s 34 9).toInt.toNat a1) 34 9 + 1)) 34 9 = zS (pS (pI t 112 (zS t 59 76).toInt.toNat a1) 59 76 (zS (pI t 112 (zS t 59 76).toInt.toNat a1) 59 76 + 1)) 59 76
            rw [x9, m9, e9]
          · show 0 ≤ (zS (pS (pI s 41 (zS s 34 9).toInt.toNat a1) 34 9 (zS (pI s 41 (zS s 34 9).toInt.toNat a1) 34 9 + 1)) 34 9).toInt ∧ (zS (pS (pI s 41 (zS s 34 9).toInt.toNat a1) 34 9 (zS (pI s 41 (zS s 34 9).toInt.toNat a1) 34 9 + 1)) 34 9).toInt ≤ 6
            rw [x9, n1]
            omega
          · exact e42 j
          · have h' : (i : Int) < (zS s 34 9 + 1).toInt := h
            show zI (pI s 41 (zS s 34 9).toInt.toNat a1) 41 i = zI (pI t 112 (zS t 59 76).toInt.toNat a1) 112 i
            rw [← e9, zI_pI, zI_pI]
            by_cases z : i = (zS s 34 9).toInt.toNat
            · rw [if_pos ⟨rfl, z⟩, if_pos ⟨rfl, z⟩]
            · rw [if_neg (fun w => z w.2), if_neg (fun w => z w.2)]
              exact e41 i hi (by omega)
          · exact R.1 j
          · show 0 ≤ (zI (pI t 112 (zS t 59 76).toInt.toNat a1) 112 i).toInt ∧ (zI (pI t 112 (zS t 59 76).toInt.toNat a1) 112 i).toInt ≤ 9
            rw [zI_pI]
            by_cases z : 112 = 112 ∧ i = (zS t 59 76).toInt.toNat
            · rw [if_pos z]; exact d
            · rw [if_neg z]; exact R.2 i
      · rw [if_neg (show ¬ zS s 34 9 < 6 by rw [jlt, j6]; exact g)]
        refine Pc_bdS (Pc_some (Pc_b1S (Pc_if10 (Pc_b1S (Pc_if10 (Pc_ift ?_ (Pc_some ⟨rfl, Q⟩)))))))
        rw [← e9]
        exact Int32.toInt_inj.1 (by rw [j6]; omega)
    · rw [in_f (a := a1) (by rw [jl0, j9]; exact d)]
      refine Pc_lt (fun _ => Pc_some (Pc_b1S (Pc_if10 (Pc_b1S (Pc_if00 (Pc_some ⟨rfl, Q⟩)))))) (fun z => Pc_lt (fun _ => Pc_some (Pc_b1S (Pc_if10 (Pc_b1S (Pc_if00 (Pc_some ⟨rfl, Q⟩)))))) (fun w => ?_))
      rw [jl0] at z
      rw [j9] at w
      exact absurd ⟨z, w⟩ d
  · rw [in_f (a := a0) (by rw [jl0, j31]; exact c)]
    refine Pc_lt (fun _ => Pc_some (Pc_b1S (Pc_if00 (Pc_some ⟨rfl, Q⟩)))) (fun z => Pc_lt (fun w => ?_) (fun w => Pc_some (Pc_b1S (Pc_if00 (Pc_some ⟨rfl, Q⟩)))))
    rw [jl0] at z
    rw [j32] at w
    exact absurd ⟨z, by omega⟩ c
theorem L_rock (Q : QAm s t) (a0 a1 a2 : Int32) : Pc (f_X11_rock s a0 a1 a2) fun x => Pc (f_X12_rock t a0 a1 a2) fun m => x.1 = m.1 ∧ QAm x.2 m.2 := by
  have j3 : (3 : Int32).toInt = 3 := rfl
  have j4 : (4 : Int32).toInt = 4 := rfl
  have j5 : (5 : Int32).toInt = 5 := rfl
  have j6 : (6 : Int32).toInt = 6 := rfl
  have j9 : (9 : Int32).toInt = 9 := rfl
  obtain ⟨e9, h9, e42, e41, R, e14, h14, al⟩ := id Q
  unfold f_X11_rock f_X12_rock
  by_cases c : 0 ≤ a0.toInt ∧ a0.toInt ≤ 3
  · rw [in_t (a := a0) (by rw [jl0, j3]; exact c)]
    refine Pc_iff (by rw [jlt, jl0]; omega) (Pc_ift (by rw [jlt, j4]; omega) ?_)
    by_cases d : 0 ≤ a1.toInt ∧ a1.toInt ≤ 5
    · rw [in_t (a := a1) (by rw [jl0, j5]; exact d)]
      refine Pc_iff (by rw [jlt, jl0]; omega) (Pc_ift (by rw [jlt, j6]; omega) ?_)
      by_cases g : 1 ≤ a2.toInt ∧ a2.toInt ≤ 9
      · rw [in_t (a := a2) (by rw [jl1, j9]; exact g), Int32.mul_comm 6 a0]
        refine Pc_iff (by rw [jlt, jl1]; omega) (Pc_iff (by rw [jlt, j9]; omega) (Pc_vl (Pc_gd (fun _ => Pc_vl (Pc_gd (fun _ => Pc_st (Pc_some (Pc_b1S (Pc_if10 (Pc_b1S (Pc_if10 (Pc_b1S (Pc_if10 (Pc_vl (Pc_gd (fun _ => Pc_vl (Pc_vl (Pc_gd (fun _ => Pc_st (Pc_some ?_))))))))))))))))))))
        generalize (a0 * 6 + a1).toInt.toNat = J
        refine ⟨e42 J, e9, h9, fun j => ?_, e41, ⟨fun j => ?_, R.2⟩, e14, h14, al⟩
        · show zI (pI s 42 J a2) 42 j = zI (pI t 113 J a2) 113 j
          rw [zI_pI, zI_pI]
          by_cases z : j = J
          · rw [if_pos ⟨rfl, z⟩, if_pos ⟨rfl, z⟩]
          · rw [if_neg (fun w => z w.2), if_neg (fun w => z w.2)]
            exact e42 j
        · show 1 ≤ (zI (pI t 113 J a2) 113 j).toInt ∧ (zI (pI t 113 J a2) 113 j).toInt ≤ 9
          rw [zI_pI]
          by_cases z : 113 = 113 ∧ j = J
          · rw [if_pos z]; exact g
          · rw [if_neg z]; exact R.1 j
      · rw [in_f (a := a2) (by rw [jl1, j9]; exact g)]
        refine Pc_lt (fun _ => Pc_some (Pc_b1S (Pc_if10 (Pc_b1S (Pc_if10 (Pc_b1S (Pc_if00 (Pc_some ⟨rfl, Q⟩)))))))) (fun z => Pc_lt (fun _ => Pc_some (Pc_b1S (Pc_if10 (Pc_b1S (Pc_if10 (Pc_b1S (Pc_if00 (Pc_some ⟨rfl, Q⟩)))))))) (fun w => ?_))
        rw [jl1] at z
        rw [j9] at w
        exact absurd ⟨z, w⟩ g
    · rw [in_f (a := a1) (by rw [jl0, j5]; exact d)]
      refine Pc_lt (fun _ => Pc_some (Pc_b1S (Pc_if10 (Pc_b1S (Pc_if00 (Pc_some ⟨rfl, Q⟩)))))) (fun z => Pc_lt (fun w => ?_) (fun w => Pc_some (Pc_b1S (Pc_if10 (Pc_b1S (Pc_if00 (Pc_some ⟨rfl, Q⟩)))))))
      rw [jl0] at z
      rw [j6] at w
      exact absurd ⟨z, by omega⟩ d
  · rw [in_f (a := a0) (by rw [jl0, j3]; exact c)]
    refine Pc_lt (fun _ => Pc_some (Pc_b1S (Pc_if00 (Pc_some ⟨rfl, Q⟩)))) (fun z => Pc_lt (fun w => ?_) (fun w => Pc_some (Pc_b1S (Pc_if00 (Pc_some ⟨rfl, Q⟩)))))
    rw [jl0] at z
    rw [j4] at w
    exact absurd ⟨z, by omega⟩ c
/-- what aimed answers and leaves -/
def AEnd (a : Int32 × SS) (K : Option (Int32 × SS)) : Prop := Pc K (fun m => a.1 = m.1 ∧ QAm a.2 m.2)
theorem AEnd_cl : PCl AEnd := ⟨fun _ => Pc_none, fun _ _ _ h hK => h _ hK⟩
theorem L_aimed (S0 : Sh s) (hp0 : ∀ m, m < 3 → zS s (20 + m) 0 = zI t 78 m) (h78 : ∀ m, m < 3 → 0 ≤ (zI t 78 m).toInt ∧ (zI t 78 m).toInt ≤ 60) (Q : QAm s t) (a0 a1 a2 : Int32) : Pc (f_X11_aimed s a0 a1 a2) fun x => Pc (f_X12_aimed t a0 a1 a2) fun m => x.1 = m.1 ∧ QAm x.2 m.2 := by
  have j4 : (4 : Int32).toInt = 4 := rfl
  have j2 : (2 : Int32).toInt = 2 := rfl
  have j60 : (60 : Int32).toInt = 60 := rfl
  obtain ⟨e9, h9, e42, e41, R, e14, h14, al⟩ := id Q
  unfold f_X11_aimed f_X12_aimed f_X11_isYard
  by_cases c : 1 ≤ a0.toInt ∧ a0.toInt ≤ 4
  · rw [in_t (a := a0) (by rw [jl1, j4]; exact c)]
    refine Pc_iff (by rw [jlt, jl1]; omega) (Pc_iff (by rw [jlt, j4]; omega) ?_)
    by_cases d : 1 ≤ a1.toInt ∧ a1.toInt ≤ 60
    · rw [in_t (a := a1) (by rw [jl1, j60]; exact d), if_neg (show ¬ a1 < 1 by rw [jlt, jl1]; omega), if_neg (show ¬ 60 < a1 by rw [jlt, j60]; omega)]
      refine Pc_b1S (Pc_if10 ?_)
      by_cases g : 1 ≤ a2.toInt ∧ a2.toInt ≤ 2
      · rw [in_t (a := a2) (by rw [jl1, j2]; exact g)]
        refine Pc_iff (by rw [jlt, jl1]; omega) (Pc_iff (by rw [jlt, j2]; omega) ?_)
        rw [← e9]
        refine Pc_if (fun z => Pc_some (Pc_b1S (Pc_if10 (Pc_b1S (Pc_if10 (Pc_b1S (Pc_if10 (Pc_ift z (Pc_some ⟨rfl, Q⟩))))))))) (fun z9 => ?_)
        have p9 : 0 < (zS s 34 9).toInt := by
          rcases Int.lt_or_eq_of_le h9.1 with w | w
          · exact w
          · exact absurd (Int32.toInt_inj.1 (by rw [← w]; rfl)) z9
        obtain ⟨r, hr⟩ : ∃ r : Nat, a0.toInt = r := ⟨_, (Int.toNat_of_nonneg (by omega)).symm⟩
        -- behind the weights
        have wg : Pc (f_X6_weighPlaces s a0 a1) (fun u => Frm [] [43] [] s u ∧ WGh t a1.toInt r (zS s 34 9).toInt u) := by
          unfold f_X6_weighPlaces
          exact wghL R e42 e41 h9.2 hr (by omega) d 4000 s 0 (by rw [jl0]; omega) Frm.rf (fun i _ h => by rw [jl0] at h; omega)
        have AW : ∀ u, Frm [] [43] [] s u → WGh t a1.toInt r (zS s 34 9).toInt u → AWt u t a1.toInt r (zS u 34 9).toInt ∧ zS u 34 9 = zS t 59 76 := fun u F w => by
          have e : zS u 34 9 = zS s 34 9 := F.1 34 9 rfl
          rw [e]
          exact ⟨⟨F.Sh_ S0, R, h78, fun m hm => (F.1 (20 + m) 0 rfl).trans (hp0 m hm), w, d, by omega, h9.2⟩, e9⟩
        -- behind the choice
        have ke : ∀ (K : Nat) (v : Int32) (u s' t' : SS) (x2 x4 : Int32), v.toInt = K → 1 ≤ K → K ≤ 2 → Frm [] [43] [] s u → ARl K True u t s' t' x2 x4 → AEnd (x2, pS (pS s' 34 14 v) 34 9 0) (some (x4, pS (pS t' 59 79 v) 59 76 0)) := fun K v u s' t' x2 x4 hv k1 k2 F A => by
          obtain ⟨F1, F2, z | ⟨z1, z2, z3⟩⟩ := A
          · exact absurd trivial z.1
          · refine Pc_some ⟨z1, rfl, ⟨by show (0 : Int) ≤ (0 : Int32).toInt; rw [jl0]; omega, by show (0 : Int32).toInt ≤ (6 : Int); rw [jl0]; omega⟩, fun j => ?_, fun i _ h => ?_, ⟨fun j => ?_, fun i => ?_⟩, rfl, ?_, fun i hi h => ?_⟩
            · show zI s' 42 j = zI t' 113 j
              rw [F1.2.1 42 j rfl, F.2.1 42 j rfl, F2.2.1 113 j rfl]
              exact e42 j
            · exfalso
              have h' : (i : Int) < (0 : Int32).toInt := h
              rw [jl0] at h'
              omega
            · show 1 ≤ (zI t' 113 j).toInt ∧ (zI t' 113 j).toInt ≤ 9
              rw [F2.2.1 113 j rfl]
              exact R.1 j
            · show 0 ≤ (zI t' 112 i).toInt ∧ (zI t' 112 i).toInt ≤ 9
              rw [F2.2.1 112 i rfl]
              exact R.2 i
            · show 0 ≤ v.toInt ∧ v.toInt ≤ 2
              omega
            · have h' : (i : Int) < v.toInt := h
              exact z3 i (by omega)
        have A0 : ∀ (K : Nat) (u : SS), ARl K (0 < (0 : Int32).toInt) u t u t 1000000000 2147483647 := fun K u => ⟨Frm.rf, Frm.rf, Or.inl ⟨by rw [jl0]; omega, rfl, rfl⟩⟩
        -- the reference's head
        have hd : ∀ (K : Option (Int32 × SS)) (Rr : Int32 × SS → Prop), (a2 = 2 → 2 ≤ (zS s 34 9).toInt) → Pc K Rr → Pc (b1 (some (1 : Int32)) fun r1 => (if r1 = (0 : Int32) then some ((-1), t) else (b1 (some (1 : Int32)) fun r3 => (if r3 = (0 : Int32) then some ((-1), t) else (b1 (some (1 : Int32)) fun r5 => (if r5 = (0 : Int32) then some ((-1), t) else (if zS s 34 9 = (0 : Int32) then some ((-1), t) else (jn K fun k8 => (if a2 = (2 : Int32) then (if zS s 34 9 < (2 : Int32) then some ((-2), t) else k8) else k8))))))))) Rr := fun K Rr h k => Pc_b1S (Pc_if10 (Pc_b1S (Pc_if10 (Pc_b1S (Pc_if10 (Pc_iff z9 (Pc_jn (Pc_if (fun q => Pc_iff (by rw [jlt, j2]; have := h q; omega) k) (fun _ => k)))))))))
        refine Pc_jn ?_
        by_cases q : a2 = 2
        · refine Pc_ift q (Pc_if (fun w => Pc_some (Pc_b1S (Pc_if10 (Pc_b1S (Pc_if10 (Pc_b1S (Pc_if10 (Pc_iff z9 (Pc_jn (Pc_ift q (Pc_ift w (Pc_some ⟨rfl, Q⟩)))))))))))) (fun w => ?_))
          have w2 : 2 ≤ (zS s 34 9).toInt := by rw [jlt, j2] at w; omega
          refine Pc_b1 (Pc.mono wg (fun u hu => Pc_jn (Pc_iff (by rw [q]; decide) (Pc_bd ?_))))
          obtain ⟨W, ew⟩ := AW u hu.1 hu.2
          have eu : zS u 34 9 = zS s 34 9 := hu.1.1 34 9 rfl
          unfold f_X6_soonestTwo
          refine Pc.mono (two_p (qM := fun (s41 : SS) (x41_4 : Int32) => (st (pS s41 59 79 2) fun s42 => (st (pS s42 59 76 0) fun s43 => some (x41_4, s43)))) (P := fun a K => AEnd (a.1, pS a.2 34 9 0) K) ⟨fun _ => AEnd_cl.1 _, fun _ => AEnd_cl.2 _⟩ W hr ew (by rw [eu]; exact w2) (fun s' t' x2 x4 A => Pc_st (Pc_some (Q := fun (a : Int32 × SS) => AEnd (a.1, pS a.2 34 9 0) (st (pS t' 59 79 2) fun s42 => st (pS s42 59 76 0) fun s43 => some (x4, s43))) (ke 2 2 u s' t' x2 x4 rfl (by omega) (by omega) hu.1 A))) 4000 4000 u t 1000000000 2147483647 0 (by rw [jl0]; omega) (A0 2 u)) (fun a ha => Pc_st (Pc_some ?_))
          refine hd _ _ (fun _ => w2) ?_
          rw [q]
          exact ha
        · have q1 : a2 = 1 := Int32.toInt_inj.1 (by rw [jl1]; have : a2.toInt ≠ 2 := fun h => q (Int32.toInt_inj.1 h); omega)
          refine Pc_iff q (Pc_b1 (Pc.mono wg (fun u hu => Pc_jn (Pc_ift q1 (Pc_bd ?_)))))
          obtain ⟨W, ew⟩ := AW u hu.1 hu.2
          have eu : zS u 34 9 = zS s 34 9 := hu.1.1 34 9 rfl
          unfold f_X6_soonestOne
          refine Pc.mono (one_p (qM := fun (s41 : SS) (x41_4 : Int32) => (st (pS s41 59 79 1) fun s42 => (st (pS s42 59 76 0) fun s43 => some (x41_4, s43)))) (P := fun a K => AEnd (a.1, pS a.2 34 9 0) K) ⟨fun _ => AEnd_cl.1 _, fun _ => AEnd_cl.2 _⟩ W hr ew (fun s' t' x2 x4 A => Pc_st (Pc_some (Q := fun (a : Int32 × SS) => AEnd (a.1, pS a.2 34 9 0) (st (pS t' 59 79 1) fun s42 => st (pS s42 59 76 0) fun s43 => some (x4, s43))) (ke 1 1 u s' t' x2 x4 rfl (by omega) (by omega) hu.1 (A.w (fun _ => by rw [eu]; exact p9))))) 4000 4000 u t 1000000000 2147483647 0 (by rw [jl0]; omega) (A0 1 u)) (fun a ha => Pc_st (Pc_some ?_))
          refine hd _ _ (fun h => absurd h q) ?_
          rw [q1]
          exact ha
      · rw [in_f (a := a2) (by rw [jl1, j2]; exact g)]
        refine Pc_lt (fun _ => Pc_some (Pc_b1S (Pc_if10 (Pc_b1S (Pc_if10 (Pc_b1S (Pc_if00 (Pc_some ⟨rfl, Q⟩)))))))) (fun z => Pc_lt (fun _ => Pc_some (Pc_b1S (Pc_if10 (Pc_b1S (Pc_if10 (Pc_b1S (Pc_if00 (Pc_some ⟨rfl, Q⟩)))))))) (fun w => ?_))
        rw [jl1] at z
        rw [j2] at w
        exact absurd ⟨z, w⟩ g
    · rw [in_f (a := a1) (by rw [jl1, j60]; exact d)]
      have E : Pc (if a1 < (1 : Int32) then some (0 : Int32) else (if (60 : Int32) < a1 then some 0 else some 1)) (fun v => v = 0) := Pc_lt (fun _ => Pc_some rfl) (fun z => Pc_lt (fun _ => Pc_some rfl) (fun w => absurd ⟨by rw [jl1] at z; exact z, by rw [j60] at w; exact w⟩ d))
      exact Pc_b1 (Pc.mono E (fun v hv => Pc_ift hv (Pc_some (Pc_b1S (Pc_if10 (Pc_b1S (Pc_if00 (Pc_some ⟨rfl, Q⟩))))))))
  · rw [in_f (a := a0) (by rw [jl1, j4]; exact c)]
    refine Pc_lt (fun _ => Pc_some (Pc_b1S (Pc_if00 (Pc_some ⟨rfl, Q⟩)))) (fun z => Pc_lt (fun _ => Pc_some (Pc_b1S (Pc_if00 (Pc_some ⟨rfl, Q⟩)))) (fun w => ?_))
    rw [jl1] at z
    rw [j4] at w
    exact absurd ⟨z, w⟩ c
end AMs
