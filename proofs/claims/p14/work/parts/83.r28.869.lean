/-! a text: lines with semicolons between -/
def clL (ls : List (Option (List Int32) × List Int32)) : List Int32 := ls.flatMap (fun p => pre p.1 ++ p.2 ++ [-24])
def mlL (ls : List (Option (List Int32) × List Int32)) : List Int32 := ls.flatMap (fun p => tst p.1 ++ p.2)
theorem clL_add {ls : List (Option (List Int32) × List Int32)} {p : Option (List Int32) × List Int32} : clL (ls ++ [p]) = clL ls ++ (pre p.1 ++ p.2 ++ [-24]) := by unfold clL; rw [List.flatMap_append]; simp
theorem mlL_add {ls : List (Option (List Int32) × List Int32)} {p : Option (List Int32) × List Int32} : mlL (ls ++ [p]) = mlL ls ++ (tst p.1 ++ p.2) := by unfold mlL; rw [List.flatMap_append]; simp
/-- what was read since s0, t0: the lines ls -/
def TxI (E : Nat → List Int32 → Prop) (s0 t0 s t : SS) (ls : List (Option (List Int32) × List Int32)) : Prop := (∃ s2, s = emX s2 (-24) ∧ Rd s2 t 0 ∧ 2 * (ls.length : Int) ≤ xa s2 + 1) ∧ Em s0 s (clL ls) ∧ Ly t0 t (mlL ls) ∧ (zI t 90 (mr t0).toNat).toInt = ls.length ∧ 1 ≤ ls.length ∧ (∀ p, p ∈ ls → (∀ l, p.1 = some l → E 46 l ∧ 1 ≤ l.length) ∧ E 46 p.2 ∧ 1 ≤ p.2.length) ∧ (∀ (i : Nat) p, ls[i]? = some p → (zI t 91 (90 * mr t0 + i).toNat).toInt = (mlL (ls.take i)).length + (tst p.1).length ∧ (zI t 92 (90 * mr t0 + i).toNat).toInt = (mlL (ls.take (i + 1))).length) ∧ ∀ j : Nat, j ≠ (mr t0).toNat → zI t 90 j = zI t0 90 j
/-- the start of a text, both sides -/
def T0r (s0 t0 : SS) : Prop := Rd s0 t0 0 ∧ xz s0 = 0 ∧ ml t0 = 0 ∧ xa s0 = 0 ∧ zI t0 90 (mr t0).toNat = 0
theorem av_em {s : SS} {c : Int32} : avX (emX s c) = emX (avX s) c := by
  have e1 : zS (emX s c) 24 4 = zS s 24 4 := by unfold emX; rw [zS_pS, if_neg (by omega), zS_pI]
  show pS (emX s c) 24 4 (zS (emX s c) 24 4 + 1) = _
  rw [e1]
  show (up2 (up2 s.1 24 3 (zS s 24 3 + 1)) 24 4 (zS s 24 4 + 1), _) = (up2 (up2 s.1 24 4 (zS s 24 4 + 1)) 24 3 (zS (avX s) 24 3 + 1), _)
  rw [avX_S (by omega)]
  congr 1
  funext q k
  unfold up2
  by_cases h1 : q = 24 ∧ k = 4
  · rw [if_pos h1, if_neg (by omega), if_pos h1]
  · rw [if_neg h1]
    by_cases h2 : q = 24 ∧ k = 3
    · rw [if_pos h2, if_pos h2]
    · rw [if_neg h2, if_neg h2, if_neg h1]
theorem takes_e {s t : SS} {d k c : Int32} (G : Rd s t d) (hk : 0 ≤ k.toInt) : f_X7_takes (emX s c) k = if cuX s = k then some (1, avX (emX s c)) else some (0, emX s c) := by
  have e4 : zS (emX s c) 24 4 = zS s 24 4 := by unfold emX; rw [zS_pS, if_neg (by omega), zS_pI]
  have e1 : zS (emX s c) 24 1 = zS s 24 1 := PkX.em.n
  have e5 : zS (emX s c) 24 5 = zS s 24 5 := by unfold emX; rw [zS_pS, if_neg (by omega), zS_pI]
  have ei : ∀ i, zI (emX s c) 25 i = zI s 25 i := fun i => PkX.em.2.1 25 i (by omega)
  have h := takes_g G hk
  obtain ⟨⟨_, hn, tp⟩, e2, _, _, ha, _⟩ := G
  unfold xa xn at ha
  unfold xn at hn
  unfold f_X7_takes
  rw [e5, if_pos (by rw [e2]; decide), e4, e1]
  unfold cuX
  by_cases h : zS s 24 4 < zS s 24 1
  · rw [if_pos h, if_pos h, vl]
    rw [jlt] at h
    rw [gd_t ⟨by omega, by omega⟩, ei]
    by_cases z : zI s 25 (zS s 24 4).toInt.toNat = k
    · rw [if_pos z, if_pos z, vl, st]
      show _ = some (1, pS (emX s c) 24 4 (zS (emX s c) 24 4 + 1))
      rw [e4]
    · rw [if_neg z, if_neg z]
  · rw [if_neg h, if_neg h, if_neg (fun z => by rw [← z] at hk; exact absurd hk (by decide))]
/-- the ends of both loops: the class's q, the reference's r -/
theorem txt_l {E : Nat → List Int32 → Prop} (HE : EC E) {s0 t0 : SS} (H0 : T0r s0 t0) {y1 y2 : Int32} {q : SS → Option (Int32 × SS)} {r : SS → Option (Int32 × SS)} : ∀ (n : Nat) (s t : SS) (x : Int32) (ls : List (Option (List Int32) × List Int32)), TxI E s0 t0 s t ls → PkX s0 s → PkR t0 t → 0 ≤ x.toInt → x.toInt + 1 ≤ ls.length → 200 - 2 * (ls.length : Int) < n → ∃ s' t', f_X7_compiled_L21 q n s x = q s' ∧ f_X12_text_L77 r y1 y2 n t = r t' ∧ PkX s0 s' ∧ PkR t0 t' ∧ ((∃ ls', TxI E s0 t0 s' t' ls' ∧ ∀ s2, s' = emX s2 (-24) → Rd s2 t' 0 → ¬ cuX s2 = 59) ∨ Stk s0 t0 s' t')
  | 0, s, t, x, ls, I, _, _, _, _, hn => by
    obtain ⟨⟨s2, e, G, h⟩, _⟩ := I
    have := G.2.2.2.2.1
    have := G.1.2.1
    omega
  | n + 1, s, t, x, ls, I, PX, PR, hx0, hx1, hn => by
    obtain ⟨⟨s2, es, G, hk⟩, em, ly, e90, hl1, hE, htab, h90⟩ := I
    have ha := G.2.2.2.2.1
    have h160 := G.1.2.1
    have gz := G.2.2.2.2.2.2.1
    have gl := G.2.2.2.2.2.2.2.1
    have gr := G.2.2.2.2.2.2.2.2
    have er : mr t = mr t0 := by unfold mr; rw [PR.1 59 50 (by omega)]
    rw [f_X7_compiled_L21, f_X7_compiled_L21_b, f_X12_text_L77, f_X12_text_L77_b, if_pos (by rw [jlt, j160]; omega), if_pos (show zS t 59 48 < 0 from by rw [G.2.2.1]; decide), G.look, b1_some, es, takes_e G (by decide)]
    by_cases c : cuX s2 = 59
    · have cm : cuM t = 59 := (G.ch (by decide)).1 c
      have lt := (G.lt (by decide) c).2
      obtain ⟨G1, ea1⟩ := G.av lt
      rw [if_pos c, bd_some, if_neg (by decide), if_pos cm, vl, st, show pS t 59 47 (zS t 59 47 + 1) = avM t from rfl, av_em]
      have ez1 : xz (avX s2) = xz s2 := by unfold xz; rw [avX_S (by omega)]
      have el1 : ml (avM t) = ml t := by unfold ml; rw [avM_S (by omega)]
      have er1 : mr (avM t) = mr t := by unfold mr; rw [avM_S (by omega)]
      have hz1 : 0 ≤ xz (avX s2) ∧ xz (avX s2) < 161 := by rw [ez1]; omega
      have ea : xa (emX (avX s2) (-24)) = xa (avX s2) := by unfold xa emX; rw [zS_pS, if_neg (by omega), zS_pI]
      have G3 : Rd (emX (avX s2) (-24)) (avM t) 0 := by
        obtain ⟨T, e2, e3, e4, ha, ho, hz, hl, hr⟩ := G1
        have en : xn (emX (avX s2) (-24)) = xn (avX s2) := by unfold xn; rw [PkX.em.n]
        refine ⟨T.c PkX.em PkM.rf, ?_, e3, ?_, by rw [ea, en]; exact ha, ho, ?_, by rw [ea]; exact hl, hr⟩
        · unfold emX; rw [zS_pS, if_neg (by omega), zS_pI]; exact e2
        · unfold emX; rw [zS_pS, if_neg (by omega), zS_pI]; exact e4
        · rw [ea, (Em.one (c := -24) hz1).1, ez1, ea1]
          have : (([-24] : List Int32).length : Int) = 1 := rfl
          omega
      have k90 : zI (avM t) 90 (mr (avM t)).toNat = zI t 90 (mr t0).toNat := by rw [er1, er]; rfl
      obtain ⟨s5, t5, eX, eM, P5, Q5, O⟩ := line_l HE G3 (by rw [k90, e90, ea, ea1]; omega)
      rw [eX, b1_some, eM, b1_some, vl]
      have PX5 : PkX s0 s5 := by
        have h1 : PkX s (emX (avX s2) (-24)) := by rw [es, ← av_em]; exact PkX.av
        exact PX.tr (h1.tr P5)
      have PR5 : PkR t0 t5 := PR.tr (PkM.av.R.tr Q5)
      have xx : (x + 1).toInt = x.toInt + 1 := by rw [i32_add (by rw [jl1]; omega) (by rw [jl1]; omega), jl1]
      rcases O with ⟨T, V, hT, hV, hV1, s6, e6, G6, em6, ly6, xa6, n90, n91, n92, o90, o9⟩ | sk
      · have hTx : TxI E s0 t0 s5 t5 (ls ++ [(T, V)]) := by
          have gz6 := G6.2.2.2.2.2.2.1
          have ha6 := G6.2.2.2.2.1
          have h6 := G6.1.2.1
          rw [er1, er] at n90 n91 n92 o90 o9
          have kk : zI (avM t) 90 (mr t0).toNat = zI t 90 (mr t0).toNat := rfl
          rw [kk] at n90 n91 n92 o9
          rw [e90] at n91 n92 o9
          have xm : xa (emX (avX s2) (-24)) = xa s2 + 1 := by rw [ea, ea1]
          have l0 : ml t = (mlL ls).length := by rw [ly.1, H0.2.2.1]; omega
          refine ⟨⟨s6, e6, G6, ?_⟩, ?_, ?_, ?_, ?_, ?_, ?_, ?_⟩
          · rw [List.length_append]
            rw [xm] at xa6
            show 2 * ((ls.length + 1 : Nat) : Int) ≤ _
            omega
          · rw [clL_add, e6]
            have h1 : Em s0 (emX (avX s2) (-24)) (clL ls) := by
              have a1 : Em s (avX s) [] := Em.av
              have a2 := em.tr (by rw [H0.2.1]; omega) a1
              rw [List.append_nil, es, av_em] at a2
              exact a2
            have h2 := (h1.tr (by rw [H0.2.1]; omega) em6).tr (by rw [H0.2.1]; omega) (Em.one (s := s6) (c := -24) ⟨gz6.1, by omega⟩)
            rw [List.append_assoc] at h2
            exact h2
          · rw [mlL_add]
            have h1 : Ly t (avM t) [] := Ly.av
            have h2 := (ly.tr (by rw [H0.2.2.1]; omega) H0.1.2.2.2.2.2.2.2.2.1 er h1).tr (by rw [H0.2.2.1]; omega) H0.1.2.2.2.2.2.2.2.2.1 (by rw [er1, er]) ly6
            rw [List.append_nil] at h2
            exact h2
          · rw [n90, List.length_append]
            rw [i32_add (by rw [jl1, e90]; omega) (by rw [jl1, e90]; omega), jl1, e90]
            rfl
          · rw [List.length_append]; omega
          · intro p hp
            rcases List.mem_append.1 hp with h | h
            · exact hE p h
            · rw [List.mem_singleton] at h
              rw [h]
              exact ⟨hT, hV, hV1⟩
          · intro i p hp
            rw [List.getElem?_append] at hp
            by_cases hi : i < ls.length
            · rw [if_pos hi] at hp
              obtain ⟨h1, h2⟩ := htab i p hp
              rw [List.take_append_of_le_length (by omega), List.take_append_of_le_length (by omega)]
              have hh := o9 (90 * mr t0 + i).toNat (by omega)
              rw [hh.1, hh.2]
              exact ⟨h1, h2⟩
            · rw [if_neg hi] at hp
              have hi2 : i = ls.length := by
                cases hq : i - ls.length with
                | zero => omega
                | succ j => rw [hq] at hp; simp at hp
              subst hi2
              rw [Nat.sub_self] at hp
              have hp2 : (T, V) = p := by simpa using hp
              subst hp2
              rw [List.take_append_of_le_length (Nat.le_refl _), List.take_length, List.take_of_length_le (by rw [List.length_append]; simp), mlL_add]
              refine ⟨?_, ?_⟩
              · rw [n91, el1, l0]
              · have e := ly6.1
                rw [n92, e, el1, l0, List.length_append (as := mlL ls)]
                have hv : ((tst (T, V).1 ++ (T, V).2).length : Int) = (tst T ++ V).length := rfl
                omega
          · intro j hj
            rw [o90 j hj]
            exact h90 j hj
        exact txt_l HE H0 n s5 t5 (x + 1) (ls ++ [(T, V)]) hTx PX5 PR5 (by omega) (by rw [xx, List.length_append]; show _ ≤ ((ls.length + 1 : Nat) : Int); omega) (by rw [List.length_append]; show 200 - 2 * ((ls.length + 1 : Nat) : Int) < _; omega)
      · obtain ⟨p, hp, sx, sm, zr⟩ := sk
        obtain ⟨n', hn'⟩ : ∃ n', n = n' + 1 := ⟨n - 1, by omega⟩
        refine ⟨s5, t5, ?_, ?_, PX5, PR5, Or.inr (Stk.fr (s := emX (avX s2) (-24)) (t := avM t) (t' := t5) ⟨p, hp, sx, sm, zr⟩ ?_ (fun _ => rfl))⟩
        · rw [hn', f_X7_compiled_L21, f_X7_compiled_L21_b]
          by_cases z : x + 1 < 160
          · rw [if_pos z, sx.takes hp (by decide), bd_some, if_pos rfl]
          · rw [if_neg z]
        · rw [hn', f_X12_text_L77, f_X12_text_L77_b, if_neg (by rw [sm, jlt, jl0]; omega)]
        · have h1 := H0.1.mh
          have h2 := G3.mh
          rw [ea, ea1] at h2
          rw [el1, H0.2.2.1, h1, h2, H0.2.2.2.1]
          omega
    · have cm : ¬ cuM t = 59 := fun z => c ((G.ch (by decide)).2 z)
      rw [if_neg c, bd_some, if_pos rfl, if_neg cm]
      refine ⟨emX s2 (-24), t, rfl, rfl, by rw [← es]; exact PX, PR, Or.inl ⟨ls, ⟨⟨s2, rfl, G, hk⟩, by rw [← es]; exact em, ly, e90, hl1, hE, htab, h90⟩, fun s3 e3 G3 => ?_⟩⟩
      have e4 : zS s3 24 4 = zS s2 24 4 := by
        have h1 : zS (emX s2 (-24)) 24 4 = zS s2 24 4 := by unfold emX; rw [zS_pS, if_neg (by omega), zS_pI]
        have h2 : zS (emX s3 (-24)) 24 4 = zS s3 24 4 := by unfold emX; rw [zS_pS, if_neg (by omega), zS_pI]
        rw [← h2, ← e3, h1]
      have e1 : zS s3 24 1 = zS s2 24 1 := by rw [← PkX.em.n (s := s3), ← e3, PkX.em.n]
      have ei : ∀ i, zI s3 25 i = zI s2 25 i := fun i => by rw [← (PkX.em (s := s3) (c := -24)).2.1 25 i (by omega), ← e3, PkX.em.2.1 25 i (by omega)]
      unfold cuX at c ⊢
      rw [e4, e1, ei]
      exact c
