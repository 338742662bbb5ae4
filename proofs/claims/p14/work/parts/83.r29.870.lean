/-! a text from its start: the fault, or none -/
def x0T (s : SS) : SS := pS (pS (pS s 24 3 0) 24 4 0) 24 5 (-1)
def m0T (t : SS) : SS := pS (pS (pS (pS (pI (pS t 59 50 (zS t 59 38)) 90 (zS t 59 38).toInt.toNat 0) 59 51 0) 59 47 0) 59 48 (-1)) 59 49 0
theorem x0T_P {s : SS} : PkX s (x0T s) := ⟨fun q k z => by unfold x0T; rw [zS_pS, if_neg (by omega), zS_pS, if_neg (by omega), zS_pS, if_neg (by omega)], fun _ _ _ => rfl, rfl⟩
theorem m0T_S {t : SS} {q k : Nat} (h : ¬ (q = 59 ∧ (k = 47 ∨ k = 48 ∨ k = 49 ∨ k = 50 ∨ k = 51))) : zS (m0T t) q k = zS t q k := by
  unfold m0T
  rw [zS_pS, if_neg (by omega), zS_pS, if_neg (by omega), zS_pS, if_neg (by omega), zS_pS, if_neg (by omega), zS_pI, zS_pS, if_neg (by omega)]
theorem m0T_I {t : SS} {q i : Nat} (h : q ≠ 90) : zI (m0T t) q i = zI t q i := by
  unfold m0T
  rw [zI_pS, zI_pS, zI_pS, zI_pS, zI_pI, if_neg (by omega), zI_pS]
theorem T0r_of {s t : SS} (T : TP s t) (hr : 0 ≤ (zS t 59 38).toInt ∧ (zS t 59 38).toInt ≤ 15) : T0r (x0T s) (m0T t) := by
  have e50 : zS (m0T t) 59 50 = zS t 59 38 := by unfold m0T; rw [zS_pS, if_neg (by omega), zS_pS, if_neg (by omega), zS_pS, if_neg (by omega), zS_pS, if_neg (by omega), zS_pI, zS_pS, if_pos ⟨rfl, rfl⟩]
  have e51 : zS (m0T t) 59 51 = 0 := by unfold m0T; rw [zS_pS, if_neg (by omega), zS_pS, if_neg (by omega), zS_pS, if_neg (by omega), zS_pS, if_pos ⟨rfl, rfl⟩]
  have e47 : zS (m0T t) 59 47 = 0 := by unfold m0T; rw [zS_pS, if_neg (by omega), zS_pS, if_neg (by omega), zS_pS, if_pos ⟨rfl, rfl⟩]
  have e48 : zS (m0T t) 59 48 = -1 := by unfold m0T; rw [zS_pS, if_neg (by omega), zS_pS, if_pos ⟨rfl, rfl⟩]
  have e49 : zS (m0T t) 59 49 = 0 := by unfold m0T; rw [zS_pS, if_pos ⟨rfl, rfl⟩]
  have x3 : zS (x0T s) 24 3 = 0 := by unfold x0T; rw [zS_pS, if_neg (by omega), zS_pS, if_neg (by omega), zS_pS, if_pos ⟨rfl, rfl⟩]
  have x4 : zS (x0T s) 24 4 = 0 := by unfold x0T; rw [zS_pS, if_neg (by omega), zS_pS, if_pos ⟨rfl, rfl⟩]
  have x5 : zS (x0T s) 24 5 = -1 := by unfold x0T; rw [zS_pS, if_pos ⟨rfl, rfl⟩]
  have x1 : zS (x0T s) 24 1 = zS s 24 1 := x0T_P.n
  obtain ⟨a1, a2, a3⟩ := T
  have mr0 : mr (m0T t) = (zS t 59 38).toInt := by unfold mr; rw [e50]
  refine ⟨⟨⟨by rw [x1, m0T_S (by omega)]; exact a1, by unfold xn; rw [x1]; exact a2, fun i hi => by rw [x0T_P.2.1 25 i (by omega), m0T_I (by omega)]; exact a3 i hi⟩, x5, e48, by rw [x4, e47], ?_, e49, ?_, ?_, by rw [mr0]; exact hr⟩, by unfold xz; rw [x3]; rfl, by unfold ml; rw [e51]; rfl, by unfold xa; rw [x4]; rfl, ?_⟩
  · unfold xa xn
    rw [x4, x1, jl0]
    exact ⟨Int.le_refl _, a2.1⟩
  · unfold xz xa
    rw [x3, x4]
    exact ⟨by decide, by decide⟩
  · unfold ml xa
    rw [e51, x4]
    exact ⟨by decide, by decide⟩
  · rw [mr0]
    unfold m0T
    rw [zI_pS, zI_pS, zI_pS, zI_pS, zI_pI, if_pos ⟨rfl, rfl⟩]
theorem comp_l {E : Nat → List Int32 → Prop} (HE : EC E) {s t : SS} (T : TP s t) (hr : 0 ≤ (zS t 59 38).toInt ∧ (zS t 59 38).toInt ≤ 15) (y1 y2 : Int32) (r : SS → Option (Int32 × SS)) : ∃ f s' t', f_X7_compiled s = some (f, s') ∧ (b1 (f_X12_readLine (m0T t)) fun s16 => f_X12_text_L77 r y1 y2 4000 s16) = r t' ∧ PkX s s' ∧ PkR (m0T t) t' ∧ ((f = -1 ∧ zS t' 59 48 = -1 ∧ ¬ zS t' 59 47 < zS t' 59 37 ∧ ∃ ls, TxI E (x0T s) (m0T t) s' t' ls) ∨ (0 ≤ f.toInt ∧ (zS t' 59 48 = f ∨ (zS t' 59 48 = -1 ∧ zS t' 59 47 < zS t' 59 37 ∧ zS t' 59 47 = f)))) := by
  have H0 := T0r_of T hr
  obtain ⟨G0, z1, z2, z3, z4⟩ := id H0
  obtain ⟨s4, t16, eX, eM, P4, Q4, O⟩ := line_l HE G0 (by rw [z4, z3]; exact ⟨by decide, by decide⟩)
  rw [eM, b1_some]
  have fc : f_X7_compiled s = f_X7_compiled_L21 (fun (s11 : SS)  => (if (zS s11 24 5) < (0 : Int32) then (if (zS s11 24 4) < (zS s11 24 1) then (vl ((zS s11 24 4)) fun v14 => (st (pS s11 24 5 v14) fun s15 => some ((zS s15 24 5), s15))) else some ((zS s11 24 5), s11)) else some ((zS s11 24 5), s11))) 4000 s4 0 := by
    unfold f_X7_compiled
    rw [st, st, st, show pS (pS (pS s 24 3 0) 24 4 0) 24 5 (-1) = x0T s from rfl, eX, b1_some]
  rw [fc]
  -- the end with a fault
  have sk : ∀ s' t', Stk (x0T s) (m0T t) s' t' → PkX s s' → PkR (m0T t) t' → ∃ f s'' t'', (if (zS s' 24 5) < (0 : Int32) then (if (zS s' 24 4) < (zS s' 24 1) then (vl ((zS s' 24 4)) fun v14 => (st (pS s' 24 5 v14) fun s15 => some ((zS s15 24 5), s15))) else some ((zS s' 24 5), s')) else some ((zS s' 24 5), s')) = some (f, s'') ∧ r t' = r t'' ∧ PkX s s'' ∧ PkR (m0T t) t'' ∧ ((f = -1 ∧ zS t'' 59 48 = -1 ∧ ¬ zS t'' 59 47 < zS t'' 59 37 ∧ ∃ ls, TxI E (x0T s) (m0T t) s'' t'' ls) ∨ (0 ≤ f.toInt ∧ (zS t'' 59 48 = f ∨ (zS t'' 59 48 = -1 ∧ zS t'' 59 47 < zS t'' 59 37 ∧ zS t'' 59 47 = f)))) := by
    rintro s' t' ⟨p, hp, sx, sm, zr⟩ PX PR
    rcases sx with sx | ⟨a, b, c, d⟩
    · rw [if_neg (by rw [sx, jlt, jl0]; omega)]
      exact ⟨p, s', t', by rw [sx], rfl, PX, PR, Or.inr ⟨hp, Or.inl sm⟩⟩
    · rw [if_pos (by rw [a]; decide), if_pos c, vl, st, zS_pS, if_pos ⟨rfl, rfl⟩, b]
      exact ⟨p, _, t', rfl, rfl, PX.tr ⟨fun q k z => by rw [zS_pS, if_neg (by omega)], fun _ _ _ => rfl, rfl⟩, PR, Or.inr ⟨hp, Or.inl sm⟩⟩
  rcases O with ⟨Tt, V, hT, hV, hV1, s6, e6, G6, em6, ly6, xa6, n90, n91, n92, o90, o9⟩ | st4
  · have gz6 := G6.2.2.2.2.2.2.1
    have ha6 := G6.2.2.2.2.1
    have h6 := G6.1.2.1
    rw [z4, jl0, Int.add_zero] at n91 n92 o9
    have I1 : TxI E (x0T s) (m0T t) s4 t16 [(Tt, V)] := by
      refine ⟨⟨s6, e6, G6, ?_⟩, ?_, ?_, ?_, Nat.le_refl _, ?_, ?_, fun j hj => o90 j hj⟩
      · show 2 * ((1 : Nat) : Int) ≤ _
        omega
      · have h2 := em6.tr (by rw [z1]; omega) (Em.one (s := s6) (c := -24) ⟨gz6.1, by omega⟩)
        rw [e6]
        have : clL [(Tt, V)] = pre Tt ++ V ++ [-24] := by unfold clL; simp
        rw [this]
        exact h2
      · have : mlL [(Tt, V)] = tst Tt ++ V := by unfold mlL; simp
        rw [this]
        exact ly6
      · rw [n90, z4]
        rfl
      · intro p hp
        rw [List.mem_singleton] at hp
        rw [hp]
        exact ⟨hT, hV, hV1⟩
      · intro i p hp
        have hi : i = 0 := by
          cases i with
          | zero => rfl
          | succ i => simp at hp
        subst hi
        have hp2 : (Tt, V) = p := by simpa using hp
        subst hp2
        have e0 : (90 * mr (m0T t) + ((0 : Nat) : Int)) = 90 * mr (m0T t) := by omega
        rw [e0, n91, n92, ly6.1, z2]
        have h1 : mlL (List.take 0 [(Tt, V)]) = [] := rfl
        have h2 : mlL (List.take (0 + 1) [(Tt, V)]) = tst Tt ++ V := by
          show mlL [(Tt, V)] = _
          unfold mlL
          simp
        rw [h1, h2]
        refine ⟨?_, by omega⟩
        show 0 + ((tst Tt).length : Int) = ((([] : List Int32).length : Nat) : Int) + ((tst Tt).length : Int)
        simp
    obtain ⟨s', t', eL, eN, PX, PR, O2⟩ := txt_l HE H0 (y1 := y1) (y2 := y2) (q := fun (s11 : SS)  => (if (zS s11 24 5) < (0 : Int32) then (if (zS s11 24 4) < (zS s11 24 1) then (vl ((zS s11 24 4)) fun v14 => (st (pS s11 24 5 v14) fun s15 => some ((zS s15 24 5), s15))) else some ((zS s11 24 5), s11)) else some ((zS s11 24 5), s11))) (r := r) 4000 s4 t16 0 [(Tt, V)] I1 P4 Q4 (by decide) (by show (0 : Int) + 1 ≤ ((1 : Nat) : Int); omega) (by show 200 - 2 * ((1 : Nat) : Int) < _; omega)
    rw [eL, eN]
    rcases O2 with ⟨ls, I2, hno⟩ | st2
    · obtain ⟨⟨s2, es, G2, hk⟩, rest⟩ := id I2
      have a5 : zS s' 24 5 = -1 := by rw [es]; unfold emX; rw [zS_pS, if_neg (by omega), zS_pI]; exact G2.2.1
      have a4 : zS s' 24 4 = zS t' 59 47 := by rw [es]; unfold emX; rw [zS_pS, if_neg (by omega), zS_pI]; exact G2.2.2.2.1
      have a1 : zS s' 24 1 = zS t' 59 37 := by rw [es, PkX.em.n]; exact G2.1.1
      show ∃ f s'' t'', (if (zS s' 24 5) < (0 : Int32) then (if (zS s' 24 4) < (zS s' 24 1) then (vl ((zS s' 24 4)) fun v14 => (st (pS s' 24 5 v14) fun s15 => some ((zS s15 24 5), s15))) else some ((zS s' 24 5), s')) else some ((zS s' 24 5), s')) = some (f, s'') ∧ _
      rw [if_pos (show zS s' 24 5 < 0 from by rw [a5]; decide)]
      by_cases lt : zS s' 24 4 < zS s' 24 1
      · rw [if_pos lt, vl, st, zS_pS, if_pos ⟨rfl, rfl⟩]
        refine ⟨zS s' 24 4, _, t', rfl, rfl, (x0T_P.tr PX).tr ⟨fun q k z => by rw [zS_pS, if_neg (by omega)], fun _ _ _ => rfl, rfl⟩, PR, Or.inr ⟨?_, Or.inr ⟨G2.2.2.1, by rw [← a4, ← a1]; exact lt, a4.symm⟩⟩⟩
        have := G2.2.2.2.2.1.1
        unfold xa at this
        rw [a4, ← G2.2.2.2.1]
        exact this
      · rw [if_neg lt, a5]
        exact ⟨-1, s', t', rfl, rfl, x0T_P.tr PX, PR, Or.inl ⟨rfl, G2.2.2.1, by rw [← a4, ← a1]; exact lt, ls, I2⟩⟩
    · exact sk s' t' st2 (x0T_P.tr PX) PR
  · obtain ⟨p, hp, sx, sm, zr⟩ := id st4
    have eL : f_X7_compiled_L21 (fun (s11 : SS)  => (if (zS s11 24 5) < (0 : Int32) then (if (zS s11 24 4) < (zS s11 24 1) then (vl ((zS s11 24 4)) fun v14 => (st (pS s11 24 5 v14) fun s15 => some ((zS s15 24 5), s15))) else some ((zS s11 24 5), s11)) else some ((zS s11 24 5), s11))) (3999 + 1) s4 0 = (if (zS s4 24 5) < (0 : Int32) then (if (zS s4 24 4) < (zS s4 24 1) then (vl ((zS s4 24 4)) fun v14 => (st (pS s4 24 5 v14) fun s15 => some ((zS s15 24 5), s15))) else some ((zS s4 24 5), s4)) else some ((zS s4 24 5), s4)) := by
      rw [f_X7_compiled_L21, f_X7_compiled_L21_b, if_pos (by decide), sx.takes hp (by decide), bd_some, if_pos rfl]
    have eN : f_X12_text_L77 r y1 y2 (3999 + 1) t16 = r t16 := by
      rw [f_X12_text_L77, f_X12_text_L77_b, if_neg (by rw [sm, jlt, jl0]; omega)]
    rw [eL, eN]
    exact sk s4 t16 st4 (x0T_P.tr P4) Q4
