/-! a line -/
/-- as PkM, the rows of lines apart -/
def PkR (s r : SS) : Prop := (∀ q k, ¬ (q = 59 ∧ (k = 47 ∨ k = 48 ∨ k = 49 ∨ k = 51)) → zS r q k = zS s q k) ∧ (∀ q i, q ≠ 90 → q ≠ 91 → q ≠ 92 → q ≠ 93 → q ≠ 94 → zI r q i = zI s q i) ∧ r.2.2 = s.2.2
theorem PkM.R {s r : SS} (h : PkM s r) : PkR s r := ⟨h.1, fun q i _ _ _ h3 h4 => h.2.1 q i h3 h4, h.2.2⟩
theorem PkR.tr {a b c : SS} (h : PkR a b) (g : PkR b c) : PkR a c := ⟨fun q k z => (g.1 q k z).trans (h.1 q k z), fun q i h0 h1 h2 h3 h4 => (g.2.1 q i h0 h1 h2 h3 h4).trans (h.2.1 q i h0 h1 h2 h3 h4), g.2.2.trans h.2.2⟩
theorem PkR.rf {s : SS} : PkR s s := ⟨fun _ _ _ => rfl, fun _ _ _ _ _ _ _ => rfl, rfl⟩
theorem PkR.pI {s : SS} {q i : Nat} {v : Int32} (h : q = 90 ∨ q = 91 ∨ q = 92) : PkR s (pI s q i v) := ⟨fun _ _ _ => rfl, fun a b h0 h1 h2 _ _ => by rw [zI_pI, if_neg (fun z => by omega)], rfl⟩
theorem Rd.arr {s t r : SS} {d : Int32} (G : Rd s t d) (hS : ∀ k, zS r 59 k = zS t 59 k) (hI : ∀ i, zI r 86 i = zI t 86 i) : Rd s r d := by
  obtain ⟨⟨a1, a2, a3⟩, e2, e3, e4, ha, ho, hz, hl, hr⟩ := G
  refine ⟨⟨by rw [hS]; exact a1, a2, fun i hi => by rw [hI]; exact a3 i hi⟩, e2, by rw [hS]; exact e3, by rw [hS]; exact e4, ha, by rw [hS]; exact ho, hz, ?_, ?_⟩
  · unfold ml; rw [hS]; exact hl
  · unfold mr; rw [hS]; exact hr
theorem Ly.to {s r u : SS} {l : List Int32} (h : Ly s r l) (hS : zS u 59 51 = zS r 59 51) (h3 : ∀ i, zI u 93 i = zI r 93 i) (h4 : ∀ i, zI u 94 i = zI r 94 i) : Ly s u l := by
  obtain ⟨a, b, c⟩ := h
  refine ⟨?_, fun j hj => ?_, fun j v e => ?_⟩
  · unfold ml at *; rw [hS]; exact a
  · rw [h3, h4]; exact b j hj
  · rw [h3, h4]; exact c j v e
theorem Ly.fr {s r u : SS} {l : List Int32} (h : Ly r u l) (hS : zS r 59 51 = zS s 59 51) (hr : zS r 59 50 = zS s 59 50) (h3 : ∀ i, zI r 93 i = zI s 93 i) (h4 : ∀ i, zI r 94 i = zI s 94 i) : Ly s u l := by
  obtain ⟨a, b, c⟩ := h
  have e1 : ml r = ml s := by unfold ml; rw [hS]
  have e2 : mr r = mr s := by unfold mr; rw [hr]
  rw [e1] at a
  rw [e1, e2] at b c
  exact ⟨a, fun j hj => by rw [← h3, ← h4]; exact b j hj, c⟩
theorem Stk.fr {s t s' t' s0 t0 u : SS} (h : Stk s t s' t') (e1 : ml t - ml t0 ≤ mh t - mh t0) (eS : ∀ k, zS u 59 k = zS t' 59 k) : Stk s0 t0 s' u := by
  obtain ⟨p, hp, sx, sm, z0, z1, z2, z3⟩ := h
  have f1 : ml u = ml t' := by unfold ml; rw [eS]
  have f2 : mh u = mh t' := by show (zS u 59 47).toInt = (zS t' 59 47).toInt; rw [eS]
  exact ⟨p, hp, sx, by rw [eS]; exact sm, z0, by omega, by omega, by omega⟩
def pre (T : Option (List Int32)) : List Int32 := match T with
  | none => []
  | some l => l ++ [-23]
def tst (T : Option (List Int32)) : List Int32 := match T with
  | none => []
  | some l => l
/-- a line that is read: its test, its value -/
def LnA (E : Nat → List Int32 → Prop) (s t s' t' : SS) (T : Option (List Int32)) (V : List Int32) : Prop := (∀ l, T = some l → E 46 l ∧ 1 ≤ l.length) ∧ E 46 V ∧ 1 ≤ V.length ∧ ∃ s2, s' = emX s2 (-24) ∧ Rd s2 t' 0 ∧ Em s s2 (pre T ++ V) ∧ Ly t t' (tst T ++ V) ∧ xa s + 1 ≤ xa s2 ∧ zI t' 90 (mr t).toNat = zI t 90 (mr t).toNat + 1 ∧ (zI t' 91 (90 * mr t + (zI t 90 (mr t).toNat).toInt).toNat).toInt = ml t + (tst T).length ∧ (zI t' 92 (90 * mr t + (zI t 90 (mr t).toNat).toInt).toNat).toInt = ml t' ∧ (∀ i, i ≠ (mr t).toNat → zI t' 90 i = zI t 90 i) ∧ ∀ i, i ≠ (90 * mr t + (zI t 90 (mr t).toNat).toInt).toNat → zI t' 91 i = zI t 91 i ∧ zI t' 92 i = zI t 92 i
theorem line_l {E : Nat → List Int32 → Prop} (HE : EC E) {s t : SS} (G : Rd s t 0) (hk : 0 ≤ (zI t 90 (mr t).toNat).toInt ∧ 2 * (zI t 90 (mr t).toNat).toInt ≤ xa s) : ∃ s' t', f_X7_line s = some s' ∧ f_X12_readLine t = some t' ∧ PkX s s' ∧ PkR t t' ∧ ((∃ T V, LnA E s t s' t' T V) ∨ Stk s t s' t') := by
  have HI : HRd E 46 0 (fun s => f_X7_either (f_X7_single 12) s 0) (fun t => f_X12_either (f_X12_operand 12) t) := eith_all HE (sing_l HE 12 0 (by decide) (by decide) (by decide))
  have ha := G.2.2.2.2.1
  have h160 := G.1.2.1
  have gz := G.2.2.2.2.2.2.1
  have gl := G.2.2.2.2.2.2.2.1
  have gr := G.2.2.2.2.2.2.2.2
  obtain ⟨k, ek⟩ : ∃ k, k = zI t 90 (mr t).toNat := ⟨_, rfl⟩
  have j90 : (90 : Int32).toInt = 90 := rfl
  rw [← ek] at hk
  have m1 : ((90 : Int32) * zS t 59 50).toInt = 90 * mr t := by
    unfold mr at *
    rw [i32_mul (by rw [j90]; omega) (by rw [j90]; omega), j90]
  have m2 : ((90 : Int32) * zS t 59 50 + k).toInt = 90 * mr t + k.toInt := by rw [i32_add (by omega) (by omega), m1]
  obtain ⟨v3, ev3⟩ : ∃ v3, v3 = (90 : Int32) * zS t 59 50 + k := ⟨_, rfl⟩
  rw [← ev3] at m2
  have g3 : inB v3 1530 := ⟨by omega, by omega⟩
  have gR : inB (zS t 59 50) 17 := ⟨by unfold mr at gr; omega, by unfold mr at gr; omega⟩
  have rN : (zS t 59 50).toInt.toNat = (mr t).toNat := rfl
  have k1 : (k + 1).toInt = k.toInt + 1 := by rw [i32_add (by rw [jl1]; omega) (by rw [jl1]; omega), jl1]
  -- the rows' end
  have fin : ∀ u : SS, zS u 59 50 = zS t 59 50 → (∀ i, zI u 90 i = zI t 90 i) → (vl ((zS u 59 51)) fun v10 => (gd (inB v3 1530) (st (pI u 92 (v3.toInt.toNat) v10) fun s12 => (vl ((zS s12 59 50)) fun v13 => (gd (inB v13 17) (vl (((zI s12 90 (v13.toInt.toNat)) + (1 : Int32))) fun v15 => (vl ((zS s12 59 50)) fun v16 => (gd (inB v16 17) (st (pI s12 90 (v16.toInt.toNat) v15) fun s18 => some s18))))))))) = some (pI (pI u 92 v3.toInt.toNat (zS u 59 51)) 90 (mr t).toNat (k + 1)) := by
    intro u h1 h2
    rw [vl, gd_t g3, st, vl, zS_pI, h1, gd_t gR, vl, vl, gd_t gR, st, zI_pI, if_neg (by omega), h2, rN, ek]
  obtain ⟨s1, t1, eX, eM, P1, Q1, O⟩ := HI s t G
  have eX' : f_X7_either (f_X7_single 12) s 0 = some s1 := eX
  have eM' : f_X12_either (f_X12_operand 12) t = some t1 := eM
  unfold f_X7_line f_X12_readLine
  rw [eX', b1_some, vl, gd_t gR, vl, vl, rN, ← ek, ← ev3, eM', b1_some, gd_t g3, st, jn]
  have q90 : ∀ i, zI t1 90 i = zI t 90 i := fun i => Q1.2.1 90 i (by omega) (by omega)
  have q50 : zS t1 59 50 = zS t 59 50 := Q1.r
  have v3n : v3.toInt.toNat = (90 * mr t + k.toInt).toNat := by rw [m2]
  rcases O with ⟨G1, l, l1, l2, em, ly, el⟩ | ⟨p, hp, sx, sm, z⟩
  · have ha1 := G1.2.2.2.2.1
    have h160' := G1.1.2.1
    have gz1 := G1.2.2.2.2.2.2.1
    have gl1 := G1.2.2.2.2.2.2.2.1
    have er1 : mr t1 = mr t := by unfold mr; rw [q50]
    have G1' : Rd s1 (pI t1 91 v3.toInt.toNat (zS t 59 51)) 0 := G1.arr (fun _ => rfl) (fun i => by rw [zI_pI, if_neg (by omega)])
    rw [takes_g G1 (by decide), if_pos (show zS (pI t1 91 v3.toInt.toNat (zS t 59 51)) 59 48 < 0 from by rw [G1'.2.2.1]; decide), G1'.look, b1_some]
    by_cases c : cuX s1 = 63
    · have cm : cuM (pI t1 91 v3.toInt.toNat (zS t 59 51)) = 63 := (G1'.ch (by decide)).1 c
      have lt := (G1.lt (by decide) c).2
      obtain ⟨G2, ea2⟩ := G1'.av lt
      rw [if_pos c, bd_some, jn, if_neg (by decide), if_pos cm, vl, st, vl, gd_t g3, st]
      have ez2 : xz (avX s1) = xz s1 := by unfold xz; rw [avX_S (by omega)]
      -- the class lays WHEN, the reference nothing
      have hz2 : 0 ≤ xz (avX s1) ∧ xz (avX s1) < 161 := by rw [ez2]; omega
      have G3 : Rd (emX (avX s1) (-23)) (pI (avM (pI t1 91 v3.toInt.toNat (zS t 59 51))) 91 v3.toInt.toNat (zS (avM (pI t1 91 v3.toInt.toNat (zS t 59 51))) 59 51)) 0 := by
        have h1 : Rd (avX s1) (pI (avM (pI t1 91 v3.toInt.toNat (zS t 59 51))) 91 v3.toInt.toNat (zS (avM (pI t1 91 v3.toInt.toNat (zS t 59 51))) 59 51)) 0 := G2.arr (fun _ => rfl) (fun i => by rw [zI_pI, if_neg (by omega)])
        obtain ⟨T, e2, e3, e4, ha, ho, hz, hl, hr⟩ := h1
        have ea : xa (emX (avX s1) (-23)) = xa (avX s1) := by unfold xa emX; rw [zS_pS, if_neg (by omega), zS_pI]
        have en : xn (emX (avX s1) (-23)) = xn (avX s1) := by unfold xn; rw [PkX.em.n]
        refine ⟨T.c PkX.em PkM.rf, ?_, e3, ?_, by rw [ea, en]; exact ha, ho, ?_, by rw [ea]; exact hl, hr⟩
        · unfold emX; rw [zS_pS, if_neg (by omega), zS_pI]; exact e2
        · unfold emX; rw [zS_pS, if_neg (by omega), zS_pI]; exact e4
        · rw [ea, (Em.one (c := -23) hz2).1, ez2, ea2]
          have : (([-23] : List Int32).length : Int) = 1 := rfl
          omega
      obtain ⟨s5, t5, eX5, eM5, P5, Q5, O5⟩ := HI _ _ G3
      have eX5' : f_X7_either (f_X7_single 12) (emX (avX s1) (-23)) 0 = some s5 := eX5
      have eM5' : f_X12_either (f_X12_operand 12) (pI (avM (pI t1 91 v3.toInt.toNat (zS t 59 51))) 91 v3.toInt.toNat (zS (avM (pI t1 91 v3.toInt.toNat (zS t 59 51))) 59 51)) = some t5 := eM5
      have fE : zS (avX s1) 24 5 < 0 := by rw [avX_S (by omega), G1.2.1]; decide
      rw [emit_g fE hz2, b1_some, eX5', b1_some, show pS (pI t1 91 v3.toInt.toNat (zS t 59 51)) 59 47 (zS (pI t1 91 v3.toInt.toNat (zS t 59 51)) 59 47 + 1) = avM (pI t1 91 v3.toInt.toNat (zS t 59 51)) from rfl, eM5', b1_some]
      have q50' : zS t5 59 50 = zS t 59 50 := by
        rw [Q5.r, zS_pI, avM_S (by omega), zS_pI]; exact q50
      have q90' : ∀ i, zI t5 90 i = zI t 90 i := fun i => by
        rw [Q5.2.1 90 i (by omega) (by omega), zI_pI, if_neg (by omega)]
        show zI (pI t1 91 v3.toInt.toNat (zS t 59 51)) 90 i = _
        rw [zI_pI, if_neg (by omega)]
        exact q90 i
      dsimp only
      rw [fin t5 q50' q90']
      have PX : PkX s s5 := P1.tr (PkX.av.tr (PkX.em.tr P5))
      have PR : PkR t (pI (pI t5 92 v3.toInt.toNat (zS t5 59 51)) 90 (mr t).toNat (k + 1)) := Q1.R.tr ((PkR.pI (Or.inr (Or.inl rfl))).tr (PkM.av.R.tr ((PkR.pI (Or.inr (Or.inl rfl))).tr (Q5.R.tr ((PkR.pI (Or.inr (Or.inr rfl))).tr (PkR.pI (Or.inl rfl)))))))
      rcases O5 with ⟨G5, l', m1', m2', em5, ly5, el5⟩ | st5
      · have gz5 := G5.2.2.2.2.2.2.1
        have ha5 := G5.2.2.2.2.1
        have h5 := G5.1.2.1
        rw [emit_g (by rw [G5.2.1]; decide) ⟨gz5.1, by omega⟩, b1_some]
        refine ⟨_, _, rfl, rfl, PX.tr PkX.em, PR, Or.inl ⟨some l, l', fun _ e => ?_, el5, m1', s5, rfl, G5.arr (fun _ => rfl) (fun i => by rw [zI_pI, if_neg (by omega), zI_pI, if_neg (by omega)]), ?_, ?_, ?_, ?_, ?_, ?_, ?_, ?_⟩⟩
        · rw [← Option.some.inj e]; exact ⟨el, l1⟩
        · have h1 := (em.tr gz.1 (Em.av (t := s1))).tr gz.1 (Em.one (s := avX s1) (c := -23) hz2)
          have h2 := h1.tr gz.1 em5
          rw [List.append_nil] at h2
          exact h2
        · have h1 : Ly t5 (pI (pI t5 92 v3.toInt.toNat (zS t5 59 51)) 90 (mr t).toNat (k + 1)) [] := Ly.nil rfl (fun i => by rw [zI_pI, if_neg (by omega), zI_pI, if_neg (by omega)]) (fun i => by rw [zI_pI, if_neg (by omega), zI_pI, if_neg (by omega)])
          have h2 : Ly t1 t5 l' := ly5.fr (by rw [zS_pI, avM_S (by omega), zS_pI]) (by rw [zS_pI, avM_S (by omega), zS_pI]) (fun i => by rw [zI_pI, if_neg (by omega)]; show zI (pI t1 91 v3.toInt.toNat (zS t 59 51)) 93 i = _; rw [zI_pI, if_neg (by omega)]) (fun i => by rw [zI_pI, if_neg (by omega)]; show zI (pI t1 91 v3.toInt.toNat (zS t 59 51)) 94 i = _; rw [zI_pI, if_neg (by omega)])
          have h3 := (ly.tr gl.1 gr.1 er1 h2).tr gl.1 gr.1 (by unfold mr; rw [q50']) h1
          rw [List.append_nil] at h3
          exact h3
        · have e1 : xa (emX (avX s1) (-23)) = xa s1 + 1 := by rw [← ea2]; unfold xa emX; rw [zS_pS, if_neg (by omega), zS_pI]
          rw [e1] at m2'
          omega
        · rw [zI_pI, if_pos ⟨rfl, rfl⟩, ek]
        · rw [← ek, ← v3n, zI_pI, if_neg (by omega), zI_pI, if_neg (by omega), Q5.2.1 91 _ (by omega) (by omega), zI_pI, if_pos ⟨rfl, rfl⟩, avM_S (by omega), zS_pI]
          exact ly.1
        · rw [← ek, ← v3n, zI_pI, if_neg (by omega), zI_pI, if_pos ⟨rfl, rfl⟩]
          rfl
        · intro i hi
          rw [zI_pI, if_neg (by omega), zI_pI, if_neg (by omega)]
          exact q90' i
        · intro i hi
          rw [← ek, ← v3n] at hi
          refine ⟨?_, ?_⟩
          · rw [zI_pI, if_neg (by omega), zI_pI, if_neg (by omega), Q5.2.1 91 _ (by omega) (by omega), zI_pI, if_neg (by omega)]
            show zI (pI t1 91 v3.toInt.toNat (zS t 59 51)) 91 i = _
            rw [zI_pI, if_neg (by omega)]
            exact Q1.2.1 91 i (by omega) (by omega)
          · rw [zI_pI, if_neg (by omega), zI_pI, if_neg (by omega), Q5.2.1 92 _ (by omega) (by omega), zI_pI, if_neg (by omega)]
            show zI (pI t1 91 v3.toInt.toNat (zS t 59 51)) 92 i = _
            rw [zI_pI, if_neg (by omega)]
            exact Q1.2.1 92 i (by omega) (by omega)
      · have hml : ml (pI (avM (pI t1 91 v3.toInt.toNat (zS t 59 51))) 91 v3.toInt.toNat (zS (avM (pI t1 91 v3.toInt.toNat (zS t 59 51))) 59 51)) = ml t1 := by unfold ml; rw [zS_pI, avM_S (by omega), zS_pI]
        have hmh : mh (pI (avM (pI t1 91 v3.toInt.toNat (zS t 59 51))) 91 v3.toInt.toNat (zS (avM (pI t1 91 v3.toInt.toNat (zS t 59 51))) 59 51)) = mh t1 + 1 := by
          have h1 : mh (avM (pI t1 91 v3.toInt.toNat (zS t 59 51))) = xa (avX s1) := G2.mh
          show mh (avM (pI t1 91 v3.toInt.toNat (zS t 59 51))) = _
          rw [h1, ea2, G1.mh]
        obtain ⟨p, hp, sx, sm, z0, zr⟩ := st5
        obtain ⟨s6, e6, P6, sx6, z6⟩ := sx.emit (c := -24) hp z0
        rw [e6, b1_some]
        refine ⟨s6, _, rfl, rfl, PX.tr P6, PR, Or.inr (Stk.fr (s := emX (avX s1) (-23)) (t := pI (avM (pI t1 91 v3.toInt.toNat (zS t 59 51))) 91 v3.toInt.toNat (zS (avM (pI t1 91 v3.toInt.toNat (zS t 59 51))) 59 51)) (t' := t5) ⟨p, hp, sx6, sm, z6, zr⟩ ?_ (fun _ => rfl))⟩
        have e1 := ly.1
        have e2 := G1.mh
        have e3 := G.mh
        rw [hml, hmh]
        omega
    · have cm : ¬ cuM (pI t1 91 v3.toInt.toNat (zS t 59 51)) = 63 := fun z => c ((G1'.ch (by decide)).2 z)
      rw [if_neg c, bd_some, jn, if_pos rfl, if_neg cm]
      dsimp only
      rw [emit_g (by rw [G1.2.1]; decide) ⟨gz1.1, by omega⟩, b1_some, fin (pI t1 91 v3.toInt.toNat (zS t 59 51)) q50 (fun i => by rw [zI_pI, if_neg (by omega)]; exact q90 i)]
      refine ⟨_, _, rfl, rfl, P1.tr PkX.em, Q1.R.tr ((PkR.pI (Or.inr (Or.inl rfl))).tr ((PkR.pI (Or.inr (Or.inr rfl))).tr (PkR.pI (Or.inl rfl)))), Or.inl ⟨none, l, fun _ e => (by cases e), el, l1, s1, rfl, G1'.arr (fun _ => rfl) (fun i => by rw [zI_pI, if_neg (by omega), zI_pI, if_neg (by omega)]), em, ?_, by omega, ?_, ?_, ?_, ?_, ?_⟩⟩
      · exact ly.to rfl (fun i => by rw [zI_pI, if_neg (by omega), zI_pI, if_neg (by omega), zI_pI, if_neg (by omega)]) (fun i => by rw [zI_pI, if_neg (by omega), zI_pI, if_neg (by omega), zI_pI, if_neg (by omega)])
      · rw [zI_pI, if_pos ⟨rfl, rfl⟩, ek]
      · rw [← ek, ← v3n, zI_pI, if_neg (by omega), zI_pI, if_neg (by omega), zI_pI, if_pos ⟨rfl, rfl⟩]
        show ml t = ml t + 0
        omega
      · rw [← ek, ← v3n, zI_pI, if_neg (by omega), zI_pI, if_pos ⟨rfl, rfl⟩]
        rfl
      · intro i hi
        rw [zI_pI, if_neg (by omega), zI_pI, if_neg (by omega), zI_pI, if_neg (by omega)]
        exact q90 i
      · intro i hi
        rw [← ek, ← v3n] at hi
        refine ⟨?_, ?_⟩
        · rw [zI_pI, if_neg (by omega), zI_pI, if_neg (by omega), zI_pI, if_neg (by omega)]
          exact Q1.2.1 91 i (by omega) (by omega)
        · rw [zI_pI, if_neg (by omega), zI_pI, if_neg (by omega), zI_pI, if_neg (by omega)]
          exact Q1.2.1 92 i (by omega) (by omega)
  · obtain ⟨z0, zr⟩ := z
    obtain ⟨s6, e6, P6, sx6, z6⟩ := sx.emit (c := -24) hp z0
    rw [sx.takes hp (by decide), bd_some, jn, if_pos rfl, if_neg (show ¬ zS (pI t1 91 v3.toInt.toNat (zS t 59 51)) 59 48 < 0 from by rw [zS_pI, sm, jlt, jl0]; omega)]
    dsimp only
    rw [fin (pI t1 91 v3.toInt.toNat (zS t 59 51)) q50 (fun i => by rw [zI_pI, if_neg (by omega)]; exact q90 i), e6, b1_some]
    exact ⟨s6, _, rfl, rfl, P1.tr P6, Q1.R.tr ((PkR.pI (Or.inr (Or.inl rfl))).tr ((PkR.pI (Or.inr (Or.inr rfl))).tr (PkR.pI (Or.inl rfl)))), Or.inr (Stk.fr (s := s) (t := t) (t' := t1) ⟨p, hp, sx6, sm, z6, zr⟩ (Int.le_of_eq (by omega)) (fun _ => rfl))⟩
