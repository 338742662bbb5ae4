/-! single and operand -/
theorem sgX {s t : SS} {d : Int32} {rx : SS → Int32 → Option SS} (G : Rd s t d) (nd : ¬ dg (cuX s)) : f_X7_single_r rx s d = if d < 8 ∧ cuX s = 40 then (b1 (f_X7_either rx (avX s) (d + 1)) fun s22 => (bd (f_X7_takes s22 41) fun r23 s23 => (if r23 = (0 : Int32) then (b1 (f_X7_fails s23) fun s25 => some s25) else some s23))) else if d < 8 ∧ cuX s = 33 then (b1 (rx (avX s) (d + 1)) fun s17 => (b1 (f_X7_emit s17 (-21)) fun s18 => some s18)) else if d < 8 ∧ cuX s = 45 then (b1 (rx (avX s) (d + 1)) fun s12 => (b1 (f_X7_emit s12 (-22)) fun s13 => some s13)) else (b1 (f_X7_name s) fun s7 => some s7) := by
  unfold f_X7_single_r
  rw [if_pos (by rw [G.2.1]; decide), isd_g G, b1_some, if_neg (show ¬ (48 ≤ (cuX s).toInt ∧ (cuX s).toInt ≤ 57) from nd), if_pos rfl, jn]
  by_cases h8 : d < 8
  · rw [if_pos h8, takes_g G (by decide)]
    by_cases c : cuX s = 40
    · rw [if_pos c, if_pos ⟨h8, c⟩, bd_some, if_neg (by decide)]
    rw [if_neg c, if_neg (fun z => c z.2), bd_some, if_pos rfl]
    show jn _ _ = _
    rw [jn, if_pos h8, takes_g G (by decide)]
    by_cases c2 : cuX s = 33
    · rw [if_pos c2, if_pos ⟨h8, c2⟩, bd_some, if_neg (by decide)]
    rw [if_neg c2, if_neg (fun z => c2 z.2), bd_some, if_pos rfl]
    show jn _ _ = _
    rw [jn, if_pos h8, takes_g G (by decide)]
    by_cases c3 : cuX s = 45
    · rw [if_pos c3, if_pos ⟨h8, c3⟩, bd_some, if_neg (by decide)]
    rw [if_neg c3, if_neg (fun z => c3 z.2), bd_some, if_pos rfl]
  · rw [if_neg h8, if_neg (fun z => h8 z.1), if_neg (fun z => h8 z.1), if_neg (fun z => h8 z.1)]
    show jn _ _ = _
    rw [jn, if_neg h8]
    show jn _ _ = _
    rw [jn, if_neg h8]
theorem j8_ : (8 : Int32).toInt = 8 := rfl
theorem sing_l {E : Nat → List Int32 → Prop} (HE : EC E) : ∀ (n : Nat) (d : Int32), 0 ≤ d.toInt → d.toInt ≤ 8 → 8 - d.toInt < n → HRd E (HM d) d (fun s => f_X7_single n s d) (fun t => f_X12_operand n t)
  | 0, d, h0, h8, hn => by omega
  | n + 1, d, h0, h8, hn => by
    intro s t G
    show ∃ s' t', f_X7_single (n + 1) s d = some s' ∧ f_X12_operand (n + 1) t = some t' ∧ PE E (HM d) s t s' t' d
    rw [f_X7_single, f_X12_operand]
    obtain ⟨j, ej, ex, hj, hj'⟩ := G.nm
    have ha := G.2.2.2.2.1
    have h160 := G.1.2.1
    have gz := G.2.2.2.2.2.2.1
    have gl := G.2.2.2.2.2.2.2.1
    have gr := G.2.2.2.2.2.2.2.2
    have fX : f_X7_name s = (if j < 0 then (b1 (f_X7_fails s) fun s6 => some s6) else (vl (((zS s 24 4) + (1 : Int32))) fun v3 => (st (pS s 24 4 v3) fun s4 => (b1 (f_X7_emit s4 (((-1) : Int32) - j)) fun s5 => some s5)))) := by
      unfold f_X7_name
      rw [jn]
      by_cases h : zS s 24 4 < zS s 24 1
      · rw [if_pos h, vl]
        unfold xa xn at ha
        unfold xn at h160
        have h' := h
        rw [jlt] at h'
        rw [gd_t ⟨by omega, by omega⟩, ex h]
      · rw [if_neg h, hj' h]
    by_cases nd : dg (cuX s)
    · have jm : j = -1 := by
        rcases hj with z | z
        · exact z
        · unfold dg at nd
          omega
      have em := G.dg.2 nd
      have n3 : ∀ k : Int32, k.toInt < 48 → ¬ cuM t = k := fun k hk z => by
        rw [em] at z
        rw [z] at nd
        unfold dg at nd
        omega
      obtain ⟨s', t', eX, eM, P⟩ := numP HE (m := 5 * (8 - d.toInt).toNat) (rm := f_X12_operand n) G nd
      refine ⟨s', t', ?_, ?_, P⟩
      · unfold f_X7_single_r
        rw [if_pos (by rw [G.2.1]; decide), isd_g G, b1_some, if_pos (show 48 ≤ (cuX s).toInt ∧ (cuX s).toInt ≤ 57 from nd), if_neg (by decide), eX, b1_some]
      · unfold f_X12_operand_r
        rw [G.look, b1_some, ej, b1_some, if_pos (by rw [jm]; decide), jn, if_neg (n3 33 (by decide)), if_neg (n3 45 (by decide)), if_neg (n3 40 (by decide)), eM]
    · have d1 : d.toInt < 8 → (d + 1).toInt = d.toInt + 1 := fun z => by rw [i32_add (by rw [jl1]; omega) (by rw [jl1]; omega), jl1]
      -- a sign that opens: 33, 40, 45
      have low : ∀ k : Int32, k.toInt ≤ 57 → cuX s = k → j = -1 := fun k hk z => by
        rcases hj with w | w
        · exact w
        · rw [z] at w
          omega
      have full : ¬ d.toInt < 8 → (bd (f_X12_opens t) fun r5 s5 => (if r5 = (0 : Int32) then some s5 else (b1 (f_X12_operand n s5) fun s7 => (vl (((zS s7 59 49) - (1 : Int32))) fun v8 => (st (pS s7 59 49 v8) fun s10 => (jn (fun (t11_0 : Int32) => (b1 (f_X12_lay s10 t11_0 0) fun s12 => some s12)) fun k11 => (if cuM t = (33 : Int32) then (k11 3) else (k11 4)))))))) = some (pS t 59 48 (zS t 59 47)) := fun z => by
        unfold f_X12_opens
        rw [if_pos (by rw [G.2.2.2.2.2.1]; exact Int32.toInt_inj.1 (by rw [j8_]; omega)), (failP (E := E) (m := 1) G).2.1, b1_some, bd_some, if_pos rfl]
      have opens : d.toInt < 8 → f_X12_opens t = some (1, opM t) := fun z => by
        unfold f_X12_opens opM
        rw [if_neg (fun w => by rw [G.2.2.2.2.2.1] at w; rw [w, j8_] at z; omega), vl, st, vl, st, zS_pS, if_neg (by omega)]
      have un : ∀ g k a : Int32, (g = 33 ∧ k = -21 ∧ a = 3) ∨ (g = 45 ∧ k = -22 ∧ a = 4) → cuX s = g → ∃ s' t', (if d < 8 then (b1 (f_X7_single n (avX s) (d + 1)) fun s17 => (b1 (f_X7_emit s17 k) fun s18 => some s18)) else (b1 (f_X7_name s) fun s7 => some s7)) = some s' ∧ (bd (f_X12_opens t) fun r5 s5 => (if r5 = (0 : Int32) then some s5 else (b1 (f_X12_operand n s5) fun s7 => (vl (((zS s7 59 49) - (1 : Int32))) fun v8 => (st (pS s7 59 49 v8) fun s10 => (jn (fun (t11_0 : Int32) => (b1 (f_X12_lay s10 t11_0 0) fun s12 => some s12)) fun k11 => (if cuM t = (33 : Int32) then (k11 3) else (k11 4)))))))) = some t' ∧ PE E (HM d) s t s' t' d := by
        intro g k a hg cg
        have hg33 : g.toInt ≤ 57 ∧ 0 ≤ g.toInt ∧ g.toInt < 128 := by rcases hg with ⟨rfl, _⟩ | ⟨rfl, _⟩ <;> decide
        by_cases z8 : d.toInt < 8
        · have lt := (G.lt hg33.2.1 cg).2
          obtain ⟨G1, ea1⟩ := G.op lt
          obtain ⟨s2, t2, eX, eM, P2, Q2, O⟩ := sing_l HE n (d + 1) (by rw [d1 z8]; omega) (by rw [d1 z8]; omega) (by rw [d1 z8]; omega) _ _ G1
          have eX' : f_X7_single n (avX s) (d + 1) = some s2 := eX
          have eM' : f_X12_operand n (opM t) = some t2 := eM
          have elA : ml (opM t) = ml t := by unfold ml; rw [opM_S (by omega)]
          have erA : mr (opM t) = mr t := by unfold mr; rw [opM_S (by omega)]
          have er2 : mr t2 = mr t := by rw [← erA]; unfold mr; rw [Q2.r]
          have ezA : xz (avX s) = xz s := by unfold xz; rw [avX_S (by omega)]
          have tkk : tkA k = a ∧ tkW k = 0 ∧ (k = -21 ∨ k = -22) := by rcases hg with ⟨_, rfl, rfl⟩ | ⟨_, rfl, rfl⟩ <;> decide
          have lyc : ∀ q, (if cuM t = (33 : Int32) then ((fun (t11_0 : Int32) => (b1 (f_X12_lay q t11_0 0) fun s12 => some s12)) 3) else ((fun (t11_0 : Int32) => (b1 (f_X12_lay q t11_0 0) fun s12 => some s12)) 4)) = (b1 (f_X12_lay q a 0) fun s12 => some s12) := by
            intro q
            have hc := (G.ch ⟨hg33.2.1, hg33.2.2⟩).1 cg
            rcases hg with ⟨rfl, _, rfl⟩ | ⟨rfl, _, rfl⟩
            · rw [if_pos hc]
            · rw [if_neg (by rw [hc]; decide)]
          rw [if_pos (by rw [jlt, j8_]; exact z8), opens z8, bd_some, if_neg (by decide), eX', b1_some, eM', b1_some, vl, st, jn, show pS t2 59 49 (zS t2 59 49 - 1) = clM t2 from rfl, lyc]
          have elC : ml (clM t2) = ml t2 := by unfold ml; rw [clM_S (by omega)]
          have erC : mr (clM t2) = mr t2 := by unfold mr; rw [clM_S (by omega)]
          have hHM : HM d = HM (d + 1) + 5 := by unfold HM; rw [d1 z8]; omega
          rcases O with ⟨G2, l, l1, l2, em, ly, el⟩ | ⟨p, hp, sx, sm, z0, z1, z2, z3⟩
          · have G3 := G2.cl
            have b2 := G2.2.2.2.2.1
            have hz2 := G2.2.2.2.2.2.2.1
            have hl2 := G2.2.2.2.2.2.2.2.1
            have h160' := G2.1.2.1
            rw [ea1] at l2
            have q1 : xz s2 < xa s2 := by rw [em.1, ezA]; omega
            have q2 : ml t2 < xa s2 := by rw [ly.1, elA]; omega
            obtain ⟨G4, ea4⟩ := G3.em (c := k) (a := a) (w := 0) q1 (by rw [elC]; exact q2)
            rw [emit_g (by rw [G2.2.1]; decide) ⟨hz2.1, by omega⟩, b1_some, lay_g (by rw [erC, er2]; exact gr) (by rw [elC]; exact ⟨hl2.1, by omega⟩), b1_some]
            refine ⟨_, _, rfl, rfl, PkX.av.tr (P2.tr PkX.em), PkM.op.tr (Q2.tr (PkM.cl.tr PkM.ly)), Or.inl ⟨G4, l ++ [k], ?_, ?_, ?_, ?_, ?_⟩⟩
            · rw [List.length_append]; omega
            · rw [List.length_append, ea4]
              have : (([k] : List Int32).length : Int) = 1 := rfl
              omega
            · have h1 := (Em.av.tr gz.1 em).tr gz.1 (Em.one (c := k) ⟨hz2.1, by omega⟩)
              rw [List.nil_append] at h1
              exact h1
            · have h1 := Ly.op.tr gl.1 gr.1 erA ly
              have h2 := h1.tr gl.1 gr.1 er2 (Ly.cl (t := t2))
              have h3 := h2.tr gl.1 gr.1 (by rw [erC, er2]) (Ly.one (s := clM t2) (c := k) (a := a) (w := 0) (by rw [elC]; exact ⟨hl2.1, by omega⟩) (by rw [erC, er2]; exact gr.1) tkk.1 tkk.2.1)
              rw [List.nil_append, List.append_nil] at h3
              exact h3
            · rw [hHM]
              exact Eup HE 5 (HE.2.2.1 _ l k tkk.2.2 el)
          · obtain ⟨s6, e6, P6, sx6, z6⟩ := sx.emit (c := k) hp z0
            have hh : mh (opM t) = mh t + 1 := by rw [G1.mh, ea1, G.mh]
            have hmh := G.mh
            rw [elA, hh] at z3
            rw [e6, b1_some, lay_g (by rw [erC, er2]; exact gr) (by rw [elC]; exact ⟨z1, by omega⟩), b1_some]
            have sm' : zS (lyM (clM t2) a 0) 59 48 = p := by rw [lyM_S (by omega), clM_S (by omega)]; exact sm
            have ly1 := (Ly.one (s := clM t2) (c := k) (a := a) (w := 0) (by rw [elC]; exact ⟨z1, by omega⟩) (by rw [erC, er2]; exact gr.1) tkk.1 tkk.2.1).1
            have mh1 : mh (lyM (clM t2) a 0) = mh t2 := by
              show (zS (lyM (clM t2) a 0) 59 47).toInt = (zS t2 59 47).toInt
              rw [lyM_S (by omega), clM_S (by omega)]
            have one : (([k] : List Int32).length : Int) = 1 := rfl
            refine ⟨s6, _, rfl, rfl, PkX.av.tr (P2.tr P6), PkM.op.tr (Q2.tr (PkM.cl.tr PkM.ly)), Or.inr ⟨p, hp, sx6, sm', z6, ?_, ?_, ?_⟩⟩
            · rw [ly1, elC]; omega
            · rw [mh1]; exact z2
            · rw [ly1, mh1, elC]; omega
        · obtain ⟨f1, f2, P⟩ := failP (E := E) (m := HM d) G
          rw [if_neg (by rw [jlt, j8_]; exact z8), fX, if_pos (by rw [low g hg33.1 cg]; decide), f1, b1_some, b1_some, full z8]
          exact ⟨_, _, rfl, rfl, P⟩
      rw [sgX G nd]
      unfold f_X12_operand_r
      rw [G.look, b1_some, ej, b1_some]
      by_cases c33 : cuX s = 33
      · have m33 : cuM t = 33 := (G.ch (by decide)).1 c33
        obtain ⟨s', t', e1, e2, P⟩ := un 33 (-21) 3 (Or.inl ⟨rfl, rfl, rfl⟩) c33
        refine ⟨s', t', ?_, ?_, P⟩
        · rw [if_neg (fun z => by rw [c33] at z; exact absurd z.2 (by decide))]
          by_cases h : d < 8
          · rw [if_pos ⟨h, c33⟩]
            rw [if_pos h] at e1
            exact e1
          · rw [if_neg (fun z => h z.1), if_neg (fun z => h z.1)]
            rw [if_neg h] at e1
            exact e1
        · rw [if_pos (by rw [low 33 (by decide) c33]; decide), jn, if_pos m33]
          exact e2
      by_cases c45 : cuX s = 45
      · have m45 : cuM t = 45 := (G.ch (by decide)).1 c45
        obtain ⟨s', t', e1, e2, P⟩ := un 45 (-22) 4 (Or.inr ⟨rfl, rfl, rfl⟩) c45
        refine ⟨s', t', ?_, ?_, P⟩
        · rw [if_neg (fun z => by rw [c45] at z; exact absurd z.2 (by decide)), if_neg (fun z => c33 z.2)]
          by_cases h : d < 8
          · rw [if_pos ⟨h, c45⟩]
            rw [if_pos h] at e1
            exact e1
          · rw [if_neg (fun z => h z.1)]
            rw [if_neg h] at e1
            exact e1
        · rw [if_pos (by rw [low 45 (by decide) c45]; decide), jn, if_neg (by rw [m45]; decide), if_pos m45]
          exact e2
      have m33 : ¬ cuM t = 33 := fun z => c33 ((G.ch (by decide)).2 z)
      have m45 : ¬ cuM t = 45 := fun z => c45 ((G.ch (by decide)).2 z)
      by_cases c40 : cuX s = 40
      · have m40 : cuM t = 40 := (G.ch (by decide)).1 c40
        rw [if_pos (show j < 0 from by rw [low 40 (by decide) c40]; decide), jn, if_neg m33, if_neg m45, if_pos m40]
        by_cases z8 : d.toInt < 8
        · have lt := (G.lt (by decide) c40).2
          obtain ⟨G1, ea1⟩ := G.op lt
          have HI := eith_all HE (sing_l HE n (d + 1) (by rw [d1 z8]; omega) (by rw [d1 z8]; omega) (by rw [d1 z8]; omega))
          obtain ⟨s2, t2, eX, eM, P2, Q2, O⟩ := HI _ _ G1
          have eX' : f_X7_either (f_X7_single n) (avX s) (d + 1) = some s2 := eX
          have eM' : f_X12_either (f_X12_operand n) (opM t) = some t2 := eM
          have elA : ml (opM t) = ml t := by unfold ml; rw [opM_S (by omega)]
          have erA : mr (opM t) = mr t := by unfold mr; rw [opM_S (by omega)]
          have er2 : mr t2 = mr t := by rw [← erA]; unfold mr; rw [Q2.r]
          have hHM : HM d = HM (d + 1) + 5 := by unfold HM; rw [d1 z8]; omega
          rw [if_pos ⟨by rw [jlt, j8_]; exact z8, c40⟩, opens z8, bd_some, if_neg (by decide), eX', b1_some, eM', b1_some]
          rcases O with ⟨G2, l, l1, l2, em, ly, el⟩ | ⟨p, hp, sx, sm, z0, z1, z2, z3⟩
          · rw [ea1] at l2
            have l2' := l2
            rw [if_pos (show zS t2 59 48 < 0 from by rw [G2.2.2.1]; decide), G2.look, b1_some, takes_g G2 (by decide)]
            by_cases c41 : cuX s2 = 41
            · have m41 : cuM t2 = 41 := (G2.ch (by decide)).1 c41
              have lt2 := (G2.lt (by decide) c41).2
              obtain ⟨G3, ea3⟩ := G2.cl.av lt2
              rw [if_pos c41, bd_some, if_neg (by decide), if_pos m41, vl, st, vl, st]
              refine ⟨avX s2, avM (clM t2), rfl, rfl, PkX.av.tr (P2.tr PkX.av), PkM.op.tr (Q2.tr (PkM.cl.tr PkM.av)), Or.inl ⟨G3, l, l1, ?_, ?_, ?_, by rw [hHM]; exact el⟩⟩
              · rw [ea3]; omega
              · have h1 := (Em.av.tr gz.1 em).tr gz.1 (Em.av (t := s2))
                rw [List.nil_append, List.append_nil] at h1
                exact h1
              · have h1 := Ly.op.tr gl.1 gr.1 erA ly
                have h2 := h1.tr gl.1 gr.1 er2 (Ly.cl (t := t2))
                have h3 := h2.tr gl.1 gr.1 (by rw [← er2]; unfold mr; rw [clM_S (by omega)]) (Ly.av (t := clM t2))
                rw [List.nil_append, List.append_nil, List.append_nil] at h3
                exact h3
            · have m41 : ¬ cuM t2 = 41 := fun z => c41 ((G2.ch (by decide)).2 z)
              obtain ⟨f1, f2, P3, Q3, O3⟩ := failP (E := E) (m := HM d) G2
              rw [if_neg c41, bd_some, if_pos rfl, f1, b1_some, if_neg m41, f2, b1_some]
              refine ⟨_, _, rfl, rfl, PkX.av.tr (P2.tr P3), PkM.op.tr (Q2.tr Q3), Or.inr ?_⟩
              rcases O3 with O3 | ⟨p, hp, sx, sm, z0, z1, z2, z3⟩
              · exact absurd O3.1.2.1 (by
                  rw [zS_pS, if_pos ⟨rfl, rfl⟩]
                  intro z
                  have := G2.2.2.2.2.1.1
                  unfold xa at this
                  rw [z] at this
                  exact absurd this (by decide))
              · refine ⟨p, hp, sx, sm, z0, z1, z2, ?_⟩
                have e1 := ly.1
                have e2 := G2.mh
                have e3 := G.mh
                rw [elA] at e1
                omega
          · have e6 : (bd (f_X7_takes s2 41) fun r23 s23 => (if r23 = (0 : Int32) then (b1 (f_X7_fails s23) fun s25 => some s25) else some s23)) = b1 (f_X7_fails s2) fun s25 => some s25 := by rw [sx.takes hp (by decide), bd_some, if_pos rfl]
            have hh : mh (opM t) = mh t + 1 := by rw [G1.mh, ea1, G.mh]
            rw [elA, hh] at z3
            rw [e6, if_neg (show ¬ zS t2 59 48 < 0 from by rw [sm, jlt, jl0]; omega)]
            unfold f_X7_fails
            by_cases f : zS s2 24 5 < 0
            · rw [if_pos f, vl, st, b1_some]
              refine ⟨_, t2, rfl, rfl, PkX.av.tr (P2.tr ⟨fun q k z => by rw [zS_pS, if_neg (by omega)], fun _ _ _ => rfl, rfl⟩), PkM.op.tr Q2, Or.inr ⟨p, hp, Or.inl ?_, sm, ?_, z1, z2, by omega⟩⟩
              · rcases sx with sx | sx
                · rw [sx, jlt, jl0] at f
                  omega
                · rw [zS_pS, if_pos ⟨rfl, rfl⟩]
                  exact sx.2.1
              · unfold xz; rw [zS_pS, if_neg (by omega)]; exact z0
            · rw [if_neg f, b1_some]
              exact ⟨s2, t2, rfl, rfl, PkX.av.tr P2, PkM.op.tr Q2, Or.inr ⟨p, hp, sx, sm, z0, z1, z2, by omega⟩⟩
        · obtain ⟨f1, f2, P⟩ := failP (E := E) (m := HM d) G
          have h8' : ¬ d < 8 := by rw [jlt, j8_]; exact z8
          rw [if_neg (fun z => h8' z.1), if_neg (fun z => h8' z.1), if_neg (fun z => h8' z.1), fX, if_pos (by rw [low 40 (by decide) c40]; decide), f1, b1_some, b1_some]
          unfold f_X12_opens
          rw [if_pos (by rw [G.2.2.2.2.2.1]; exact Int32.toInt_inj.1 (by rw [j8_]; omega)), f2, b1_some, bd_some, if_pos rfl]
          exact ⟨_, _, rfl, rfl, P⟩
      have m40 : ¬ cuM t = 40 := fun z => c40 ((G.ch (by decide)).2 z)
      rw [if_neg (fun z => c40 z.2), if_neg (fun z => c33 z.2), if_neg (fun z => c45 z.2), fX]
      rcases hj with jm | ⟨j0, j7, jc, jl, ja, jw⟩
      · obtain ⟨f1, f2, P⟩ := failP (E := E) (m := HM d) G
        have wm : ¬ dg (cuM t) := fun q => nd (G.dg.1.2 q)
        rw [jm, if_pos (by decide), if_pos (by decide), f1, b1_some, b1_some, jn, if_neg m33, if_neg m45, if_neg m40, f_X12_operand_L148, f_X12_operand_L148_b, if_pos (by decide), G.look, b1_some, in_f (show ¬ ((48 : Int32).toInt ≤ (cuM t).toInt ∧ (cuM t).toInt ≤ (57 : Int32).toInt) from wm), b1_some, if_pos rfl, jn, if_pos rfl, f2, b1_some]
        exact ⟨_, _, rfl, rfl, P⟩
      · have hneg : ¬ j < 0 := by rw [jlt, jl0]; omega
        have lt : xa s < xn s := by rw [jlt] at jl; exact jl
        obtain ⟨G1, ea1⟩ := G.av lt
        have ezA : xz (avX s) = xz s := by unfold xz; rw [avX_S (by omega)]
        have elA : ml (avM t) = ml t := by unfold ml; rw [avM_S (by omega)]
        have erA : mr (avM t) = mr t := by unfold mr; rw [avM_S (by omega)]
        obtain ⟨G2, ea2⟩ := G1.em (c := -1 - j) (a := 2) (w := j) (by rw [ezA, ea1]; omega) (by rw [elA, ea1]; omega)
        rw [if_neg hneg, if_neg hneg, vl, st, show pS s 24 4 (zS s 24 4 + 1) = avX s from rfl, emit_g (by rw [G1.2.1]; decide) (by rw [ezA]; omega), b1_some, b1_some, b1_some, lay_g gr ⟨gl.1, by omega⟩, b1_some, vl, st, show pS (lyM t 2 j) 59 47 (zS (lyM t 2 j) 59 47 + 1) = avM (lyM t 2 j) from rfl, av_ly]
        refine ⟨_, _, rfl, rfl, PkX.av.tr PkX.em, PkM.av.tr PkM.ly, Or.inl ⟨G2, [-1 - j], Nat.le_refl _, ?_, ?_, ?_, Eup HE _ (HE.2.1 j ⟨j0, j7⟩)⟩⟩
        · rw [ea2, ea1]
          have : (([-1 - j] : List Int32).length : Int) = 1 := rfl
          omega
        · have h1 := Em.av.tr gz.1 (Em.one (s := avX s) (c := -1 - j) (by rw [ezA]; omega))
          rw [List.nil_append] at h1
          exact h1
        · have h1 := Ly.av.tr gl.1 gr.1 erA (Ly.one (s := avM t) (c := -1 - j) (a := 2) (w := j) (by rw [elA]; omega) (by rw [erA]; exact gr.1) ja jw)
          rw [List.nil_append] at h1
          exact h1
