/-! compared -/
theorem Stk.look {s t s' t' : SS} {d : Int32} (G : Rd s t d) (Q : PkM t t') (h : Stk s t s' t') : ∃ r, f_X12_look t' = some r := by
  obtain ⟨p, hp, sx, sm, z0, z1, z2, z3⟩ := h
  have e := G.mh
  have hl := G.2.2.2.2.2.2.2.1
  have hn : (zS t' 59 37).toInt ≤ 160 := by
    rw [Q.1 59 37 (by omega), ← G.1.1]
    exact G.1.2.1.2
  exact ⟨_, look_g (by omega) hn⟩
section LVL2
variable {E : Nat → List Int32 → Prop} {m : Nat} {d : Int32} {rx : SS → Int32 → Option SS} {rm : SS → Option SS}
theorem cmpX_g {s t : SS} {d : Int32} {rx : SS → Int32 → Option SS} (G : Rd s t d) : (bd (f_X7_takes s 60) fun r2 s2 => (jn (fun (s3 : SS) (t3_0 : Int32) => (if t3_0 = (0 : Int32) then some s3 else (b1 (f_X7_sum rx s3 d) fun s5 => (b1 (f_X7_emit s5 t3_0) fun s6 => some s6)))) fun k3 => (if r2 = (0 : Int32) then (bd (f_X7_takes s2 61) fun r8 s8 => (if r8 = (0 : Int32) then (bd (f_X7_takes s8 62) fun r11 s11 => (if r11 = (0 : Int32) then (k3 s11 0) else (k3 s11 (-15)))) else (k3 s8 (-14)))) else (k3 s2 (-13))))) = if cuX s = 60 then (b1 (f_X7_sum rx (avX s) d) fun s5 => (b1 (f_X7_emit s5 (-13)) fun s6 => some s6)) else if cuX s = 61 then (b1 (f_X7_sum rx (avX s) d) fun s5 => (b1 (f_X7_emit s5 (-14)) fun s6 => some s6)) else if cuX s = 62 then (b1 (f_X7_sum rx (avX s) d) fun s5 => (b1 (f_X7_emit s5 (-15)) fun s6 => some s6)) else some s := by
  rw [takes_g G (by decide)]
  by_cases h1 : cuX s = 60
  · rw [if_pos h1, if_pos h1, bd_some, jn, if_neg (by decide)]
    rfl
  rw [if_neg h1, if_neg h1, bd_some, jn, if_pos rfl, takes_g G (by decide)]
  by_cases h2 : cuX s = 61
  · rw [if_pos h2, if_pos h2, bd_some, if_neg (by decide)]
    rfl
  rw [if_neg h2, if_neg h2, bd_some, if_pos rfl, takes_g G (by decide)]
  by_cases h3 : cuX s = 62
  · rw [if_pos h3, if_pos h3, bd_some, if_neg (by decide)]
    rfl
  rw [if_neg h3, if_neg h3, bd_some, if_pos rfl]
  rfl
theorem cmp_l (HE : EC E) (HR : HRd E m d (fun s => f_X7_sum rx s d) (fun t => f_X12_sum rm t)) : HRd E (m + 1) d (fun s => f_X7_compared rx s d) (fun t => f_X12_compared rm t) := by
  intro s t G
  obtain ⟨s1, t1, eX, eM, P1, Q1, O⟩ := HR s t G
  have eX' : f_X7_sum rx s d = some s1 := eX
  have eM' : f_X12_sum rm t = some t1 := eM
  show ∃ s' t', f_X7_compared rx s d = some s' ∧ f_X12_compared rm t = some t' ∧ PE E (m + 1) s t s' t' d
  unfold f_X7_compared f_X12_compared
  rw [eX', b1_some, eM', b1_some]
  have er : mr t1 = mr t := by unfold mr; rw [Q1.r]
  rcases O with ⟨G1, l, l1, l2, em, ly, el⟩ | ⟨p, hp, sx, sm, z⟩
  · rw [cmpX_g G1, G1.look, b1_some, if_pos (show zS t1 59 48 < 0 from by rw [G1.2.2.1]; decide), jn]
    have ha1 := G1.2.2.2.2.1
    have h160 := G1.1.2.1
    have go : ∀ g k, sgn g k → cuX s1 = g → ∃ s' t', (b1 (f_X7_sum rx (avX s1) d) fun s5 => (b1 (f_X7_emit s5 k) fun s6 => some s6)) = some s' ∧ (vl (((zS t1 59 47) + (1 : Int32))) fun v5 => (st (pS t1 59 47 v5) fun s6 => (b1 (f_X12_sum rm s6) fun s7 => (b1 (f_X12_lay s7 (cuM t1) 0) fun s8 => some s8)))) = some t' ∧ PE E (m + 1) s t s' t' d := by
      intro g k hk cg
      obtain ⟨g0, g1, g2, g3, g4, g5⟩ := hk
      have lt := (G1.lt g0 cg).2
      obtain ⟨G2, ea2⟩ := G1.av lt
      obtain ⟨s5, t8, eX5, eM8, P5, Q8, O5⟩ := HR _ _ G2
      have eX5' : f_X7_sum rx (avX s1) d = some s5 := eX5
      have eM8' : f_X12_sum rm (avM t1) = some t8 := eM8
      have ezA : xz (avX s1) = xz s1 := by unfold xz avX; rw [zS_pS, if_neg (by omega)]
      have elA : ml (avM t1) = ml t1 := by unfold ml avM; rw [zS_pS, if_neg (by omega)]
      have erA : mr (avM t1) = mr t1 := by unfold mr avM; rw [zS_pS, if_neg (by omega)]
      have er8 : mr t8 = mr (avM t1) := by unfold mr; rw [Q8.r]
      have ec : cuM t1 = g := (G1.ch ⟨g0, g1⟩).1 cg
      rw [vl, st, eX5', b1_some, show pS t1 59 47 (zS t1 59 47 + 1) = avM t1 from rfl, eM8', b1_some, ec]
      have emA : Em s1 (avX s1) [] := Em.nil (by unfold avX; rw [zS_pS, if_neg (by omega)]) (fun _ => rfl)
      have lyA : Ly t1 (avM t1) [] := Ly.nil (by unfold avM; rw [zS_pS, if_neg (by omega)]) (fun _ => rfl) (fun _ => rfl)
      rcases O5 with ⟨G5, l', m1, m2, em5, ly5, el5⟩ | ⟨p, hp, sx, sm, z0, z1, z2, z3⟩
      · have hz5' := G5.2.2.2.2.2.2.1
        have hl5' := G5.2.2.2.2.2.2.2.1
        have hr5' := G5.2.2.2.2.2.2.2.2
        have b5 := G5.2.2.2.2.1
        have h160' := G5.1.2.1
        have hz5 : xz s5 < xa s5 := by rw [em5.1, ezA]; rw [ea2] at m2; have := G1.2.2.2.2.2.2.1; omega
        have hl5 : ml t8 < xa s5 := by rw [ly5.1, elA]; rw [ea2] at m2; have := G1.2.2.2.2.2.2.2.1; omega
        obtain ⟨G6, ea6⟩ := G5.em (c := k) (a := g) (w := 0) hz5 hl5
        rw [emit_g (by rw [G5.2.1]; decide) ⟨hz5'.1, by omega⟩, b1_some, lay_g hr5' ⟨hl5'.1, by omega⟩, b1_some]
        refine ⟨_, _, rfl, rfl, P1.tr (PkX.av.tr (P5.tr PkX.em)), Q1.tr (PkM.av.tr (Q8.tr PkM.ly)), Or.inl ⟨G6, l ++ (l' ++ [k]), ?_, ?_, ?_, ?_, HE.2.2.2.1 m l l' k g3 (HE.2.2.2.2 m l el) el5⟩⟩
        · rw [List.length_append]; omega
        · rw [List.length_append, List.length_append, ea6]
          rw [ea2] at m2
          have : (([k] : List Int32).length : Int) = 1 := rfl
          omega
        · have h1 := (emA.tr G1.2.2.2.2.2.2.1.1 em5).tr G1.2.2.2.2.2.2.1.1 (Em.one (c := k) ⟨hz5'.1, by omega⟩)
          rw [List.nil_append] at h1
          exact em.tr G.2.2.2.2.2.2.1.1 h1
        · have h1 := (lyA.tr G1.2.2.2.2.2.2.2.1.1 G1.2.2.2.2.2.2.2.2.1 erA ly5).tr G1.2.2.2.2.2.2.2.1.1 G1.2.2.2.2.2.2.2.2.1 (by rw [er8, erA]) (Ly.one (c := k) (a := g) (w := 0) ⟨hl5'.1, by omega⟩ hr5'.1 g4 g5)
          rw [List.nil_append] at h1
          exact ly.tr G.2.2.2.2.2.2.2.1.1 G.2.2.2.2.2.2.2.2.1 er h1
      · obtain ⟨s6, e6, P6, sx6, z6⟩ := sx.emit (c := k) hp z0
        have er8' : mr t8 = mr t1 := by rw [er8, erA]
        have hh : mh (avM t1) = mh t1 + 1 := by rw [G2.mh, ea2, G1.mh]
        have hmh := G1.mh
        have hmh0 := G.mh
        have hl := G1.2.2.2.2.2.2.2.1
        have hly := ly.1
        rw [elA, hh] at z3
        rw [e6, b1_some, lay_g (by rw [er8']; exact G1.2.2.2.2.2.2.2.2) ⟨z1, by omega⟩, b1_some]
        have sm' : zS (lyM t8 g 0) 59 48 = p := by unfold lyM; rw [zS_pS, if_neg (by omega), zS_pI, zS_pI]; exact sm
        have ly1 := (Ly.one (s := t8) (c := k) (a := g) (w := 0) ⟨z1, by omega⟩ (by rw [er8']; exact G1.2.2.2.2.2.2.2.2.1) g4 g5).1
        have mh1 : mh (lyM t8 g 0) = mh t8 := by
          show (zS (lyM t8 g 0) 59 47).toInt = (zS t8 59 47).toInt
          unfold lyM
          rw [zS_pS, if_neg (by omega), zS_pI, zS_pI]
        have one : (([k] : List Int32).length : Int) = 1 := rfl
        refine ⟨s6, lyM t8 g 0, rfl, rfl, P1.tr (PkX.av.tr (P5.tr P6)), Q1.tr (PkM.av.tr (Q8.tr PkM.ly)), Or.inr ⟨p, hp, sx6, sm', z6, ?_, ?_, ?_⟩⟩
        · rw [ly1]; omega
        · rw [mh1]; exact z2
        · rw [ly1, mh1]
          omega
    by_cases h1 : cuX s1 = 60
    · rw [if_pos h1, if_pos ((G1.ch (by decide)).1 h1)]
      exact go 60 (-13) sn60 h1
    rw [if_neg h1, if_neg (fun z => h1 ((G1.ch (by decide)).2 z))]
    by_cases h2 : cuX s1 = 61
    · rw [if_pos h2, if_pos ((G1.ch (by decide)).1 h2)]
      exact go 61 (-14) sn61 h2
    rw [if_neg h2, if_neg (fun z => h2 ((G1.ch (by decide)).2 z))]
    by_cases h3 : cuX s1 = 62
    · rw [if_pos h3, if_pos ((G1.ch (by decide)).1 h3)]
      exact go 62 (-15) sn62 h3
    rw [if_neg h3, if_neg (fun z => h3 ((G1.ch (by decide)).2 z))]
    exact ⟨s1, t1, rfl, rfl, P1, Q1, Or.inl ⟨G1, l, l1, l2, em, ly, HE.2.2.2.2 m l el⟩⟩
  · obtain ⟨r, er⟩ := Stk.look (s' := s1) G Q1 ⟨p, hp, sx, sm, z⟩
    rw [sx.takes hp (by decide), bd_some, jn, if_pos rfl, sx.takes hp (by decide), bd_some, if_pos rfl, sx.takes hp (by decide), bd_some, if_pos rfl, er, b1_some, if_neg (show ¬ zS t1 59 48 < 0 from by rw [sm, jlt, jl0]; omega)]
    exact ⟨s1, t1, rfl, rfl, P1, Q1, Or.inr ⟨p, hp, sx, sm, z⟩⟩
theorem eith_all (HE : EC E) (HR : HRd E m d (fun s => rx s d) rm) : HRd E (m + 5) d (fun s => f_X7_either rx s d) (fun t => f_X12_either rm t) := eith_l HE (both_l HE (cmp_l HE (sum_l HE (prod_l HE HR))))
end LVL2
