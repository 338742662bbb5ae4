/-! levels of the readers -/
def bcode (c : Int32) : Prop := c = -11 ∨ c = -12 ∨ c = -13 ∨ c = -14 ∨ c = -15 ∨ c = -16 ∨ c = -17 ∨ c = -18 ∨ c = -19 ∨ c = -20
/-- what holds of codes, by the height that they need -/
def EC (E : Nat → List Int32 → Prop) : Prop := (∀ v : Int32, 0 ≤ v.toInt → E 1 [v]) ∧ (∀ j : Int32, 0 ≤ j.toInt ∧ j.toInt ≤ 7 → E 1 [-1 - j]) ∧ (∀ m l c, c = -21 ∨ c = -22 → E m l → E m (l ++ [c])) ∧ (∀ m a b c, bcode c → E (m + 1) a → E m b → E (m + 1) (a ++ (b ++ [c]))) ∧ ∀ m l, E m l → E (m + 1) l
def Suc (E : Nat → List Int32 → Prop) (m : Nat) (s t s' t' : SS) (d : Int32) : Prop := Rd s' t' d ∧ ∃ l : List Int32, 1 ≤ l.length ∧ (l.length : Int) ≤ xa s' - xa s ∧ Em s s' l ∧ Ly t t' l ∧ E m l
def PE (E : Nat → List Int32 → Prop) (m : Nat) (s t s' t' : SS) (d : Int32) : Prop := PkX s s' ∧ PkM t t' ∧ (Suc E m s t s' t' d ∨ Stk s t s' t')
/-- a loop's end: codes behind those that stand -/
def Suf (E : Nat → List Int32 → Prop) (m : Nat) (s t s' t' : SS) (d : Int32) : Prop := Rd s' t' d ∧ ∃ l : List Int32, (l.length : Int) ≤ xa s' - xa s ∧ Em s s' l ∧ Ly t t' l ∧ ∀ a, E m a → E m (a ++ l)
def PLp (E : Nat → List Int32 → Prop) (m : Nat) (s t s' t' : SS) (d : Int32) : Prop := PkX s s' ∧ PkM t t' ∧ (Suf E m s t s' t' d ∨ Stk s t s' t')
/-- a sign of a level, its code -/
def sgn (g k : Int32) : Prop := 0 ≤ g.toInt ∧ g.toInt < 128 ∧ (g.toInt < 48 ∨ 57 < g.toInt) ∧ bcode k ∧ tkA k = g ∧ tkW k = 0
theorem Rd.av {s t : SS} {d : Int32} (G : Rd s t d) (h : xa s < xn s) : Rd (avX s) (avM t) d ∧ xa (avX s) = xa s + 1 := by
  obtain ⟨T, e2, e3, e4, ha, ho, hz, hl, hr⟩ := G
  have n1 : (zS s 24 4 + 1).toInt = (zS s 24 4).toInt + 1 := by
    have := T.2.1
    unfold xa at *
    rw [i32_add (by rw [jl1]; omega) (by rw [jl1]; omega), jl1]
  have ea : xa (avX s) = xa s + 1 := by
    unfold xa avX
    rw [zS_pS, if_pos ⟨rfl, rfl⟩, n1]
  have en : xn (avX s) = xn s := by unfold xn; rw [PkX.av.n]
  refine ⟨⟨T.c PkX.av PkM.av, ?_, ?_, ?_, ?_, ?_, ?_, ?_, ?_⟩, ea⟩
  · unfold avX; rw [zS_pS, if_neg (by omega)]; exact e2
  · unfold avM; rw [zS_pS, if_neg (by omega)]; exact e3
  · unfold avX avM; rw [zS_pS, if_pos ⟨rfl, rfl⟩, zS_pS, if_pos ⟨rfl, rfl⟩, e4]
  · rw [ea, en]; omega
  · unfold avM; rw [zS_pS, if_neg (by omega)]; exact ho
  · have : xz (avX s) = xz s := by unfold xz avX; rw [zS_pS, if_neg (by omega)]
    rw [ea, this]; omega
  · have : ml (avM t) = ml t := by unfold ml avM; rw [zS_pS, if_neg (by omega)]
    rw [ea, this]; omega
  · have : mr (avM t) = mr t := by unfold mr avM; rw [zS_pS, if_neg (by omega)]
    rw [this]; exact hr
/-- both lay a code -/
theorem Rd.em {s t : SS} {d c a w : Int32} (G : Rd s t d) (hz : xz s < xa s) (hl : ml t < xa s) : Rd (emX s c) (lyM t a w) d ∧ xa (emX s c) = xa s := by
  obtain ⟨T, e2, e3, e4, ha, ho, hz0, hl0, hr⟩ := G
  have h160 := T.2.1
  have ea : xa (emX s c) = xa s := by unfold xa emX; rw [zS_pS, if_neg (by omega), zS_pI]
  have en : xn (emX s c) = xn s := by unfold xn; rw [PkX.em.n]
  have n1 : (zS s 24 3 + 1).toInt = (zS s 24 3).toInt + 1 := by
    unfold xz at *
    rw [i32_add (by rw [jl1]; omega) (by rw [jl1]; omega), jl1]
  have n2 : (zS t 59 51 + 1).toInt = (zS t 59 51).toInt + 1 := by
    unfold ml at *
    rw [i32_add (by rw [jl1]; omega) (by rw [jl1]; omega), jl1]
  refine ⟨⟨T.c PkX.em PkM.ly, ?_, ?_, ?_, ?_, ?_, ?_, ?_, ?_⟩, ea⟩
  · unfold emX; rw [zS_pS, if_neg (by omega), zS_pI]; exact e2
  · unfold lyM; rw [zS_pS, if_neg (by omega), zS_pI, zS_pI]; exact e3
  · unfold emX lyM; rw [zS_pS, if_neg (by omega), zS_pI, zS_pS, if_neg (by omega), zS_pI, zS_pI]; exact e4
  · rw [ea, en]; exact ha
  · unfold lyM; rw [zS_pS, if_neg (by omega), zS_pI, zS_pI]; exact ho
  · have : xz (emX s c) = xz s + 1 := by unfold xz emX; rw [zS_pS, if_pos ⟨rfl, rfl⟩, n1]
    rw [ea, this]; omega
  · have : ml (lyM t a w) = ml t + 1 := by
      unfold ml lyM
      rw [zS_pS, if_pos ⟨rfl, rfl⟩, n2]
    rw [ea, this]; omega
  · have : mr (lyM t a w) = mr t := by unfold mr; rw [PkM.ly.r]
    rw [this]; exact hr
theorem Rd.mh {s t : SS} {d : Int32} (G : Rd s t d) : mh t = xa s := by
  show (zS t 59 47).toInt = (zS s 24 4).toInt
  rw [G.2.2.2.1]
/-- the loop of a level: class LX, reference LM, over pieces RX, RM -/
theorem loopG {E : Nat → List Int32 → Prop} (HE : EC E) {m : Nat} {d : Int32} {LX : Nat → SS → Int32 → Option SS} {LM : Nat → SS → Option SS} {RX RM : SS → Option SS} {kd : Int32 → Int32 → Prop} (hkd : ∀ g k, kd g k → sgn g k)
    (hx0 : ∀ n s t x, Rd s t d → (∀ g k, kd g k → ¬ cuX s = g) → LX (n + 1) s x = some s)
    (hx1 : ∀ n s t x g k, kd g k → Rd s t d → cuX s = g → x < 160 → LX (n + 1) s x = b1 (RX (avX s)) fun s5 => b1 (f_X7_emit s5 k) fun s6 => LX n s6 (x + 1))
    (hxs : ∀ n s x p, 0 ≤ p.toInt → StX s p → LX (n + 1) s x = some s)
    (hm0 : ∀ n s t, Rd s t d → (∀ g k, kd g k → ¬ cuM t = g) → LM (n + 1) t = some t)
    (hm1 : ∀ n s t g k, kd g k → Rd s t d → cuM t = g → LM (n + 1) t = b1 (RM (avM t)) fun t8 => b1 (f_X12_lay t8 g 0) fun t10 => LM n t10)
    (hms : ∀ n t, ¬ zS t 59 48 < 0 → LM (n + 1) t = some t)
    (HR : ∀ s t, Rd s t d → ∃ s' t', RX s = some s' ∧ RM t = some t' ∧ PE E m s t s' t' d) :
    ∀ (n : Nat) (s t : SS) (x : Int32), Rd s t d → xn s - xa s < n → 0 ≤ x.toInt → x.toInt ≤ xa s → ∃ s' t', LX n s x = some s' ∧ LM n t = some t' ∧ PLp E (m + 1) s t s' t' d
  | 0, s, t, x, G, h, _, _ => by
    have := G.2.2.2.2.1
    omega
  | n + 1, s, t, x, G, hn, hx, hx2 => by
    have ha := G.2.2.2.2.1
    have h160 := G.1.2.1
    by_cases c : ∃ g k, kd g k ∧ cuX s = g
    · obtain ⟨g, k, hk, cg⟩ := c
      obtain ⟨g0, g1, g2, g3, g4, g5⟩ := hkd g k hk
      have lt := (G.lt g0 cg).2
      obtain ⟨G1, ea1⟩ := G.av lt
      obtain ⟨s5, t8, eX, eM, P1, Q1, O⟩ := HR _ _ G1
      have h1x : x < 160 := by rw [jlt, j160]; omega
      rw [hx1 n s t x g k hk G cg h1x, hm1 n s t g k hk G ((G.ch ⟨g0, g1⟩).1 cg), eX, b1_some, eM, b1_some]
      have ezA : xz (avX s) = xz s := by unfold xz avX; rw [zS_pS, if_neg (by omega)]
      have elA : ml (avM t) = ml t := by unfold ml avM; rw [zS_pS, if_neg (by omega)]
      have erA : mr (avM t) = mr t := by unfold mr avM; rw [zS_pS, if_neg (by omega)]
      have er8 : mr t8 = mr (avM t) := by unfold mr; rw [Q1.r]
      rcases O with ⟨G5, l, l1, l2, em, ly, el⟩ | ⟨p, hp, sx, sm, z0, z1, z2, z3⟩
      · have hz5 : xz s5 < xa s5 := by rw [em.1, ezA]; rw [ea1] at l2; have := G.2.2.2.2.2.2.1; omega
        have hl5 : ml t8 < xa s5 := by rw [ly.1, elA]; rw [ea1] at l2; have := G.2.2.2.2.2.2.2.1; omega
        have b5 := G5.2.2.2.2.1
        have hz5' := G5.2.2.2.2.2.2.1
        have hl5' := G5.2.2.2.2.2.2.2.1
        have hr5' := G5.2.2.2.2.2.2.2.2
        have n5 : xn s5 = xn s := by unfold xn; rw [P1.n, PkX.av.n]
        obtain ⟨G6, ea6⟩ := G5.em (c := k) (a := g) (w := 0) hz5 hl5
        have n6 : xn (emX s5 k) = xn s := by unfold xn at *; rw [PkX.em.n]; exact n5
        have xx : (x + 1).toInt = x.toInt + 1 := by rw [i32_add (by rw [jl1]; omega) (by rw [jl1]; omega), jl1]
        rw [emit_g (by rw [G5.2.1]; decide) ⟨hz5'.1, by omega⟩, b1_some, lay_g hr5' ⟨hl5'.1, by omega⟩, b1_some]
        obtain ⟨s', t', eL, eN, P2, Q2, O2⟩ := loopG HE hkd hx0 hx1 hxs hm0 hm1 hms HR n (emX s5 k) (lyM t8 g 0) (x + 1) G6 (by rw [n6, ea6]; rw [ea1] at l2; omega) (by omega) (by rw [ea6, xx]; rw [ea1] at l2; omega)
        refine ⟨s', t', eL, eN, PkX.av.tr (P1.tr (PkX.em.tr P2)), PkM.av.tr (Q1.tr (PkM.ly.tr Q2)), ?_⟩
        have emA : Em s (avX s) [] := Em.nil (by unfold avX; rw [zS_pS, if_neg (by omega)]) (fun _ => rfl)
        have lyA : Ly t (avM t) [] := Ly.nil (by unfold avM; rw [zS_pS, if_neg (by omega)]) (fun _ => rfl) (fun _ => rfl)
        have em5 : Em s (emX s5 k) (l ++ [k]) := by
          have := (emA.tr G.2.2.2.2.2.2.1.1 em).tr (by exact G.2.2.2.2.2.2.1.1) (Em.one (c := k) ⟨hz5'.1, by omega⟩)
          rw [List.nil_append] at this
          exact this
        have ly5 : Ly t (lyM t8 g 0) (l ++ [k]) := by
          have h1 := lyA.tr G.2.2.2.2.2.2.2.1.1 G.2.2.2.2.2.2.2.2.1 erA ly
          have := h1.tr G.2.2.2.2.2.2.2.1.1 G.2.2.2.2.2.2.2.2.1 (by rw [er8, erA]) (Ly.one (c := k) (a := g) (w := 0) ⟨hl5'.1, by omega⟩ hr5'.1 g4 g5)
          rw [List.nil_append] at this
          exact this
        have er6 : mr (lyM t8 g 0) = mr t := by
          have : mr (lyM t8 g 0) = mr t8 := by unfold mr; rw [PkM.ly.r]
          rw [this, er8, erA]
        rcases O2 with ⟨G7, l', m1, m2, m3, m4⟩ | ⟨p, hp, sx, sm, z0, z1, z2, z3⟩
        · refine Or.inl ⟨G7, (l ++ [k]) ++ l', ?_, em5.tr G.2.2.2.2.2.2.1.1 m2, ly5.tr G.2.2.2.2.2.2.2.1.1 G.2.2.2.2.2.2.2.2.1 er6 m3, fun a ea => ?_⟩
          · rw [List.length_append, List.length_append]
            rw [ea6] at m1
            rw [ea1] at l2
            have : ([k] : List Int32).length = 1 := rfl
            omega
          · rw [← List.append_assoc]
            exact m4 _ (HE.2.2.2.1 m a l k g3 ea el)
        · refine Or.inr ⟨p, hp, sx, sm, z0, z1, z2, ?_⟩
          have e1 : ml (lyM t8 g 0) = ml t + (l.length + 1) := by rw [ly5.1, List.length_append]; rfl
          have e2 : mh (lyM t8 g 0) = xa s5 := by rw [G6.mh, ea6]
          have e3 := G.mh
          rw [e1, e2] at z3
          rw [ea1] at l2
          omega
      · obtain ⟨s6, e6, P6, sx6, z6⟩ := sx.emit (c := k) hp z0
        have er8' : mr t8 = mr t := by rw [er8, erA]
        have hh : mh (avM t) = mh t + 1 := by rw [G1.mh, ea1, G.mh]
        have hl := G.2.2.2.2.2.2.2.1
        have hmh := G.mh
        rw [elA, hh] at z3
        rw [e6, b1_some, lay_g (by rw [er8']; exact G.2.2.2.2.2.2.2.2) ⟨z1, by omega⟩, b1_some]
        obtain ⟨n', hn'⟩ : ∃ n', n = n' + 1 := ⟨n - 1, by omega⟩
        have sm' : zS (lyM t8 g 0) 59 48 = p := by unfold lyM; rw [zS_pS, if_neg (by omega), zS_pI, zS_pI]; exact sm
        have ly1 := (Ly.one (s := t8) (c := k) (a := g) (w := 0) ⟨z1, by omega⟩ (by rw [er8']; exact G.2.2.2.2.2.2.2.2.1) g4 g5).1
        have mh1 : mh (lyM t8 g 0) = mh t8 := by
          show (zS (lyM t8 g 0) 59 47).toInt = (zS t8 59 47).toInt
          unfold lyM
          rw [zS_pS, if_neg (by omega), zS_pI, zS_pI]
        refine ⟨s6, lyM t8 g 0, by rw [hn', hxs n' s6 _ p hp sx6], by rw [hn', hms n' _ (by rw [sm', jlt, jl0]; omega)], PkX.av.tr (P1.tr P6), PkM.av.tr (Q1.tr PkM.ly), Or.inr ⟨p, hp, sx6, sm', z6, ?_, ?_, ?_⟩⟩
        · rw [ly1]; omega
        · rw [mh1]; exact z2
        · rw [ly1, mh1]
          have : (([k] : List Int32).length : Int) = 1 := rfl
          omega
    · refine ⟨s, t, hx0 n s t x G (fun g k hk z => c ⟨g, k, hk, z⟩), hm0 n s t G (fun g k hk z => c ⟨g, k, hk, (G.ch ⟨(hkd g k hk).1, (hkd g k hk).2.1⟩).2 z⟩), PkX.rf, PkM.rf, Or.inl ⟨G, [], ?_, Em.nil rfl (fun _ => rfl), Ly.nil rfl (fun _ => rfl) (fun _ => rfl), fun a ea => by rw [List.append_nil]; exact ea⟩⟩
      simp
