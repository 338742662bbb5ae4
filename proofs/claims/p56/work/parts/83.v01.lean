/-! what codes are worth: a stack of at most B places -/
def jo (c a b : Int32) : Int32 := if c = -20 then (if b = 0 then 0 else a % b) else if c = -19 then (if b = 0 then 0 else a / b) else if c = -18 then a * b else if c = -17 then a - b else if c = -16 then a + b else if c = -15 then (if b < a then 1 else 0) else if c = -14 then (if a = b then 1 else 0) else if c = -13 then (if a < b then 1 else 0) else if c = -12 then (if a = 0 then 0 else if b = 0 then 0 else 1) else if c = -11 then (if a = 0 then (if b = 0 then 0 else 1) else 1) else 0
def wst2 (c a : Int32) (r : List Int32) : Option (List Int32) := match r with
  | [] => none
  | b :: r' => some (jo c b a :: r')
def wst (nm : Nat → Int32) (B : Nat) (c : Int32) (st : List Int32) : Option (List Int32) := if -11 < c then (if st.length < B then some ((if c < 0 then nm (-1 - c).toInt.toNat else c) :: st) else none) else match st with
  | [] => none
  | a :: r => if c = -21 then some ((if a = 0 then 1 else 0) :: r) else if c = -22 then some (-a :: r) else wst2 c a r
def wrun (nm : Nat → Int32) (B : Nat) : List Int32 → List Int32 → Option (List Int32)
  | [], st => some st
  | c :: l, st => (wst nm B c st).bind (wrun nm B l)
theorem wrun_app {nm : Nat → Int32} {B : Nat} : ∀ {l m st : List Int32}, wrun nm B (l ++ m) st = (wrun nm B l st).bind (wrun nm B m)
  | [], m, st => rfl
  | c :: l, m, st => by
    show (wst nm B c st).bind (wrun nm B (l ++ m)) = ((wst nm B c st).bind (wrun nm B l)).bind (wrun nm B m)
    cases wst nm B c st with
    | none => rfl
    | some st' => exact wrun_app
/-- the codes l are worth one number, m places suffice -/
def Wo (m : Nat) (l : List Int32) : Prop := (∀ c, c ∈ l → -9 < c ∨ c = -21 ∨ c = -22 ∨ bcode c) ∧ ∀ nm, ∃ v, ∀ (st : List Int32) (B : Nat), st.length + m ≤ B → wrun nm B l st = some (v :: st)
theorem WoE : EC Wo := by
  refine ⟨fun v hv => ⟨fun c hc => ?_, fun nm => ⟨v, fun st B h => ?_⟩⟩, fun j hj => ⟨fun c hc => ?_, fun nm => ⟨nm j.toInt.toNat, fun st B h => ?_⟩⟩, ?_, ?_, ?_⟩
  · rw [List.mem_singleton] at hc
    rw [hc]
    exact Or.inl (by rw [jlt, show (-9 : Int32).toInt = -9 from rfl]; omega)
  · show (wst nm B v st).bind _ = _
    unfold wst
    rw [if_pos (by rw [jlt, show (-11 : Int32).toInt = -11 from rfl]; omega), if_pos (by omega), if_neg (by rw [jlt, jl0]; omega)]
    rfl
  · rw [List.mem_singleton] at hc
    have e : (-1 - j).toInt = -1 - j.toInt := by rw [i32_sub (by rw [jm1]; omega) (by rw [jm1]; omega), jm1]
    rw [hc]
    exact Or.inl (by rw [jlt, e, show (-9 : Int32).toInt = -9 from rfl]; omega)
  · have e : (-1 - j).toInt = -1 - j.toInt := by rw [i32_sub (by rw [jm1]; omega) (by rw [jm1]; omega), jm1]
    have e2 : (-1 - (-1 - j)).toInt = j.toInt := by rw [i32_sub (by rw [jm1, e]; omega) (by rw [jm1, e]; omega), jm1, e]; omega
    show (wst nm B (-1 - j) st).bind _ = _
    unfold wst
    rw [if_pos (by rw [jlt, e, show (-11 : Int32).toInt = -11 from rfl]; omega), if_pos (by omega), if_pos (by rw [jlt, e, jl0]; omega), e2]
    rfl
  · intro m l c hc ⟨h1, h2⟩
    refine ⟨fun x hx => ?_, fun nm => ?_⟩
    · rcases List.mem_append.1 hx with h | h
      · exact h1 x h
      · rw [List.mem_singleton] at h
        rw [h]
        exact Or.inr (hc.imp (fun z => z) (fun z => Or.inl z))
    · obtain ⟨v, hv⟩ := h2 nm
      rcases hc with rfl | rfl
      · refine ⟨if v = 0 then 1 else 0, fun st B h => ?_⟩
        rw [wrun_app, hv st B h]
        show (wst nm B (-21) (v :: st)).bind _ = _
        unfold wst
        rw [if_neg (by decide)]
        show (if (-21 : Int32) = -21 then _ else _ : Option (List Int32)).bind _ = _
        rw [if_pos rfl]
        rfl
      · refine ⟨-v, fun st B h => ?_⟩
        rw [wrun_app, hv st B h]
        show (wst nm B (-22) (v :: st)).bind _ = _
        unfold wst
        rw [if_neg (by decide)]
        show (if (-22 : Int32) = -21 then _ else if (-22 : Int32) = -22 then _ else _ : Option (List Int32)).bind _ = _
        rw [if_neg (by decide), if_pos rfl]
        rfl
  · intro m a b c hc ⟨a1, a2⟩ ⟨b1, b2⟩
    refine ⟨fun x hx => ?_, fun nm => ?_⟩
    · rcases List.mem_append.1 hx with h | h
      · exact a1 x h
      · rcases List.mem_append.1 h with h | h
        · exact b1 x h
        · rw [List.mem_singleton] at h
          rw [h]
          exact Or.inr (Or.inr (Or.inr hc))
    · obtain ⟨va, ha⟩ := a2 nm
      obtain ⟨vb, hb⟩ := b2 nm
      refine ⟨jo c va vb, fun st B h => ?_⟩
      rw [wrun_app, ha st B h]
      show wrun nm B (b ++ [c]) (va :: st) = _
      rw [wrun_app, hb (va :: st) B (by rw [List.length_cons]; omega)]
      show (wst nm B c (vb :: va :: st)).bind _ = _
      have n1 : ¬ -11 < c := by
        rcases hc with rfl | rfl | rfl | rfl | rfl | rfl | rfl | rfl | rfl | rfl <;> decide
      have n2 : ¬ c = -21 ∧ ¬ c = -22 := by
        rcases hc with rfl | rfl | rfl | rfl | rfl | rfl | rfl | rfl | rfl | rfl <;> decide
      unfold wst
      rw [if_neg n1]
      show (if c = -21 then _ else if c = -22 then _ else _ : Option (List Int32)).bind _ = _
      rw [if_neg n2.1, if_neg n2.2]
      rfl
  · intro m l ⟨h1, h2⟩
    exact ⟨h1, fun nm => ⟨(h2 nm).choose, fun st B h => (h2 nm).choose_spec st B (by omega)⟩⟩
/-- both join alike -/
theorem joX {c a b : Int32} : f_X10_joined c a b = some (jo c a b) := by
  unfold f_X10_joined jo
  by_cases h20 : c = -20
  · rw [if_pos h20, if_pos h20]
    by_cases z : b = 0
    · rw [if_pos z, if_pos z]
    · rw [if_neg z, if_neg z, gd_t z]
  rw [if_neg h20, if_neg h20]
  by_cases h19 : c = -19
  · rw [if_pos h19, if_pos h19]
    by_cases z : b = 0
    · rw [if_pos z, if_pos z]
    · rw [if_neg z, if_neg z, gd_t z]
  rw [if_neg h19, if_neg h19]
  by_cases h18 : c = -18
  · rw [if_pos h18, if_pos h18]
  rw [if_neg h18, if_neg h18]
  by_cases h17 : c = -17
  · rw [if_pos h17, if_pos h17]
  rw [if_neg h17, if_neg h17]
  by_cases h16 : c = -16
  · rw [if_pos h16, if_pos h16]
  rw [if_neg h16, if_neg h16]
  by_cases h15 : c = -15
  · rw [if_pos h15, if_pos h15]
    by_cases z : b < a
    · rw [if_pos z, if_pos z]
    · rw [if_neg z, if_neg z]
  rw [if_neg h15, if_neg h15]
  by_cases h14 : c = -14
  · rw [if_pos h14, if_pos h14]
    by_cases z : a = b
    · rw [if_pos z, if_pos z]
    · rw [if_neg z, if_neg z]
  rw [if_neg h14, if_neg h14]
  by_cases h13 : c = -13
  · rw [if_pos h13, if_pos h13]
    by_cases z : a < b
    · rw [if_pos z, if_pos z]
    · rw [if_neg z, if_neg z]
  rw [if_neg h13, if_neg h13]
  by_cases h12 : c = -12
  · rw [if_pos h12, if_pos h12]
    by_cases z : a = 0
    · rw [if_pos z, if_pos z]
    · rw [if_neg z, if_neg z]
      by_cases w : b = 0
      · rw [if_pos w, if_pos w]
      · rw [if_neg w, if_neg w]
  rw [if_neg h12, if_neg h12]
  by_cases h11 : c = -11
  · rw [if_pos h11, if_pos h11]
    by_cases z : a = 0
    · rw [if_pos z, if_pos z]
      by_cases w : b = 0
      · rw [if_pos w, if_pos w]
      · rw [if_neg w, if_neg w]
    · rw [if_neg z, if_neg z]
  rw [if_neg h11, if_neg h11]
theorem div_m1 (a : Int32) : a / (-1) = -a := by
  refine Int32.toInt_inj.1 ?_
  rw [Int32.toInt_div, jm1, Int32.toInt_neg]
  simp
theorem mod_m1 (a : Int32) : a % (-1) = 0 := by
  refine Int32.toInt_inj.1 ?_
  rw [Int32.toInt_mod, jm1, jl0]
  simp
theorem joM {c a b : Int32} (h : bcode c) : f_X12_both (tkA c) a b = some (jo c a b) := by
  unfold f_X12_both
  rw [jn]
  rcases h with rfl | rfl | rfl | rfl | rfl | rfl | rfl | rfl | rfl | rfl
  · rw [show tkA (-11) = 124 by decide]
    simp only [show ¬ (124 : Int32) = 37 by decide, show ¬ (124 : Int32) = 38 by decide, show ¬ (124 : Int32) = 39 by decide, show ¬ (124 : Int32) = 40 by decide, show ¬ (124 : Int32) = 41 by decide, show ¬ (124 : Int32) = 42 by decide, show ¬ (124 : Int32) = 43 by decide, show ¬ (124 : Int32) = 44 by decide, show ¬ (124 : Int32) = 45 by decide, show ¬ (124 : Int32) = 46 by decide, show ¬ (124 : Int32) = 47 by decide, show ¬ (124 : Int32) = 48 by decide, show ¬ (124 : Int32) = 49 by decide, show ¬ (124 : Int32) = 50 by decide, show ¬ (124 : Int32) = 51 by decide, show ¬ (124 : Int32) = 52 by decide, show ¬ (124 : Int32) = 53 by decide, show ¬ (124 : Int32) = 54 by decide, show ¬ (124 : Int32) = 55 by decide, show ¬ (124 : Int32) = 56 by decide, show ¬ (124 : Int32) = 57 by decide, show ¬ (124 : Int32) = 58 by decide, show ¬ (124 : Int32) = 59 by decide, show ¬ (124 : Int32) = 60 by decide, show ¬ (124 : Int32) = 61 by decide, show ¬ (124 : Int32) = 62 by decide, if_false, ite_false]
    rw [show jo (-11) a b = (if a = 0 then (if b = 0 then 0 else 1) else 1) from rfl]
    by_cases z : a = 0
    · rw [if_pos z, if_pos z]
      by_cases w : b = 0
      · rw [if_pos w, if_pos w]
      · rw [if_neg w, if_neg w]
    · rw [if_neg z, if_neg z]
  · rw [show tkA (-12) = 38 by decide, if_neg (by decide), if_pos rfl, show jo (-12) a b = (if a = 0 then 0 else if b = 0 then 0 else 1) from rfl]
    by_cases z : a = 0
    · rw [if_pos z, if_pos z]
    · rw [if_neg z, if_neg z]
      by_cases w : b = 0
      · rw [if_pos w, if_pos w]
      · rw [if_neg w, if_neg w]
  · rw [show tkA (-13) = 60 by decide, show jo (-13) a b = (if a < b then 1 else 0) from rfl]
    iterate 23 rw [if_neg (by decide)]
    rw [if_pos rfl]
    by_cases z : a < b
    · rw [if_pos z, if_pos z]
    · rw [if_neg z, if_neg z]
  · rw [show tkA (-14) = 61 by decide, show jo (-14) a b = (if a = b then 1 else 0) from rfl]
    iterate 24 rw [if_neg (by decide)]
    rw [if_pos rfl]
    by_cases z : a = b
    · rw [if_pos z, if_pos z]
    · rw [if_neg z, if_neg z]
  · rw [show tkA (-15) = 62 by decide, show jo (-15) a b = (if b < a then 1 else 0) from rfl]
    iterate 25 rw [if_neg (by decide)]
    rw [if_pos rfl]
    by_cases z : b < a
    · rw [if_pos z, if_pos z]
    · rw [if_neg z, if_neg z]
  · rw [show tkA (-16) = 43 by decide, show jo (-16) a b = a + b from rfl]
    iterate 6 rw [if_neg (by decide)]
    rw [if_pos rfl]
  · rw [show tkA (-17) = 45 by decide, show jo (-17) a b = a - b from rfl]
    iterate 8 rw [if_neg (by decide)]
    rw [if_pos rfl]
  · rw [show tkA (-18) = 42 by decide, show jo (-18) a b = a * b from rfl]
    iterate 5 rw [if_neg (by decide)]
    rw [if_pos rfl]
  · rw [show tkA (-19) = 47 by decide, show jo (-19) a b = (if b = 0 then 0 else a / b) from rfl]
    iterate 10 rw [if_neg (by decide)]
    rw [if_pos rfl]
    by_cases z : b = 0
    · rw [if_pos z, if_pos z]
    · rw [if_neg z, if_neg z]
      by_cases w : b = -1
      · rw [if_pos w, w, div_m1]
      · rw [if_neg w, gd_t z]
  · rw [show tkA (-20) = 37 by decide, show jo (-20) a b = (if b = 0 then 0 else a % b) from rfl, if_pos rfl]
    by_cases z : b = 0
    · rw [if_pos z, if_pos z]
    · rw [if_neg z, if_neg z]
      by_cases w : b = -1
      · rw [if_pos w, w, mod_m1]
      · rw [if_neg w, gd_t z]
/-! the class's stack -/
def Sk (q : Nat) (s : SS) : List Int32 → Prop
  | [] => True
  | a :: r => zI s q r.length = a ∧ Sk q s r
theorem Sk.w {q i : Nat} {s : SS} {v : Int32} : ∀ {st : List Int32}, Sk q s st → st.length ≤ i → Sk q (pI s q i v) st
  | [], _, _ => trivial
  | a :: r, h, hi => by
    rw [List.length_cons] at hi
    exact ⟨by rw [zI_pI, if_neg (by omega)]; exact h.1, Sk.w h.2 (by omega)⟩
theorem Sk.push {q : Nat} {s : SS} {v : Int32} {st : List Int32} (h : Sk q s st) : Sk q (pI s q st.length v) (v :: st) := ⟨by rw [zI_pI, if_pos ⟨rfl, rfl⟩], h.w (Nat.le_refl _)⟩
def K29 (q : Nat) (s r : SS) : Prop := (∀ a b, a ≠ q → zI r a b = zI s a b) ∧ (∀ a b, zS r a b = zS s a b) ∧ r.2.2 = s.2.2
theorem K29.rf {q : Nat} {s : SS} : K29 q s s := ⟨fun _ _ _ => rfl, fun _ _ => rfl, rfl⟩
theorem K29.tr {q : Nat} {a b c : SS} (h : K29 q a b) (g : K29 q b c) : K29 q a c := ⟨fun x y z => (g.1 x y z).trans (h.1 x y z), fun x y => (g.2.1 x y).trans (h.2.1 x y), g.2.2.trans h.2.2⟩
theorem K29.w {q i : Nat} {s : SS} {v : Int32} : K29 q s (pI s q i v) := ⟨fun a b z => by rw [zI_pI, if_neg (fun w => z w.1)], fun _ _ => rfl, rfl⟩
def ecode (c : Int32) : Prop := -9 < c ∨ c = -21 ∨ c = -22 ∨ bcode c
theorem jm11 : (-11 : Int32).toInt = -11 := rfl
theorem j63 : (63 : Int32).toInt = 63 := rfl
/-- one code, what follows apart -/
theorem wrB {q0 : SS → Int32 → Option (Int32 × SS)} {nm : Nat → Int32} {c : Int32} {zs zs' : List Int32} {s : SS} {x3 x4 : Int32} (k4 : SS → Int32 → Int32 → Option (Int32 × SS)) (hc : ecode c) (h3 : x3.toInt = zs.length - 1) (hl : zs.length ≤ 64) (hS : Sk 29 s zs) (hn : ∀ j, nm j = if j < 8 then zI s 28 j else 0) (hr : wst nm 64 c zs = some zs') : ∃ s' x3', (if ((-11) : Int32) < c then (b1 (f_J9_min_7cf53 (x3 + (1 : Int32)) (63 : Int32)) fun r36 => (jn (fun (t37_0 : Int32) => (gd (inB r36 64) (st (pI s 29 (r36.toInt.toNat) t37_0) fun s39 => (k4 s39 r36 x4)))) fun k37 => (if c < (0 : Int32) then (b1 (f_X10_nameAt s (((-1) : Int32) - c)) fun r41 => (k37 r41)) else (k37 c)))) else (if x3 < (0 : Int32) then some (0, s) else (if c = ((-24) : Int32) then (if x4 = (0 : Int32) then (vl (x3 + (-1)) fun c5 => (k4 s c5 1)) else (q0 s x3)) else (if c = ((-23) : Int32) then (gd (inB x3 64) (jn (fun (t31_0 : Int32) => (vl (x3 + (-1)) fun c2 => (k4 s c2 t31_0))) fun k31 => (if (zI s 29 (x3.toInt.toNat)) = (0 : Int32) then (k31 0) else (k31 1)))) else (if c = ((-21) : Int32) then (gd (inB x3 64) (jn (fun (t26_0 : Int32) => (gd (inB x3 64) (st (pI s 29 (x3.toInt.toNat) t26_0) fun s28 => (k4 s28 x3 x4)))) fun k26 => (if (zI s 29 (x3.toInt.toNat)) = (0 : Int32) then (k26 1) else (k26 0)))) else (if c = ((-22) : Int32) then (gd (inB x3 64) (vl ((-(zI s 29 (x3.toInt.toNat)))) fun v22 => (gd (inB x3 64) (st (pI s 29 (x3.toInt.toNat) v22) fun s24 => (k4 s24 x3 x4))))) else (if (0 : Int32) < x3 then (vl (x3 + (-1)) fun v14 => (gd (inB v14 64) (vl ((v14 + (1 : Int32))) fun v16 => (gd (inB v16 64) (b1 (f_X10_joined c (zI s 29 (v14.toInt.toNat)) (zI s 29 (v16.toInt.toNat))) fun r18 => (gd (inB v14 64) (st (pI s 29 (v14.toInt.toNat) r18) fun s20 => (k4 s20 v14 x4)))))))) else (k4 s x3 x4)))))))) = k4 s' x3' x4 ∧ x3'.toInt = zs'.length - 1 ∧ zs'.length ≤ 64 ∧ Sk 29 s' zs' ∧ K29 29 s s' := by
  unfold wst at hr
  by_cases c1 : -11 < c
  · rw [if_pos c1] at hr
    rw [if_pos c1]
    by_cases hB : zs.length < 64
    · rw [if_pos hB] at hr
      have x31 : (x3 + 1).toInt = zs.length := by rw [i32_add (by rw [jl1]; omega) (by rw [jl1]; omega), jl1]; omega
      have emin : f_J9_min_7cf53 (x3 + 1) 63 = some (x3 + 1) := by
        unfold f_J9_min_7cf53
        rw [if_neg (by rw [jlt, j63, x31]; omega)]
      rw [emin, b1_some, jn]
      have et : (x3 + 1).toInt.toNat = zs.length := by omega
      have go : ∀ v, zs' = v :: zs → ∃ s' x3', (gd (inB (x3 + 1) 64) (st (pI s 29 ((x3 + 1).toInt.toNat) v) fun s39 => (k4 s39 (x3 + 1) x4))) = k4 s' x3' x4 ∧ x3'.toInt = zs'.length - 1 ∧ zs'.length ≤ 64 ∧ Sk 29 s' zs' ∧ K29 29 s s' := by
        intro v ev
        refine ⟨pI s 29 zs.length v, x3 + 1, ?_, ?_, ?_, ?_, K29.w⟩
        · rw [gd_t ⟨by omega, by omega⟩, st, et]
        · rw [ev, List.length_cons, x31]; omega
        · rw [ev, List.length_cons]; omega
        · rw [ev]; exact hS.push
      by_cases c2 : c < 0
      · rw [if_pos c2] at hr
        have e : (-1 - c).toInt = -1 - c.toInt := by
          rw [jlt, jl0] at c2
          rw [jlt, jm11] at c1
          rw [i32_sub (by rw [jm1]; omega) (by rw [jm1]; omega), jm1]
        have en : f_X10_nameAt s (-1 - c) = some (nm (-1 - c).toInt.toNat) := by
          rw [jlt, jl0] at c2
          unfold f_X10_nameAt
          rw [if_neg (by rw [jlt, e, jl0]; omega), hn]
          by_cases c8 : -1 - c < 8
          · rw [if_pos c8]
            rw [jlt, e, show (8 : Int32).toInt = 8 from rfl] at c8
            rw [gd_t ⟨by rw [e]; omega, by rw [e]; omega⟩, if_pos (by rw [e]; omega)]
          · rw [if_neg c8]
            rw [jlt, e, show (8 : Int32).toInt = 8 from rfl] at c8
            rw [if_neg (by rw [e]; omega)]
        rw [if_pos c2, en, b1_some]
        exact go _ (Option.some.inj hr).symm
      · rw [if_neg c2] at hr
        rw [if_neg c2]
        exact go _ (Option.some.inj hr).symm
    · rw [if_neg hB] at hr
      cases hr
  · rw [if_neg c1] at hr
    rw [if_neg c1]
    match zs, h3, hl, hS, hr with
    | [], _, _, _, hr => cases hr
    | a :: r, h3, hl, hS, hr =>
      rw [List.length_cons] at h3 hl
      have x30 : x3.toInt = r.length := by omega
      have et : x3.toInt.toNat = r.length := by omega
      have g3 : inB x3 64 := ⟨by omega, by omega⟩
      have n24 : ¬ c = -24 := fun z => by rw [z] at hc; unfold ecode bcode at hc; revert hc; decide
      have n23 : ¬ c = -23 := fun z => by rw [z] at hc; unfold ecode bcode at hc; revert hc; decide
      have ha : zI s 29 r.length = a := hS.1
      have hS2 : Sk 29 s r := hS.2
      have hr' : (if c = -21 then some ((if a = 0 then 1 else 0) :: r) else if c = -22 then some (-a :: r) else wst2 c a r) = some zs' := hr
      rw [if_neg (by rw [jlt, jl0]; omega), if_neg n24, if_neg n23]
      clear hr hS h3 hc
      by_cases c21 : c = -21
      · rw [if_pos c21] at hr'
        have ev := (Option.some.inj hr').symm
        rw [if_pos c21, gd_t g3, jn, et, ha]
        refine ⟨pI s 29 r.length (if a = 0 then 1 else 0), x3, ?_, by rw [ev, List.length_cons]; omega, by rw [ev, List.length_cons]; omega, by rw [ev]; exact hS2.push, K29.w⟩
        by_cases z : a = 0
        · rw [if_pos z, if_pos z]
          show gd _ _ = _
          rw [gd_t g3, st]
        · rw [if_neg z, if_neg z]
          show gd _ _ = _
          rw [gd_t g3, st]
      · rw [if_neg c21] at hr'
        rw [if_neg c21]
        by_cases c22 : c = -22
        · rw [if_pos c22] at hr'
          have ev := (Option.some.inj hr').symm
          refine ⟨pI s 29 r.length (-a), x3, ?_, by rw [ev, List.length_cons]; omega, by rw [ev, List.length_cons]; omega, by rw [ev]; exact hS2.push, K29.w⟩
          rw [if_pos c22, gd_t g3, vl, gd_t g3, st, et, ha]
        · rw [if_neg c22] at hr'
          rw [if_neg c22]
          match r, x30, et, hl, ha, hS2, hr' with
          | [], _, _, _, _, _, hr' => cases hr'
          | b :: r', x30, et, hl, ha, hS2, hr' =>
            have ev : zs' = jo c b a :: r' := (Option.some.inj hr').symm
            rw [List.length_cons] at x30 et hl ha
            have hb : zI s 29 r'.length = b := hS2.1
            have hS3 : Sk 29 s r' := hS2.2
            clear hr' hS2
            have v14 : (x3 + -1).toInt = r'.length := by
              rw [i32_add (by rw [jm1]; omega) (by rw [jm1]; omega), jm1]
              omega
            have v16 : (x3 + -1 + 1).toInt = r'.length + 1 := by
              rw [i32_add (by rw [v14, jl1]; omega) (by rw [v14, jl1]; omega), jl1, v14]
            have e14 : (x3 + -1).toInt.toNat = r'.length := by omega
            have e16 : (x3 + -1 + 1).toInt.toNat = r'.length + 1 := by omega
            have g14 : inB (x3 + -1) 64 := ⟨by omega, by omega⟩
            have g16 : inB (x3 + -1 + 1) 64 := ⟨by omega, by omega⟩
            have p0 : (0 : Int32) < x3 := by rw [jlt, jl0]; omega
            refine ⟨pI s 29 r'.length (jo c b a), x3 + -1, ?_, by rw [ev, List.length_cons, v14]; omega, by rw [ev, List.length_cons]; omega, by rw [ev]; exact hS3.push, K29.w⟩
            rw [if_pos p0, vl, gd_t g14, vl, gd_t g16, e14, e16, hb, ha, joX, b1_some, gd_t g14, st]
/-- the codes of an expression, one after the other -/
theorem wrX {q0 : SS → Int32 → Option (Int32 × SS)} {p0 : Nat} {nm : Nat → Int32} (hp : 126 ≤ p0) : ∀ (l zs zs' : List Int32) (s : SS) (x3 x4 x5 : Int32) (n : Nat), (∀ c, c ∈ l → ecode c) → (∀ (j : Nat) c, l[j]? = some c → zI s (p0 + 1) (x5.toInt.toNat + j) = c) → 0 ≤ x5.toInt → x5.toInt + l.length ≤ zN s (p0 + 1) → zN s (p0 + 1) ≤ 161 → x3.toInt = zs.length - 1 → zs.length ≤ 64 → Sk 29 s zs → (∀ j, nm j = if j < 8 then zI s 28 j else 0) → wrun nm 64 l zs = some zs' → ∃ s' x3' x5', f_X10_worth_L8 q0 p0 (n + l.length) s x3 x4 x5 = f_X10_worth_L8 q0 p0 n s' x3' x4 x5' ∧ x5'.toInt = x5.toInt + l.length ∧ x3'.toInt = zs'.length - 1 ∧ zs'.length ≤ 64 ∧ Sk 29 s' zs' ∧ K29 29 s s'
  | [], zs, zs', s, x3, x4, x5, n, _, _, h5, _, _, h3, hl, hS, hn, hr => by
    have e : zs = zs' := Option.some.inj hr
    rw [← e]
    exact ⟨s, x3, x5, rfl, by simp, h3, hl, hS, K29.rf⟩
  | c :: l, zs, zs', s, x3, x4, x5, n, hc, hj, h5, hN, h161, h3, hl, hS, hn, hr => by
    have hr0 : (wst nm 64 c zs).bind (wrun nm 64 l) = some zs' := hr
    cases hw : wst nm 64 c zs with
    | none => rw [hw] at hr0; cases hr0
    | some ws =>
      rw [hw] at hr0
      have hr1 : wrun nm 64 l ws = some zs' := hr0
      rw [List.length_cons] at hN
      have eN : (Int32.ofNat (zN s (p0 + 1))).toInt = zN s (p0 + 1) := nI_t (by omega)
      have ec : zI s (p0 + 1) x5.toInt.toNat = c := hj 0 c rfl
      have n1 : (x5 + 1).toInt = x5.toInt + 1 := by rw [i32_add (by rw [jl1]; omega) (by rw [jl1]; omega), jl1]
      obtain ⟨s1, x31, e1, a1, a2, a3, K1⟩ := wrB (q0 := q0) (x4 := x4) (fun (s4 : SS) (j4_3 : Int32) (j4_4 : Int32) => (vl (x5 + 1) fun v5 => (f_X10_worth_L8 q0 p0 (n + l.length) s4 j4_3 j4_4 v5))) (hc c (List.mem_cons_self ..)) h3 hl hS hn hw
      have zN1 : zN s1 (p0 + 1) = zN s (p0 + 1) := by
        show s1.2.2.2.2.2.1 (p0 + 1) = s.2.2.2.2.2.1 (p0 + 1)
        rw [K1.2.2]
      obtain ⟨s2, x32, x52, e2, b1, b2, b3, b4, K2⟩ := wrX hp l ws zs' s1 x31 x4 (x5 + 1) n (fun x hx => hc x (List.mem_cons_of_mem _ hx)) (fun j v hv => by
        rw [K1.1 _ _ (by omega), n1, show (x5.toInt + 1).toNat + j = x5.toInt.toNat + (j + 1) by omega]
        exact hj (j + 1) v hv) (by omega) (by rw [zN1, n1]; omega) (by rw [zN1]; exact h161) a1 a2 a3 (fun j => by rw [hn j, K1.1 28 j (by omega)]) hr1
      refine ⟨s2, x32, x52, ?_, by rw [b1, n1, List.length_cons]; omega, b2, b3, b4, K1.tr K2⟩
      rw [List.length_cons, ← Nat.add_assoc, f_X10_worth_L8, f_X10_worth_L8_b, if_pos (by rw [jlt, eN]; omega), gd_t ⟨h5, by omega⟩, vl, ec, jn, e1]
      show (vl (x5 + 1) fun v5 => _) = _
      rw [vl, e2]
/-! the reference's pile -/
theorem tkA_cases {c : Int32} (h : ¬ -11 < c) (hc : ecode c) : ¬ tkA c = 1 ∧ ¬ tkA c = 2 ∧ (c = -21 → tkA c = 3) ∧ (c = -22 → tkA c = 4) ∧ (¬ c = -21 → ¬ c = -22 → ¬ tkA c = 3 ∧ ¬ tkA c = 4 ∧ bcode c) := by
  rcases hc with z | rfl | rfl | z
  · exact absurd (show -11 < c from by rw [jlt, jm11]; rw [jlt, show (-9 : Int32).toInt = -9 from rfl] at z; omega) h
  · exact ⟨by decide, by decide, fun _ => by decide, fun z => absurd z (by decide), fun z => absurd rfl z⟩
  · exact ⟨by decide, by decide, fun z => absurd z (by decide), fun _ => by decide, fun _ z => absurd rfl z⟩
  · have hb := z
    rcases z with rfl | rfl | rfl | rfl | rfl | rfl | rfl | rfl | rfl | rfl <;> exact ⟨by decide, by decide, fun z => absurd z (by decide), fun z => absurd z (by decide), fun _ _ => ⟨by decide, by decide, hb⟩⟩
theorem wrM2 {c a b : Int32} {m : Nat} {s : SS} {x4 : Int32} (k5 : SS → Int32 → Option (Int32 × SS)) (hb : bcode c) (h4 : x4.toInt = m + 2) (hl : m + 2 ≤ 170) (ha : zI s 96 (m + 1) = a) (hb' : zI s 96 m = b) : (vl (x4 + (-1)) fun v22 => (vl ((v22 - (1 : Int32))) fun v23 => (gd (inB v23 170) (gd (inB v22 170) (b1 (f_X12_both (tkA c) (zI s 96 (v23.toInt.toNat)) (zI s 96 (v22.toInt.toNat))) fun r26 => (vl ((v22 - (1 : Int32))) fun v27 => (gd (inB v27 170) (st (pI s 96 (v27.toInt.toNat) r26) fun s29 => (k5 s29 v22))))))))) = k5 (pI s 96 m (jo c b a)) (x4 + (-1)) ∧ (x4 + (-1)).toInt = m + 1 := by
  have v22 : (x4 + (-1)).toInt = m + 1 := by
    rw [i32_add (by rw [jm1]; omega) (by rw [jm1]; omega), jm1]
    omega
  have v23 : (x4 + (-1) - 1).toInt = m := by
    rw [i32_sub (by rw [v22, jl1]; omega) (by rw [v22, jl1]; omega), jl1, v22]
    omega
  have e22 : (x4 + (-1)).toInt.toNat = m + 1 := by omega
  have e23 : (x4 + (-1) - 1).toInt.toNat = m := by omega
  have g22 : inB (x4 + (-1)) 170 := ⟨by omega, by omega⟩
  have g23 : inB (x4 + (-1) - 1) 170 := ⟨by omega, by omega⟩
  refine ⟨?_, v22⟩
  rw [vl, vl, gd_t g23, gd_t g22, e22, e23, hb', ha, joM hb, b1_some, vl, gd_t g23, st, e23]
theorem wrMb {nm : Nat → Int32} {c : Int32} {zs zs' : List Int32} {s : SS} {x4 x5 : Int32} (k5 : SS → Int32 → Option (Int32 × SS)) (hc : ecode c) (h4 : x4.toInt = zs.length) (hl : zs.length ≤ 170) (hS : Sk 96 s zs) (hn : ∀ j, j < 8 → nm j = zI s 95 j) (h5 : inB x5 2890) (h94 : zI s 94 x5.toInt.toNat = tkW c) (hr : wst nm 170 c zs = some zs') : ∃ s' x4', (jn ((jn (fun (t8_0 : Int32) => (gd (inB x4 170) (st (pI s 96 (x4.toInt.toNat) t8_0) fun s11 => (vl (x4 + 1) fun v12 => (k5 s11 v12))))) fun k8 => (if (tkA c) = (1 : Int32) then (gd (inB x5 2890) (k8 (zI s 94 (x5.toInt.toNat)))) else (gd (inB x5 2890) (vl ((zI s 94 (x5.toInt.toNat))) fun v15 => (gd (inB v15 8) (k8 (zI s 95 (v15.toInt.toNat))))))))) fun k7 => (if (tkA c) = (1 : Int32) then k7 else (if (tkA c) = (2 : Int32) then k7 else (if (tkA c) = (3 : Int32) then (vl ((x4 - (1 : Int32))) fun v36 => (gd (inB v36 170) (jn (fun (t38_0 : Int32) => (vl ((x4 - (1 : Int32))) fun v39 => (gd (inB v39 170) (st (pI s 96 (v39.toInt.toNat) t38_0) fun s41 => (k5 s41 x4))))) fun k38 => (if (zI s 96 (v36.toInt.toNat)) = (0 : Int32) then (k38 1) else (k38 0))))) else (if (tkA c) = (4 : Int32) then (vl ((x4 - (1 : Int32))) fun v30 => (gd (inB v30 170) (vl ((-(zI s 96 (v30.toInt.toNat)))) fun v32 => (vl ((x4 - (1 : Int32))) fun v33 => (gd (inB v33 170) (st (pI s 96 (v33.toInt.toNat) v32) fun s35 => (k5 s35 x4))))))) else (vl (x4 + (-1)) fun v22 => (vl ((v22 - (1 : Int32))) fun v23 => (gd (inB v23 170) (gd (inB v22 170) (b1 (f_X12_both (tkA c) (zI s 96 (v23.toInt.toNat)) (zI s 96 (v22.toInt.toNat))) fun r26 => (vl ((v22 - (1 : Int32))) fun v27 => (gd (inB v27 170) (st (pI s 96 (v27.toInt.toNat) r26) fun s29 => (k5 s29 v22)))))))))))))) = k5 s' x4' ∧ x4'.toInt = zs'.length ∧ zs'.length ≤ 170 ∧ Sk 96 s' zs' ∧ K29 96 s s' := by
  unfold wst at hr
  by_cases c1 : -11 < c
  · rw [if_pos c1] at hr
    have c9 : -9 < c := by
      rcases hc with z | rfl | rfl | z
      · exact z
      · exact absurd c1 (by decide)
      · exact absurd c1 (by decide)
      · rcases z with rfl | rfl | rfl | rfl | rfl | rfl | rfl | rfl | rfl | rfl <;> exact absurd c1 (by decide)
    rw [jlt, show (-9 : Int32).toInt = -9 from rfl] at c9
    by_cases hB : zs.length < 170
    · rw [if_pos hB] at hr
      have g4 : inB x4 170 := ⟨by omega, by omega⟩
      have et : x4.toInt.toNat = zs.length := by omega
      have x41 : (x4 + 1).toInt = zs.length + 1 := by rw [i32_add (by rw [jl1]; omega) (by rw [jl1]; omega), jl1]; omega
      have go : ∀ v, zs' = v :: zs → ∃ s' x4', (gd (inB x4 170) (st (pI s 96 (x4.toInt.toNat) v) fun s11 => (vl (x4 + 1) fun v12 => (k5 s11 v12)))) = k5 s' x4' ∧ x4'.toInt = zs'.length ∧ zs'.length ≤ 170 ∧ Sk 96 s' zs' ∧ K29 96 s s' := by
        intro v ev
        refine ⟨pI s 96 zs.length v, x4 + 1, ?_, ?_, ?_, ?_, K29.w⟩
        · rw [gd_t g4, st, vl, et]
        · rw [ev, List.length_cons, x41]; omega
        · rw [ev, List.length_cons]; omega
        · rw [ev]; exact hS.push
      rw [jn]
      by_cases c2 : c < 0
      · rw [if_pos c2] at hr
        have c2' := c2
        rw [jlt, jl0] at c2'
        have tA : tkA c = 2 := by unfold tkA; rw [if_neg (by rw [jlt, jm1]; omega), if_pos c1]
        have tW : tkW c = -1 - c := by unfold tkW; rw [if_neg (by rw [jlt, jm1]; omega), if_pos c1]
        have e : (-1 - c).toInt = -1 - c.toInt := by rw [i32_sub (by rw [jm1]; omega) (by rw [jm1]; omega), jm1]
        rw [if_neg (show ¬ tkA c = 1 from by rw [tA]; decide), if_pos tA, jn, if_neg (show ¬ tkA c = 1 from by rw [tA]; decide), gd_t h5, vl, h94, tW, gd_t ⟨by rw [e]; omega, by rw [e]; omega⟩, ← hn _ (by rw [e]; omega)]
        exact go _ (Option.some.inj hr).symm
      · rw [if_neg c2] at hr
        have c2' := c2
        rw [jlt, jl0] at c2'
        have tA : tkA c = 1 := by unfold tkA; rw [if_pos (by rw [jlt, jm1]; omega)]
        have tW : tkW c = c := by unfold tkW; rw [if_pos (by rw [jlt, jm1]; omega)]
        rw [if_pos tA, jn, if_pos tA, gd_t h5, h94, tW]
        exact go _ (Option.some.inj hr).symm
    · rw [if_neg hB] at hr
      cases hr
  · rw [if_neg c1] at hr
    obtain ⟨t1, t2, t3, t4, t5⟩ := tkA_cases c1 hc
    rw [jn, if_neg t1, if_neg t2]
    match zs, h4, hl, hS, hr with
    | [], _, _, _, hr => cases hr
    | a :: r, h4, hl, hS, hr =>
      rw [List.length_cons] at h4 hl
      have v36 : (x4 - 1).toInt = r.length := by rw [i32_sub (by rw [jl1]; omega) (by rw [jl1]; omega), jl1]; omega
      have e36 : (x4 - 1).toInt.toNat = r.length := by omega
      have g36 : inB (x4 - 1) 170 := ⟨by omega, by omega⟩
      have ha : zI s 96 r.length = a := hS.1
      have hS2 : Sk 96 s r := hS.2
      have hr' : (if c = -21 then some ((if a = 0 then 1 else 0) :: r) else if c = -22 then some (-a :: r) else wst2 c a r) = some zs' := hr
      clear hr hS hc
      by_cases c21 : c = -21
      · rw [if_pos c21] at hr'
        have ev := (Option.some.inj hr').symm
        rw [if_pos (t3 c21), vl, gd_t g36, jn, e36, ha]
        refine ⟨pI s 96 r.length (if a = 0 then 1 else 0), x4, ?_, by rw [ev, List.length_cons]; omega, by rw [ev, List.length_cons]; omega, by rw [ev]; exact hS2.push, K29.w⟩
        by_cases z : a = 0
        · rw [if_pos z, if_pos z]
          show vl _ _ = _
          rw [vl, gd_t g36, st, e36]
        · rw [if_neg z, if_neg z]
          show vl _ _ = _
          rw [vl, gd_t g36, st, e36]
      · rw [if_neg c21] at hr'
        by_cases c22 : c = -22
        · rw [if_pos c22] at hr'
          have ev := (Option.some.inj hr').symm
          refine ⟨pI s 96 r.length (-a), x4, ?_, by rw [ev, List.length_cons]; omega, by rw [ev, List.length_cons]; omega, by rw [ev]; exact hS2.push, K29.w⟩
          rw [if_neg (by rw [t4 c22]; decide), if_pos (t4 c22), vl, gd_t g36, vl, vl, gd_t g36, st, e36, ha]
        · rw [if_neg c22] at hr'
          obtain ⟨n3, n4, hb⟩ := t5 c21 c22
          rw [if_neg n3, if_neg n4]
          clear v36 e36 g36 t1 t2 t3 t4 t5 n3 n4 c21 c22 c1 h94 hn h5
          cases r with
          | nil => cases hr'
          | cons b r' =>
            have ev : zs' = jo c b a :: r' := (Option.some.inj hr').symm
            have l2 : (b :: r').length = r'.length + 1 := rfl
            rw [l2] at h4 hl ha
            obtain ⟨e, e'⟩ := wrM2 (m := r'.length) (a := a) (b := b) (s := s) (x4 := x4) k5 hb (by omega) (by omega) ha hS2.1
            exact ⟨_, _, e, by rw [e', ev, List.length_cons]; omega, by rw [ev, List.length_cons]; omega, by rw [ev]; exact hS2.2.push, K29.w⟩
theorem wrM {q0 : SS → Option (Int32 × SS)} {y1 y3 : Int32} {nm : Nat → Int32} (hE : ((170 : Int32) * y1 + y3).toInt ≤ 2890) : ∀ (l zs zs' : List Int32) (s : SS) (x4 x5 : Int32) (n : Nat), (∀ c, c ∈ l → ecode c) → (∀ (j : Nat) c, l[j]? = some c → zI s 93 (x5.toInt.toNat + j) = tkA c ∧ zI s 94 (x5.toInt.toNat + j) = tkW c) → 0 ≤ x5.toInt → x5.toInt + l.length ≤ ((170 : Int32) * y1 + y3).toInt → x4.toInt = zs.length → zs.length ≤ 170 → Sk 96 s zs → (∀ j, j < 8 → nm j = zI s 95 j) → wrun nm 170 l zs = some zs' → ∃ s' x4' x5', f_X12_worked_L12 q0 y1 y3 (n + l.length) s x4 x5 = f_X12_worked_L12 q0 y1 y3 n s' x4' x5' ∧ x5'.toInt = x5.toInt + l.length ∧ x4'.toInt = zs'.length ∧ zs'.length ≤ 170 ∧ Sk 96 s' zs' ∧ K29 96 s s'
  | [], zs, zs', s, x4, x5, n, _, _, h5, _, h4, hl, hS, hn, hr => by
    have e : zs = zs' := Option.some.inj hr
    rw [← e]
    exact ⟨s, x4, x5, rfl, by simp, h4, hl, hS, K29.rf⟩
  | c :: l, zs, zs', s, x4, x5, n, hc, hj, h5, hN, h4, hl, hS, hn, hr => by
    have hr0 : (wst nm 170 c zs).bind (wrun nm 170 l) = some zs' := hr
    cases hw : wst nm 170 c zs with
    | none => rw [hw] at hr0; cases hr0
    | some ws =>
      rw [hw] at hr0
      have hr1 : wrun nm 170 l ws = some zs' := hr0
      rw [List.length_cons] at hN
      obtain ⟨e93, e94⟩ := hj 0 c rfl
      have g5 : inB x5 2890 := ⟨h5, by omega⟩
      have n1 : (x5 + 1).toInt = x5.toInt + 1 := by rw [i32_add (by rw [jl1]; omega) (by rw [jl1]; omega), jl1]
      obtain ⟨s1, x41, e1, a1, a2, a3, K1⟩ := wrMb (x5 := x5) (fun (s5 : SS) (j5_4 : Int32) => (vl (x5 + 1) fun v6 => (f_X12_worked_L12 q0 y1 y3 (n + l.length) s5 j5_4 v6))) (hc c (List.mem_cons_self ..)) h4 hl hS hn g5 e94 hw
      obtain ⟨s2, x42, x52, e2, b1, b2, b3, b4, K2⟩ := wrM hE l ws zs' s1 x41 (x5 + 1) n (fun x hx => hc x (List.mem_cons_of_mem _ hx)) (fun j v hv => by
        rw [K1.1 _ _ (by omega), K1.1 _ _ (by omega), n1, show (x5.toInt + 1).toNat + j = x5.toInt.toNat + (j + 1) by omega]
        exact hj (j + 1) v hv) (by omega) (by rw [n1]; omega) a1 a2 a3 (fun j h => by rw [hn j h, K1.1 95 j (by omega)]) hr1
      refine ⟨s2, x42, x52, ?_, by rw [b1, n1, List.length_cons]; omega, b2, b3, b4, K1.tr K2⟩
      have e93' : zI s 93 x5.toInt.toNat = tkA c := e93
      rw [List.length_cons, ← Nat.add_assoc, f_X12_worked_L12, f_X12_worked_L12_b, if_pos (by rw [jlt]; omega), gd_t g5, vl, e93', jn, e1]
      show (vl (x5 + 1) fun v6 => _) = _
      rw [vl, e2]
