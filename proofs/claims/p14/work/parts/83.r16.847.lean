/-! ACTS: what they leave in the trace -/
def tX1 (s : SS) (v : Int32) : SS := pS (if zS s 15 11 < 24 then pI s 18 (zS s 15 11).toInt.toNat v else s) 15 11 (zS s 15 11 + 1)
def tM1 (s : SS) (v : Int32) : SS := pS (if zS s 59 87 < 24 then pI s 119 (zS s 59 87).toInt.toNat v else s) 59 87 (zS s 59 87 + 1)
def tX (s : SS) (l : List Int32) : SS := l.foldl tX1 s
def tM (s : SS) (l : List Int32) : SS := l.foldl tM1 s
def nX (s : SS) (m : Int) : Prop := 0 ≤ (zS s 15 11).toInt ∧ (zS s 15 11).toInt ≤ m
def nM (s : SS) (m : Int) : Prop := 0 ≤ (zS s 59 87).toInt ∧ (zS s 59 87).toInt ≤ m
theorem j24 : (24 : Int32).toInt = 24 := rfl
theorem zS_if {c : Prop} [Decidable c] {a b : SS} {q k : Nat} (h : zS a q k = zS b q k) : zS (if c then a else b) q k = zS b q k := by
  by_cases z : c
  · rw [if_pos z]; exact h
  · rw [if_neg z]
theorem zI_if {c : Prop} [Decidable c] {a b : SS} {q i : Nat} (h : zI a q i = zI b q i) : zI (if c then a else b) q i = zI b q i := by
  by_cases z : c
  · rw [if_pos z]; exact h
  · rw [if_neg z]
theorem tX1_n {s : SS} {v : Int32} : zS (tX1 s v) 15 11 = zS s 15 11 + 1 := by
  unfold tX1
  rw [zS_pS, if_pos ⟨rfl, rfl⟩]
theorem tM1_n {s : SS} {v : Int32} : zS (tM1 s v) 59 87 = zS s 59 87 + 1 := by
  unfold tM1
  rw [zS_pS, if_pos ⟨rfl, rfl⟩]
theorem tX1_S {s : SS} {v : Int32} {q k : Nat} (h : ¬ (q = 15 ∧ k = 11)) : zS (tX1 s v) q k = zS s q k := by
  unfold tX1
  rw [zS_pS, if_neg h]
  exact zS_if rfl
theorem tM1_S {s : SS} {v : Int32} {q k : Nat} (h : ¬ (q = 59 ∧ k = 87)) : zS (tM1 s v) q k = zS s q k := by
  unfold tM1
  rw [zS_pS, if_neg h]
  exact zS_if rfl
theorem tX1_I {s : SS} {v : Int32} {q i : Nat} (h : q ≠ 18) : zI (tX1 s v) q i = zI s q i := by
  unfold tX1
  rw [zI_pS]
  exact zI_if (by rw [zI_pI, if_neg (fun z => h z.1)])
theorem tM1_I {s : SS} {v : Int32} {q i : Nat} (h : q ≠ 119) : zI (tM1 s v) q i = zI s q i := by
  unfold tM1
  rw [zI_pS]
  exact zI_if (by rw [zI_pI, if_neg (fun z => h z.1)])
theorem tX1_J {s : SS} {v : Int32} : (tX1 s v).2.2 = s.2.2 := by
  unfold tX1
  by_cases z : zS s 15 11 < 24
  · rw [if_pos z]; rfl
  · rw [if_neg z]; rfl
theorem tM1_J {s : SS} {v : Int32} : (tM1 s v).2.2 = s.2.2 := by
  unfold tM1
  by_cases z : zS s 59 87 < 24
  · rw [if_pos z]; rfl
  · rw [if_neg z]; rfl
theorem nX.s {s : SS} {m : Int} {v : Int32} (h : nX s m) (hm : m ≤ 1000) : nX (tX1 s v) (m + 1) := by
  obtain ⟨h1, h2⟩ := h
  unfold nX
  rw [tX1_n, i32_add (by rw [jl1]; omega) (by rw [jl1]; omega), jl1]
  omega
theorem nM.s {s : SS} {m : Int} {v : Int32} (h : nM s m) (hm : m ≤ 1000) : nM (tM1 s v) (m + 1) := by
  obtain ⟨h1, h2⟩ := h
  unfold nM
  rw [tM1_n, i32_add (by rw [jl1]; omega) (by rw [jl1]; omega), jl1]
  omega
theorem runs_eq {s : SS} {m : Int} {v : Int32} (h : nX s m) : f_X0_runs s v = some (tX1 s v) := by
  unfold f_X0_runs tX1
  rw [jn]
  by_cases z : zS s 15 11 < 24
  · rw [if_pos z, if_pos z, vl, gd_t ⟨h.1, by rw [jlt, j24] at z; omega⟩, st]
    show (vl (zS (pI s 18 (zS s 15 11).toInt.toNat v) 15 11 + 1) fun v2 => st (pS (pI s 18 (zS s 15 11).toInt.toNat v) 15 11 v2) fun s3 => some s3) = _
    rw [vl, st, zS_pI]
  · rw [if_neg z, if_neg z]
    show (vl (zS s 15 11 + 1) fun v2 => st (pS s 15 11 v2) fun s3 => some s3) = _
    rw [vl, st]
theorem ran_eq {s : SS} {m : Int} {v : Int32} (h : nM s m) : f_X12_ran s v = some (tM1 s v) := by
  unfold f_X12_ran tM1
  rw [jn]
  by_cases z : zS s 59 87 < 24
  · rw [if_pos z, if_pos z, vl, gd_t ⟨h.1, by rw [jlt, j24] at z; omega⟩, st]
    show (vl (zS (pI s 119 (zS s 59 87).toInt.toNat v) 59 87 + 1) fun v2 => st (pS (pI s 119 (zS s 59 87).toInt.toNat v) 59 87 v2) fun s3 => some s3) = _
    rw [vl, st, zS_pI]
  · rw [if_neg z, if_neg z]
    show (vl (zS s 59 87 + 1) fun v2 => st (pS s 59 87 v2) fun s3 => some s3) = _
    rw [vl, st]
theorem TR.s {s t : SS} {v : Int32} (h : TR s t) : TR (tX1 s v) (tM1 t v) := by
  obtain ⟨h1, h2⟩ := h
  refine ⟨by rw [tX1_n, tM1_n, h1], fun i => ?_⟩
  unfold tX1 tM1
  rw [zI_pS, zI_pS, h1]
  by_cases z : zS t 59 87 < 24
  · rw [if_pos z, if_pos z, zI_pI, zI_pI]
    by_cases w : i = (zS t 59 87).toInt.toNat
    · rw [if_pos ⟨rfl, w⟩, if_pos ⟨rfl, w⟩]
    · rw [if_neg (fun e => w e.2), if_neg (fun e => w e.2)]; exact h2 i
  · rw [if_neg z, if_neg z]; exact h2 i
theorem TR.l : ∀ (l : List Int32) {s t : SS}, TR s t → TR (tX s l) (tM t l)
  | [], _, _, h => h
  | _ :: l, _, _, h => TR.l l h.s
/-- what a trace leaves as it was -/
def EX (s r : SS) : Prop := (∀ q k, ¬ (q = 15 ∧ k = 11) → zS r q k = zS s q k) ∧ (∀ q i, q ≠ 18 → zI r q i = zI s q i) ∧ r.2.2 = s.2.2
def EM (s r : SS) : Prop := (∀ q k, ¬ (q = 59 ∧ k = 87) → zS r q k = zS s q k) ∧ (∀ q i, q ≠ 119 → zI r q i = zI s q i) ∧ r.2.2 = s.2.2
theorem EX.l (l : List Int32) : ∀ {s : SS}, EX s (tX s l) := by
  induction l with
  | nil => exact ⟨fun _ _ _ => rfl, fun _ _ _ => rfl, rfl⟩
  | cons v l ih =>
    intro s
    obtain ⟨h1, h2, h3⟩ := @ih (tX1 s v)
    exact ⟨fun q k h => (h1 q k h).trans (tX1_S h), fun q i h => (h2 q i h).trans (tX1_I h), h3.trans tX1_J⟩
theorem EM.l (l : List Int32) : ∀ {s : SS}, EM s (tM s l) := by
  induction l with
  | nil => exact ⟨fun _ _ _ => rfl, fun _ _ _ => rfl, rfl⟩
  | cons v l ih =>
    intro s
    obtain ⟨h1, h2, h3⟩ := @ih (tM1 s v)
    exact ⟨fun q k h => (h1 q k h).trans (tM1_S h), fun q i h => (h2 q i h).trans (tM1_I h), h3.trans tM1_J⟩
theorem nX.l (l : List Int32) : ∀ {s : SS} {m : Int}, nX s m → m + l.length ≤ 1000 → nX (tX s l) (m + l.length) := by
  induction l with
  | nil => intro s m h _; exact (by rw [List.length_nil]; exact (by rw [Int.natCast_zero, Int.add_zero]; exact h))
  | cons v l ih =>
    intro s m h hm
    rw [List.length_cons] at hm ⊢
    have := ih (h.s (v := v) (by omega)) (by omega)
    unfold nX at this ⊢
    have e : tX s (v :: l) = tX (tX1 s v) l := rfl
    rw [e]
    omega
theorem nM.l (l : List Int32) : ∀ {s : SS} {m : Int}, nM s m → m + l.length ≤ 1000 → nM (tM s l) (m + l.length) := by
  induction l with
  | nil => intro s m h _; exact (by rw [List.length_nil]; exact (by rw [Int.natCast_zero, Int.add_zero]; exact h))
  | cons v l ih =>
    intro s m h hm
    rw [List.length_cons] at hm ⊢
    have := ih (h.s (v := v) (by omega)) (by omega)
    unfold nM at this ⊢
    have e : tM s (v :: l) = tM (tM1 s v) l := rfl
    rw [e]
    omega
theorem tX_app {s : SS} {l m : List Int32} : tX (tX s l) m = tX s (l ++ m) := by
  unfold tX
  rw [List.foldl_append]
theorem tM_app {s : SS} {l m : List Int32} : tM (tM s l) m = tM s (l ++ m) := by
  unfold tM
  rw [List.foldl_append]
theorem tXc {s : SS} {v : Int32} {l : List Int32} : tX (tX1 s v) l = tX s (v :: l) := rfl
theorem tMc {s : SS} {v : Int32} {l : List Int32} : tM (tM1 s v) l = tM s (v :: l) := rfl
theorem tX11 {s : SS} {v : Int32} : tX s [v] = tX1 s v := rfl
theorem tM11 {s : SS} {v : Int32} : tM s [v] = tM1 s v := rfl
/-- by the kind: what is run, what is given -/
def isW (k : Int32) : Prop := k = 1 ∨ k = 2 ∨ k = 3 ∨ k = 6
def lB (k : Int32) : List Int32 := if k = 5 then [61, 50, 20, 1] else if k = 4 then [50, 20, 1] else if k = 1 ∨ k = 2 ∨ k = 3 ∨ k = 6 then [20, 1] else [1]
def vB (k a x : Int32) : Int32 := if k = 5 then (x + 1 + a) * 2 ^^^ 7 else if k = 4 then (x + 1 + a) * 2 else if k = 1 ∨ k = 2 ∨ k = 3 ∨ k = 6 then (x + a) * 2 else x + a
theorem dep {d : Int32} (hd : 0 ≤ d.toInt ∧ d.toInt ≤ 20) : ¬ (40 : Int32) < d := by
  rw [jlt, show (40 : Int32).toInt = 40 from rfl]
  omega
theorem dep1 {d : Int32} {m : Int} (hd : 0 ≤ d.toInt ∧ d.toInt ≤ m) (hm : m ≤ 30) : 0 ≤ (d + 1).toInt ∧ (d + 1).toInt ≤ m + 1 := by
  rw [i32_add (by rw [jl1]; omega) (by rw [jl1]; omega), jl1]
  omega
theorem bX0 {n : Nat} {s : SS} {k a x d : Int32} {m : Int} (C : nX s m) (hd : 0 ≤ d.toInt ∧ d.toInt ≤ 20) (h1 : ¬ k = 1) (h2 : ¬ k = 2) (h3 : ¬ k = 3) (h4 : ¬ k = 4) (h5 : ¬ k = 5) (h6 : ¬ k = 6) : f_X0_boresFrom (n + 1) s k a x d = some (x + a, tX1 s 1) := by
  rw [f_X0_boresFrom, f_X0_boresFrom_r, if_neg (dep hd), jn, if_neg h1, if_neg h2, if_neg h3, if_neg h4, if_neg h5, if_neg h6, runs_eq C, b1_some]
theorem bXw {n : Nat} {s : SS} {k a x d : Int32} {m : Int} (C : nX s m) (hm : m ≤ 900) (hd : 0 ≤ d.toInt ∧ d.toInt ≤ 19) (h : k = 1 ∨ k = 2 ∨ k = 3 ∨ k = 6) : f_X0_boresFrom (n + 2) s k a x d = some ((x + a) * 2, tX s [20, 1]) := by
  have e : (b1 (f_X0_runs s 20) fun s3 => bd (f_X0_boresFrom (n + 1) s3 0 a x (d + 1)) fun r4 s4 => some (r4 * 2, s4)) = some ((x + a) * 2, tX s [20, 1]) := by
    rw [runs_eq C, b1_some, bX0 (C.s (by omega)) (dep1 hd (by omega)) (by decide) (by decide) (by decide) (by decide) (by decide) (by decide), bd_some]
    rw [← tX11, tXc]
  rw [f_X0_boresFrom, f_X0_boresFrom_r, if_neg (dep ⟨hd.1, by omega⟩), jn]
  rcases h with rfl | rfl | rfl | rfl
  · rw [if_pos rfl, e]
  · rw [if_neg (by decide), if_pos rfl, e]
  · rw [if_neg (by decide), if_neg (by decide), if_pos rfl, e]
  · rw [if_neg (by decide), if_neg (by decide), if_neg (by decide), if_neg (by decide), if_neg (by decide), if_pos rfl, e]
theorem bX4 {n : Nat} {s : SS} {a x d : Int32} {m : Int} (C : nX s m) (hm : m ≤ 800) (hd : 0 ≤ d.toInt ∧ d.toInt ≤ 18) : f_X0_boresFrom (n + 3) s 4 a x d = some ((x + 1 + a) * 2, tX s [50, 20, 1]) := by
  rw [f_X0_boresFrom, f_X0_boresFrom_r, if_neg (dep ⟨hd.1, by omega⟩), jn, if_neg (by decide), if_neg (by decide), if_neg (by decide), if_pos rfl, runs_eq C, b1_some, bXw (C.s (by omega)) (by omega) (dep1 hd (by omega)) (Or.inr (Or.inl rfl)), bd_some]
  rw [tXc]
theorem bX5 {n : Nat} {s : SS} {a x d : Int32} {m : Int} (C : nX s m) (hm : m ≤ 700) (hd : 0 ≤ d.toInt ∧ d.toInt ≤ 17) : f_X0_boresFrom (n + 4) s 5 a x d = some ((x + 1 + a) * 2 ^^^ 7, tX s [61, 50, 20, 1]) := by
  rw [f_X0_boresFrom, f_X0_boresFrom_r, if_neg (dep ⟨hd.1, by omega⟩), jn, if_neg (by decide), if_neg (by decide), if_neg (by decide), if_neg (by decide), if_pos rfl, runs_eq C, b1_some, bX4 (C.s (by omega)) (by omega) (dep1 hd (by omega)), bd_some]
  rw [tXc]
theorem bX {s : SS} {k a x d : Int32} {m : Int} (C : nX s m) (hm : m ≤ 700) (hd : 0 ≤ d.toInt ∧ d.toInt ≤ 17) : f_X0_boresFrom 8 s k a x d = some (vB k a x, tX s (lB k)) := by
  unfold vB lB
  by_cases h5 : k = 5
  · rw [if_pos h5, if_pos h5, h5, bX5 C hm hd]
  · rw [if_neg h5, if_neg h5]
    by_cases h4 : k = 4
    · rw [if_pos h4, if_pos h4, h4, bX4 C (by omega) ⟨hd.1, by omega⟩]
    · rw [if_neg h4, if_neg h4]
      by_cases hw : k = 1 ∨ k = 2 ∨ k = 3 ∨ k = 6
      · rw [if_pos hw, if_pos hw, bXw C (by omega) ⟨hd.1, by omega⟩ hw]
      · rw [if_neg hw, if_neg hw, bX0 C ⟨hd.1, by omega⟩ (fun z => hw (Or.inl z)) (fun z => hw (Or.inr (Or.inl z))) (fun z => hw (Or.inr (Or.inr (Or.inl z)))) h4 h5 (fun z => hw (Or.inr (Or.inr (Or.inr z))))]
        rfl
theorem und1 {k : Int32} : f_X12_isUnder k 1 = some (if k = 1 ∨ k = 2 ∨ k = 3 ∨ k = 4 ∨ k = 5 ∨ k = 6 then 1 else 0) := by
  unfold f_X12_isUnder
  rw [if_neg (by decide)]
  by_cases h1 : k = 1
  · rw [if_pos h1, if_pos (Or.inl h1)]
  rw [if_neg h1, if_pos rfl]
  by_cases h2 : k = 2
  · rw [if_pos h2, if_pos (Or.inr (Or.inl h2))]
  rw [if_neg h2]
  by_cases h3 : k = 3
  · rw [if_pos h3, if_pos (Or.inr (Or.inr (Or.inl h3)))]
  rw [if_neg h3]
  by_cases h4 : k = 4
  · rw [if_pos h4, if_pos (Or.inr (Or.inr (Or.inr (Or.inl h4))))]
  rw [if_neg h4]
  by_cases h5 : k = 5
  · rw [if_pos h5, if_pos (Or.inr (Or.inr (Or.inr (Or.inr (Or.inl h5)))))]
  rw [if_neg h5]
  by_cases h6 : k = 6
  · rw [if_pos h6, if_pos (Or.inr (Or.inr (Or.inr (Or.inr (Or.inr h6)))))]
  rw [if_neg h6, if_neg (by rintro (z | z | z | z | z | z) <;> contradiction)]
theorem und2 {k : Int32} : f_X12_isUnder k 2 = some (if k = 2 ∨ k = 3 ∨ k = 4 ∨ k = 5 then 1 else 0) := by
  unfold f_X12_isUnder
  rw [if_neg (by decide)]
  by_cases h2 : k = 2
  · rw [if_pos h2, if_pos (Or.inl h2)]
  rw [if_neg h2, if_neg (by decide), if_pos rfl]
  by_cases h3 : k = 3
  · rw [if_pos h3, if_pos (Or.inr (Or.inl h3))]
  rw [if_neg h3]
  by_cases h4 : k = 4
  · rw [if_pos h4, if_pos (Or.inr (Or.inr (Or.inl h4)))]
  rw [if_neg h4]
  by_cases h5 : k = 5
  · rw [if_pos h5, if_pos (Or.inr (Or.inr (Or.inr h5)))]
  rw [if_neg h5, if_neg (by rintro (z | z | z | z) <;> contradiction)]
theorem und4 {k : Int32} : f_X12_isUnder k 4 = some (if k = 4 ∨ k = 5 then 1 else 0) := by
  unfold f_X12_isUnder
  rw [if_neg (by decide)]
  by_cases h4 : k = 4
  · rw [if_pos h4, if_pos (Or.inl h4)]
  rw [if_neg h4, if_neg (by decide), if_neg (by decide), if_pos rfl]
  by_cases h5 : k = 5
  · rw [if_pos h5, if_pos (Or.inr h5)]
  rw [if_neg h5, if_neg (by rintro (z | z) <;> contradiction)]
/-- the reference -/
theorem pbM {s : SS} {a x : Int32} {m : Int} (C : nM s m) : f_X12_plainBores s a x = some (x + a, tM s [1]) := by
  unfold f_X12_plainBores
  rw [ran_eq C, b1_some]
  rfl
theorem wbM {s : SS} {a x : Int32} {m : Int} (C : nM s m) (hm : m ≤ 900) : f_X12_wayBores s a x = some ((x + a) * 2, tM s [20, 1]) := by
  unfold f_X12_wayBores
  rw [ran_eq C, b1_some, pbM (C.s (by omega)), bd_some]
  rw [tMc]
theorem sbM {s : SS} {a x : Int32} {m : Int} (C : nM s m) (hm : m ≤ 800) : f_X12_shaftBores s a x = some ((x + 1 + a) * 2, tM s [50, 20, 1]) := by
  unfold f_X12_shaftBores
  rw [ran_eq C, b1_some, wbM (C.s (by omega)) (by omega), bd_some]
  rw [tMc]
theorem bM {s : SS} {k a x : Int32} {m : Int} (C : nM s m) (hm : m ≤ 700) (ha : inB a 120) (hk : zI s 62 a.toInt.toNat = k) : f_X12_bores s a x = some (vB k a x, tM s (lB k)) := by
  unfold f_X12_bores vB lB
  rw [gd_t ha, hk]
  by_cases h5 : k = 5
  · rw [if_pos h5, if_pos h5, if_pos h5, ran_eq C, b1_some, sbM (C.s (by omega)) (by omega), bd_some]
    rw [tMc]
  rw [if_neg h5, if_neg h5, if_neg h5, gd_t ha]
  by_cases h4 : k = 4
  · rw [if_pos h4, if_pos h4, if_pos h4, sbM C (by omega), bd_some]
  rw [if_neg h4, if_neg h4, if_neg h4, gd_t ha, und1, b1_some]
  by_cases hw : k = 1 ∨ k = 2 ∨ k = 3 ∨ k = 6
  · rw [if_pos hw, if_pos hw, if_pos (show k = 1 ∨ k = 2 ∨ k = 3 ∨ k = 4 ∨ k = 5 ∨ k = 6 from by rcases hw with z | z | z | z <;> simp [z]), if_neg (by decide), wbM C (by omega), bd_some]
  · rw [if_neg hw, if_neg hw, if_neg (show ¬ (k = 1 ∨ k = 2 ∨ k = 3 ∨ k = 4 ∨ k = 5 ∨ k = 6) from by
      rintro (z | z | z | z | z | z)
      · exact hw (Or.inl z)
      · exact hw (Or.inr (Or.inl z))
      · exact hw (Or.inr (Or.inr (Or.inl z)))
      · exact h4 z
      · exact h5 z
      · exact hw (Or.inr (Or.inr (Or.inr z)))), if_pos rfl, pbM C, bd_some]
theorem EX.rf {s : SS} : EX s s := ⟨fun _ _ _ => rfl, fun _ _ _ => rfl, rfl⟩
theorem EX.tr {s r u : SS} (h : EX s r) (g : EX r u) : EX s u := ⟨fun q k z => (g.1 q k z).trans (h.1 q k z), fun q i z => (g.2.1 q i z).trans (h.2.1 q i z), g.2.2.trans h.2.2⟩
theorem EM.tr {s r u : SS} (h : EM s r) (g : EM r u) : EM s u := ⟨fun q k z => (g.1 q k z).trans (h.1 q k z), fun q i z => (g.2.1 q i z).trans (h.2.1 q i z), g.2.2.trans h.2.2⟩
theorem EM.rf {s : SS} : EM s s := ⟨fun _ _ _ => rfl, fun _ _ _ => rfl, rfl⟩
theorem EX.s {s : SS} {v : Int32} : EX s (tX1 s v) := ⟨fun _ _ h => tX1_S h, fun _ _ h => tX1_I h, tX1_J⟩
theorem EM.s {s : SS} {v : Int32} : EM s (tM1 s v) := ⟨fun _ _ h => tM1_S h, fun _ _ h => tM1_I h, tM1_J⟩
/-- body a of kind k, its width w, its strength g, whatever the trace -/
def OX (s : SS) (a k w g : Int32) : Prop := ∀ r, EX s r → f_X0_kindOf r a = some k ∧ f_X0_widthOf r a = some w ∧ f_X0_strengthOf r a = some g
def OM (s : SS) (a k w g : Int32) : Prop := inB a 120 ∧ ∀ r, EM s r → zI r 62 a.toInt.toNat = k ∧ zI r 64 a.toInt.toNat = w ∧ zI r 74 a.toInt.toNat = g
theorem OX.c {s r : SS} {a k w g : Int32} (h : OX s a k w g) (e : EX s r) : OX r a k w g := fun u z => h u (e.tr z)
theorem OM.c {s r : SS} {a k w g : Int32} (h : OM s a k w g) (e : EM s r) : OM r a k w g := ⟨h.1, fun u z => h.2 u (e.tr z)⟩
def isC (k : Int32) : Prop := k = 2 ∨ k = 3 ∨ k = 4 ∨ k = 5
def lC (k : Int32) : List Int32 := if k = 2 ∨ k = 3 ∨ k = 4 ∨ k = 5 then [30, 10] ++ lB k else if k = 7 then [80, 10] ++ lB k else [10] ++ lB k
def vC (k w g a x : Int32) : Int32 := if k = 2 ∨ k = 3 ∨ k = 4 ∨ k = 5 then vB k a x - 1 + w else if k = 7 then vB k a x - 1 - g else vB k a x - 1
theorem lB_len (k : Int32) : (lB k).length ≤ 4 := by
  unfold lB
  by_cases h5 : k = 5
  · rw [if_pos h5]; decide
  rw [if_neg h5]
  by_cases h4 : k = 4
  · rw [if_pos h4]; decide
  rw [if_neg h4]
  by_cases hw : k = 1 ∨ k = 2 ∨ k = 3 ∨ k = 6
  · rw [if_pos hw]; decide
  rw [if_neg hw]; decide
theorem lC_len (k : Int32) : (lC k).length ≤ 6 := by
  have := lB_len k
  unfold lC
  by_cases h5 : k = 2 ∨ k = 3 ∨ k = 4 ∨ k = 5
  · rw [if_pos h5, List.length_append]; show 2 + _ ≤ 6; omega
  rw [if_neg h5]
  by_cases h4 : k = 7
  · rw [if_pos h4, List.length_append]; show 2 + _ ≤ 6; omega
  rw [if_neg h4, List.length_append]; show 1 + _ ≤ 6; omega
/-- the class carries: the common end (kinds 0, 1, 6) -/
theorem cX0 {n : Nat} {s : SS} {c k w g a x d : Int32} {m : Int} (C : nX s m) (hm : m ≤ 600) (hd : 0 ≤ d.toInt ∧ d.toInt ≤ 16) (O : OX s a k w g) (hc : c = 0 ∨ c = 1 ∨ c = 6) : f_X0_carriesFrom (n + 1) s c a x d = some (vB k a x - 1, tX s ([10] ++ lB k)) := by
  have e : (b1 (f_X0_runs s 10) fun s7 => (b1 (f_X0_kindOf s7 a) fun r8 => (bd (f_X0_boresFrom 8 s7 r8 a x (d + (1 : Int32))) fun r10 s10 => some ((r10 - (1 : Int32)), s10)))) = some (vB k a x - 1, tX s ([10] ++ lB k)) := by
    rw [runs_eq C, b1_some, (O _ EX.s).1, b1_some, bX (C.s (by omega)) (by omega) (dep1 hd (by omega)), bd_some]
    first | (rw [tXc]; rfl) | (rw [tX11, tXc, tXc]; rfl) | rfl
  rw [f_X0_carriesFrom, f_X0_carriesFrom_r, if_neg (dep ⟨hd.1, by omega⟩), jn, jn, e]
  rcases hc with rfl | rfl | rfl
  · rw [if_neg (by decide), if_neg (by decide), if_neg (by decide), if_neg (by decide), if_neg (by decide), if_neg (by decide)]
  · rw [if_neg (by decide), if_neg (by decide), if_neg (by decide), if_neg (by decide), if_neg (by decide), if_neg (by decide)]
  · rw [if_neg (by decide), if_neg (by decide), if_neg (by decide), if_neg (by decide), if_pos rfl]
theorem cX {n : Nat} {s : SS} {k w g a x d : Int32} {m : Int} (C : nX s m) (hm : m ≤ 500) (hd : 0 ≤ d.toInt ∧ d.toInt ≤ 15) (hk : 0 ≤ k.toInt ∧ k.toInt ≤ 7) (O : OX s a k w g) : f_X0_carriesFrom (n + 2) s k a x d = some (vC k w g a x, tX s (lC k)) := by
  have e : (b1 (f_X0_runs s 30) fun s3 => (bd (f_X0_carriesFrom (n + 1) s3 1 a x (d + (1 : Int32))) fun r4 s4 => (b1 (f_X0_widthOf s4 a) fun r5 => some ((r4 + r5), s4)))) = some (vB k a x - 1 + w, tX s ([30, 10] ++ lB k)) := by
    rw [runs_eq C, b1_some, cX0 (C.s (by omega)) (by omega) (dep1 hd (by omega)) (O.c EX.s) (Or.inr (Or.inl rfl)), bd_some, (O _ (EX.s.tr (EX.l _))).2.1, b1_some]
    first | (rw [tXc]; rfl) | (rw [tX11, tXc, tXc]; rfl) | rfl
  have hk8 : k = 0 ∨ k = 1 ∨ k = 2 ∨ k = 3 ∨ k = 4 ∨ k = 5 ∨ k = 6 ∨ k = 7 := by
    have h : k.toInt = 0 ∨ k.toInt = 1 ∨ k.toInt = 2 ∨ k.toInt = 3 ∨ k.toInt = 4 ∨ k.toInt = 5 ∨ k.toInt = 6 ∨ k.toInt = 7 := by omega
    exact h.imp (fun z => Int32.toInt_inj.1 z) (fun h => h.imp (fun z => Int32.toInt_inj.1 z) (fun h => h.imp (fun z => Int32.toInt_inj.1 z) (fun h => h.imp (fun z => Int32.toInt_inj.1 z) (fun h => h.imp (fun z => Int32.toInt_inj.1 z) (fun h => h.imp (fun z => Int32.toInt_inj.1 z) (fun h => h.imp (fun z => Int32.toInt_inj.1 z) (fun z => Int32.toInt_inj.1 z)))))))
  unfold vC lC
  by_cases h5 : k = 2 ∨ k = 3 ∨ k = 4 ∨ k = 5
  · rw [if_pos h5, if_pos h5, f_X0_carriesFrom, f_X0_carriesFrom_r, if_neg (dep ⟨hd.1, by omega⟩), jn, jn, e]
    by_cases z2 : k = 2
    · rw [if_pos z2]
    rw [if_neg z2]
    by_cases z3 : k = 3
    · rw [if_pos z3]
    rw [if_neg z3]
    by_cases z4 : k = 4
    · rw [if_pos z4]
    rw [if_neg z4, if_pos (by rcases h5 with z | z | z | z <;> first | exact z | contradiction)]
  rw [if_neg h5, if_neg h5]
  by_cases h7 : k = 7
  · rw [if_pos h7, if_pos h7, f_X0_carriesFrom, f_X0_carriesFrom_r, if_neg (dep ⟨hd.1, by omega⟩), jn, jn, if_neg (by rw [h7]; decide), if_neg (by rw [h7]; decide), if_neg (by rw [h7]; decide), if_neg (by rw [h7]; decide), if_neg (by rw [h7]; decide), if_pos h7, runs_eq C, b1_some, cX0 (C.s (by omega)) (by omega) (dep1 hd (by omega)) (O.c EX.s) (Or.inl rfl), bd_some, (O _ (EX.s.tr (EX.l _))).2.2, b1_some]
    first | (rw [tXc]; rfl) | (rw [tX11, tXc, tXc]; rfl) | rfl
  rw [if_neg h7, if_neg h7]
  refine cX0 C (by omega) ⟨hd.1, by omega⟩ O ?_
  rcases hk8 with z | z | z | z | z | z | z | z
  · exact Or.inl z
  · exact Or.inr (Or.inl z)
  · exact absurd (Or.inl z) h5
  · exact absurd (Or.inr (Or.inl z)) h5
  · exact absurd (Or.inr (Or.inr (Or.inl z))) h5
  · exact absurd (Or.inr (Or.inr (Or.inr z))) h5
  · exact Or.inr (Or.inr z)
  · exact absurd z h7
def lH (k : Int32) : List Int32 := if k = 3 then [40, 11] ++ lC k else if k = 5 then [60, 11] else if k = 6 then [70, 11, 10] ++ lB k else [11]
def vH (k w g a x : Int32) : Int32 := if k = 3 then (x ^^^ a) - vC k w g a 1 else if k = 5 then -(x ^^^ a) else if k = 6 then (x ^^^ a) + (vB k a x - 1) else x ^^^ a
theorem hX0 {n : Nat} {s : SS} {k a x d : Int32} {m : Int} (C : nX s m) (hd : 0 ≤ d.toInt ∧ d.toInt ≤ 20) (h3 : ¬ k = 3) (h5 : ¬ k = 5) (h6 : ¬ k = 6) : f_X0_holdsFrom (n + 1) s k a x d = some (x ^^^ a, tX s [11]) := by
  have e : (b1 (f_X0_runs s 11) fun s3 => some ((x ^^^ a), s3)) = some (x ^^^ a, tX s [11]) := by
    rw [runs_eq C, b1_some]
    rfl
  rw [f_X0_holdsFrom, f_X0_holdsFrom_r, if_neg (dep hd), jn, e, if_neg h3]
  by_cases h4 : k = 4
  · rw [if_pos h4]
  · rw [if_neg h4, if_neg h5, if_neg h6]
theorem hXk {n : Nat} {s : SS} {k w g a x d : Int32} {m : Int} (C : nX s m) (hm : m ≤ 400) (hd : 0 ≤ d.toInt ∧ d.toInt ≤ 14) (hk : 0 ≤ k.toInt ∧ k.toInt ≤ 7) (O : OX s a k w g) : f_X0_holdsFrom (n + 2) s k a x d = some (vH k w g a x, tX s (lH k)) := by
  unfold vH lH
  by_cases h3 : k = 3
  · have C2 : nX (tX (tX1 s 40) [11]) (m + 1 + 1) := (C.s (by omega)).s (by omega)
    have O2 : OX (tX (tX1 s 40) [11]) a k w g := O.c (EX.s.tr EX.s)
    rw [if_pos h3, if_pos h3, f_X0_holdsFrom, f_X0_holdsFrom_r, if_neg (dep ⟨hd.1, by omega⟩), jn, if_pos h3, runs_eq C, b1_some, hX0 (C.s (by omega)) ⟨(dep1 hd (by omega)).1, by have := (dep1 hd (by omega)).2; omega⟩ (by decide) (by decide) (by decide), bd_some, (O _ (EX.s.tr (EX.l _))).1, b1_some, cX C2 (by omega) (dep1 hd (by omega)) hk O2, bd_some]
    first | (rw [tXc]; rfl) | (rw [tX11, tXc, tXc]; rfl) | rfl
  rw [if_neg h3, if_neg h3]
  by_cases h5 : k = 5
  · rw [if_pos h5, if_pos h5, f_X0_holdsFrom, f_X0_holdsFrom_r, if_neg (dep ⟨hd.1, by omega⟩), jn, if_neg h3, if_neg (by rw [h5]; decide), if_pos h5, runs_eq C, b1_some, hX0 (C.s (by omega)) ⟨(dep1 hd (by omega)).1, by have := (dep1 hd (by omega)).2; omega⟩ (by decide) (by decide) (by decide), bd_some]
    first | (rw [tXc]; rfl) | (rw [tX11, tXc, tXc]; rfl) | rfl
  rw [if_neg h5, if_neg h5]
  by_cases h6 : k = 6
  · have C2 : nX (tX (tX1 s 70) [11]) (m + 1 + 1) := (C.s (by omega)).s (by omega)
    have O2 : OX (tX (tX1 s 70) [11]) a k w g := O.c (EX.s.tr EX.s)
    rw [if_pos h6, if_pos h6, f_X0_holdsFrom, f_X0_holdsFrom_r, if_neg (dep ⟨hd.1, by omega⟩), jn, if_neg h3, if_neg (by rw [h6]; decide), if_neg h5, if_pos h6, runs_eq C, b1_some, hX0 (C.s (by omega)) ⟨(dep1 hd (by omega)).1, by have := (dep1 hd (by omega)).2; omega⟩ (by decide) (by decide) (by decide), bd_some, cX0 C2 (by omega) ⟨(dep1 hd (by omega)).1, by have := (dep1 hd (by omega)).2; omega⟩ O2 (Or.inr (Or.inl rfl)), bd_some]
    first | (rw [tXc]; rfl) | (rw [tX11, tXc, tXc]; rfl) | rfl
  rw [if_neg h6, if_neg h6]
  exact hX0 C ⟨hd.1, by omega⟩ h3 h5 h6
def lT (k : Int32) : List Int32 := if k = 4 ∨ k = 5 then [51, 2] ++ (lC k ++ lH k) else [2] ++ (lC k ++ lH k)
def vT (k w g a x : Int32) : Int32 := if k = 4 ∨ k = 5 then (vC k w g a x + vH k w g a 1) * 3 else vC k w g a x + vH k w g a 1
theorem tXb {n : Nat} {s : SS} {c k w g a x d : Int32} {m : Int} (C : nX s m) (hm : m ≤ 300) (hd : 0 ≤ d.toInt ∧ d.toInt ≤ 13) (hk : 0 ≤ k.toInt ∧ k.toInt ≤ 7) (O : OX s a k w g) (h4 : ¬ c = 4) (h5 : ¬ c = 5) : f_X0_tellsFrom (n + 1) s c a x d = some (vC k w g a x + vH k w g a 1, tX s ([2] ++ (lC k ++ lH k))) := by
  have hl := lC_len k
  have C2 := (C.s (v := 2) (by omega)).l (lC k) (by omega)
  rw [f_X0_tellsFrom, f_X0_tellsFrom_r, if_neg (dep ⟨hd.1, by omega⟩), jn, if_neg h4, if_neg h5, runs_eq C, b1_some, (O _ EX.s).1, b1_some, cX (C.s (by omega)) (by omega) ⟨(dep1 hd (by omega)).1, by have := (dep1 hd (by omega)).2; omega⟩ hk (O.c EX.s), bd_some, (O _ (EX.s.tr (EX.l _))).1, b1_some, hXk C2 (by omega) (dep1 hd (by omega)) hk (O.c (EX.s.tr (EX.l _))), bd_some, tX_app]
  first | (rw [tXc]; rfl) | (rw [tX11, tXc, tXc]; rfl) | rfl
theorem tXk {n : Nat} {s : SS} {k w g a x d : Int32} {m : Int} (C : nX s m) (hm : m ≤ 200) (hd : 0 ≤ d.toInt ∧ d.toInt ≤ 12) (hk : 0 ≤ k.toInt ∧ k.toInt ≤ 7) (O : OX s a k w g) : f_X0_tellsFrom (n + 2) s k a x d = some (vT k w g a x, tX s (lT k)) := by
  have e : (b1 (f_X0_runs s 51) fun s3 => (bd (f_X0_tellsFrom (n + 1) s3 2 a x (d + (1 : Int32))) fun r4 s4 => some ((r4 * (3 : Int32)), s4))) = some ((vC k w g a x + vH k w g a 1) * 3, tX s ([51, 2] ++ (lC k ++ lH k))) := by
    rw [runs_eq C, b1_some, tXb (C.s (by omega)) (by omega) (dep1 hd (by omega)) hk (O.c EX.s) (by decide) (by decide), bd_some]
    first | (rw [tXc]; rfl) | (rw [tX11, tXc, tXc]; rfl) | rfl
  unfold vT lT
  by_cases h : k = 4 ∨ k = 5
  · rw [if_pos h, if_pos h, f_X0_tellsFrom, f_X0_tellsFrom_r, if_neg (dep ⟨hd.1, by omega⟩), jn, e]
    by_cases h4 : k = 4
    · rw [if_pos h4]
    · rw [if_neg h4, if_pos (h.resolve_left h4)]
  · rw [if_neg h, if_neg h]
    exact tXb C (by omega) ⟨hd.1, by omega⟩ hk O (fun z => h (Or.inl z)) (fun z => h (Or.inr z))
/-- the reference -/
theorem pcM {s : SS} {k w g a x : Int32} {m : Int} (C : nM s m) (hm : m ≤ 600) (O : OM s a k w g) : f_X12_plainCarries s a x = some (vB k a x - 1, tM s ([10] ++ lB k)) := by
  unfold f_X12_plainCarries
  rw [ran_eq C, b1_some, bM (C.s (by omega)) (by omega) O.1 (O.2 _ EM.s).1, bd_some]
  first | (rw [tMc]; rfl) | (rw [tM11, tMc, tMc]; rfl) | rfl
theorem cM {s : SS} {k w g a x : Int32} {m : Int} (C : nM s m) (hm : m ≤ 500) (O : OM s a k w g) : f_X12_carries s a x = some (vC k w g a x, tM s (lC k)) := by
  unfold f_X12_carries vC lC
  rw [gd_t O.1, (O.2 _ EM.rf).1, und2, b1_some]
  by_cases h5 : k = 2 ∨ k = 3 ∨ k = 4 ∨ k = 5
  · rw [if_pos h5, if_pos h5, if_pos h5, if_neg (by decide), ran_eq C, b1_some, pcM (C.s (by omega)) (by omega) (O.c EM.s), bd_some, gd_t O.1, (O.2 _ (EM.s.tr (EM.l _))).2.1]
    first | (rw [tMc]; rfl) | (rw [tM11, tMc, tMc]; rfl) | rfl
  rw [if_neg h5, if_neg h5, if_neg h5, if_pos rfl, gd_t O.1]
  by_cases h7 : k = 7
  · rw [if_pos h7, if_pos h7, if_pos h7, ran_eq C, b1_some, pcM (C.s (by omega)) (by omega) (O.c EM.s), bd_some, gd_t O.1, (O.2 _ (EM.s.tr (EM.l _))).2.2]
    first | (rw [tMc]; rfl) | (rw [tM11, tMc, tMc]; rfl) | rfl
  rw [if_neg h7, if_neg h7, if_neg h7, pcM C (by omega) O, bd_some]
theorem phM {s : SS} {a x : Int32} {m : Int} (C : nM s m) : f_X12_plainHolds s a x = some (x ^^^ a, tM s [11]) := by
  unfold f_X12_plainHolds
  rw [ran_eq C, b1_some]
  rfl
theorem hMk {s : SS} {k w g a x : Int32} {m : Int} (C : nM s m) (hm : m ≤ 400) (O : OM s a k w g) : f_X12_holdsBy s a x = some (vH k w g a x, tM s (lH k)) := by
  unfold f_X12_holdsBy vH lH
  rw [gd_t O.1, jn, (O.2 _ EM.rf).1]
  by_cases h3 : k = 3
  · have C2 : nM (tM (tM1 s 40) [11]) (m + 1 + 1) := (C.s (by omega)).s (by omega)
    have O2 : OM (tM (tM1 s 40) [11]) a k w g := O.c (EM.s.tr EM.s)
    rw [if_pos h3, if_pos h3, if_pos h3, ran_eq C, b1_some, phM (C.s (by omega)), bd_some, cM C2 (by omega) O2, bd_some]
    first | (rw [tMc]; rfl) | (rw [tM11, tMc, tMc]; rfl) | rfl
  rw [if_neg h3, if_neg h3, if_neg h3]
  by_cases h5 : k = 5
  · rw [if_neg (by rw [h5]; decide), if_pos h5, if_pos h5, if_pos h5, ran_eq C, b1_some, phM (C.s (by omega)), bd_some]
    first | (rw [tMc]; rfl) | (rw [tM11, tMc, tMc]; rfl) | rfl
  rw [if_neg h5, if_neg h5, if_neg h5]
  by_cases h6 : k = 6
  · have C2 : nM (tM (tM1 s 70) [11]) (m + 1 + 1) := (C.s (by omega)).s (by omega)
    have O2 : OM (tM (tM1 s 70) [11]) a k w g := O.c (EM.s.tr EM.s)
    rw [if_neg (by rw [h6]; decide), if_pos h6, if_pos h6, if_pos h6, ran_eq C, b1_some, phM (C.s (by omega)), bd_some, pcM C2 (by omega) O2, bd_some]
    first | (rw [tMc]; rfl) | (rw [tM11, tMc, tMc]; rfl) | rfl
  rw [if_neg h6, if_neg h6, if_neg h6, phM C, bd_some]
  by_cases h4 : k = 4
  · rw [if_pos h4]
  · rw [if_neg h4]
theorem ptM {s : SS} {k w g a x : Int32} {m : Int} (C : nM s m) (hm : m ≤ 300) (O : OM s a k w g) : f_X12_plainTells s a x = some (vC k w g a x + vH k w g a 1, tM s ([2] ++ (lC k ++ lH k))) := by
  have hl := lC_len k
  have C2 := (C.s (v := 2) (by omega)).l (lC k) (by omega)
  unfold f_X12_plainTells
  rw [ran_eq C, b1_some, cM (C.s (by omega)) (by omega) (O.c EM.s), bd_some, hMk C2 (by omega) (O.c (EM.s.tr (EM.l _))), bd_some, tM_app]
  first | (rw [tMc]; rfl) | (rw [tM11, tMc, tMc]; rfl) | rfl
theorem teM {s : SS} {k w g a x : Int32} {m : Int} (C : nM s m) (hm : m ≤ 200) (O : OM s a k w g) : f_X12_tells s a x = some (vT k w g a x, tM s (lT k)) := by
  unfold f_X12_tells vT lT
  rw [gd_t O.1, (O.2 _ EM.rf).1, und4, b1_some]
  by_cases h : k = 4 ∨ k = 5
  · rw [if_pos h, if_pos h, if_pos h, if_neg (by decide), ran_eq C, b1_some, ptM (C.s (by omega)) (by omega) (O.c EM.s), bd_some]
    first | (rw [tMc]; rfl) | (rw [tM11, tMc, tMc]; rfl) | rfl
  · rw [if_neg h, if_neg h, if_neg h, if_pos rfl, ptM C (by omega) O, bd_some]
def lA (k b : Int32) : List Int32 := if b = 0 then lB k else if b = 1 then lC k else if b = 2 then lH k else if b = 3 then lT k else []
def vA (k w g a b x : Int32) : Int32 := if b = 0 then vB k a x else if b = 1 then vC k w g a x else if b = 2 then vH k w g a x else if b = 3 then vT k w g a x else 0
theorem actX {s : SS} {k w g a b x : Int32} (hk : 0 ≤ k.toInt ∧ k.toInt ≤ 7) (O : OX (pS s 15 11 0) a k w g) : f_X11_act s a b x = some (vA k w g a b x, tX (pS s 15 11 0) (lA k b)) := by
  have C : nX (pS s 15 11 0) 0 := by
    unfold nX
    rw [zS_pS, if_pos ⟨rfl, rfl⟩]
    decide
  have d0 : 0 ≤ (0 : Int32).toInt ∧ (0 : Int32).toInt ≤ 0 := ⟨by decide, by decide⟩
  unfold f_X11_act f_X0_acted vA lA
  rw [st, (O _ EX.rf).1, b1_some, if_neg (by rw [jlt, jl0]; omega)]
  by_cases h0 : b = 0
  · rw [if_pos h0, if_pos h0, if_pos h0, bX C (by omega) ⟨d0.1, by omega⟩, bd_some, bd_some]
  rw [if_neg h0, if_neg h0, if_neg h0]
  by_cases h1 : b = 1
  · rw [if_pos h1, if_pos h1, if_pos h1, cX C (by omega) ⟨d0.1, by omega⟩ hk O, bd_some, bd_some]
  rw [if_neg h1, if_neg h1, if_neg h1]
  by_cases h2 : b = 2
  · rw [if_pos h2, if_pos h2, if_pos h2, hXk C (by omega) ⟨d0.1, by omega⟩ hk O, bd_some, bd_some]
  rw [if_neg h2, if_neg h2, if_neg h2]
  by_cases h3 : b = 3
  · rw [if_pos h3, if_pos h3, if_pos h3, tXk C (by omega) ⟨d0.1, by omega⟩ hk O, bd_some, bd_some]
  rw [if_neg h3, if_neg h3, if_neg h3, bd_some]
  first | (rw [tMc]; rfl) | (rw [tM11, tMc, tMc]; rfl) | rfl
theorem j3_ : (3 : Int32).toInt = 3 := rfl
theorem actM {s : SS} {k w g a b x : Int32} (hb : f_X12_isBody (pS s 59 87 0) a = some 1) (O : OM (pS s 59 87 0) a k w g) : f_X12_act s a b x = some (vA k w g a b x, tM (pS s 59 87 0) (lA k b)) := by
  have C : nM (pS s 59 87 0) 0 := by
    unfold nM
    rw [zS_pS, if_pos ⟨rfl, rfl⟩]
    decide
  unfold f_X12_act vA lA
  rw [st, hb, b1_some, if_neg (by decide)]
  by_cases h0 : b = 0
  · rw [in_t (by rw [h0]; decide), b1_some, if_neg (by decide), if_pos h0, if_pos h0, if_pos h0, bM C (by omega) O.1 (O.2 _ EM.rf).1, bd_some]
  by_cases h1 : b = 1
  · rw [in_t (by rw [h1]; decide), b1_some, if_neg (by decide), if_neg h0, if_neg h0, if_neg h0, if_pos h1, if_pos h1, if_pos h1, cM C (by omega) O, bd_some]
  by_cases h2 : b = 2
  · rw [in_t (by rw [h2]; decide), b1_some, if_neg (by decide), if_neg h0, if_neg h0, if_neg h0, if_neg h1, if_neg h1, if_neg h1, if_pos h2, if_pos h2, if_pos h2, hMk C (by omega) O, bd_some]
  by_cases h3 : b = 3
  · rw [in_t (by rw [h3]; decide), b1_some, if_neg (by decide), if_neg h0, if_neg h0, if_neg h0, if_neg h1, if_neg h1, if_neg h1, if_neg h2, if_neg h2, if_neg h2, if_pos h3, if_pos h3, teM C (by omega) O, bd_some]
  rw [in_f (fun z => by
    rw [jl0, j3_] at z
    have h : b.toInt = 0 ∨ b.toInt = 1 ∨ b.toInt = 2 ∨ b.toInt = 3 := by omega
    rcases h with h | h | h | h
    · exact h0 (Int32.toInt_inj.1 h)
    · exact h1 (Int32.toInt_inj.1 h)
    · exact h2 (Int32.toInt_inj.1 h)
    · exact h3 (Int32.toInt_inj.1 h)), b1_some, if_pos rfl, if_neg h0, if_neg h0, if_neg h1, if_neg h1, if_neg h2, if_neg h2, if_neg h3, if_neg h3]
  first | (rw [tMc]; rfl) | (rw [tM11, tMc, tMc]; rfl) | rfl
