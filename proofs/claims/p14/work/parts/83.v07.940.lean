/-! LOGS ALIKE -/
theorem lgc_eq {x y : Int64} (h : lg_cmp x y = 0) : x = y := by
  unfold lg_cmp at h
  split at h
  · exact absurd h (by decide)
  · split at h
    · assumption
    · exact absurd h (by decide)
section LGs
variable {s0 t0 s t : SS} {p n i : Nat}
/-- what is logged is small -/
def QLgs (t : SS) : Prop := ∀ j, -9999 ≤ (zI t 73 j).toInt ∧ (zI t 73 j).toInt ≤ 9999
theorem sml {v : Int32} (h : -9999 ≤ v.toInt ∧ v.toInt ≤ 9999) : v ≠ -2000000000 := fun z => by
  rw [z, show (-2000000000 : Int32).toInt = -2000000000 from rfl] at h
  omega
/-- only the logs of hole n, at p, have changed, and they are alike -/
def LG (s0 t0 : SS) (p n : Nat) (s t : SS) : Prop := ((∀ q k, zS s q k = zS s0 q k) ∧ (∀ q j, q ≠ p + 3 → zI s q j = zI s0 q j) ∧ s.2.2 = s0.2.2) ∧ (mW n t0 t ∧ (∀ q k, zS t q k = zS t0 q k) ∧ t.2.2 = t0.2.2 ∧ ∀ q j, q ≠ 72 → q ≠ 73 → zI t q j = zI t0 q j) ∧ (∀ y, 1 ≤ y → y ≤ 60 → zI s (p + 3) y = lgV (zI t 72 (61 * n + y)) (zI t 73 (61 * n + y))) ∧ QLgs t
theorem LG.w {y : Nat} {v b : Int32} (L : LG s0 t0 p n s t) (h1 : 1 ≤ y) (h2 : y ≤ 60) (hv : -9999 ≤ v.toInt ∧ v.toInt ≤ 9999) (hb : b = 1) : LG s0 t0 p n (pI s (p + 3) y v) (pI (pI t 73 (61 * n + y) v) 72 (61 * n + y) b) := by
  obtain ⟨⟨a1, a2, a3⟩, ⟨b1, b2, b3, b4⟩, c, g⟩ := L
  refine ⟨⟨a1, fun q j h => by rw [zI_pI, if_neg (by omega)]; exact a2 q j h, a3⟩, ⟨(b1.wY (by omega) (by omega) h2).wY (by omega) (by omega) h2, b2, b3, fun q j h h' => by rw [zI_pI, if_neg (by omega), zI_pI, if_neg (by omega)]; exact b4 q j h h'⟩, fun z z1 z2 => ?_, fun j => ?_⟩
  · by_cases e : z = y
    · subst e
      have e1 : zI (pI s (p + 3) z v) (p + 3) z = v := by rw [zI_pI, if_pos ⟨rfl, rfl⟩]
      have e2 : zI (pI (pI t 73 (61 * n + z) v) 72 (61 * n + z) b) 72 (61 * n + z) = b := by rw [zI_pI, if_pos ⟨rfl, rfl⟩]
      have e3 : zI (pI (pI t 73 (61 * n + z) v) 72 (61 * n + z) b) 73 (61 * n + z) = v := by rw [zI_pI, if_neg (by omega), zI_pI, if_pos ⟨rfl, rfl⟩]
      rw [e1, e2, e3, hb]
      unfold lgV
      rw [if_neg n10]
    · have e1 : zI (pI s (p + 3) y v) (p + 3) z = zI s (p + 3) z := by rw [zI_pI, if_neg (by omega)]
      have e2 : ∀ q, zI (pI (pI t 73 (61 * n + y) v) 72 (61 * n + y) b) q (61 * n + z) = zI t q (61 * n + z) := fun q => by rw [zI_pI, if_neg (by omega), zI_pI, if_neg (by omega)]
      rw [e1, e2, e2]
      exact c z z1 z2
  · rw [zI_pI, if_neg (by omega), zI_pI]
    by_cases e : 73 = 73 ∧ j = 61 * n + y
    · rw [if_pos e]; exact hv
    · rw [if_neg e]; exact g j
theorem LG.o {y : Nat} {b : Int32} (L : LG s0 t0 p n s t) (h2 : y ≤ 60) (hb : b = 0) : LG s0 t0 p n (pI s (p + 3) y (-2000000000)) (pI t 72 (61 * n + y) b) := by
  obtain ⟨⟨a1, a2, a3⟩, ⟨b1, b2, b3, b4⟩, c, g⟩ := L
  have e3 : ∀ j, zI (pI t 72 (61 * n + y) b) 73 j = zI t 73 j := fun j => by rw [zI_pI, if_neg (by omega)]
  refine ⟨⟨a1, fun q j h => by rw [zI_pI, if_neg (by omega)]; exact a2 q j h, a3⟩, ⟨b1.wY (by omega) (by omega) h2, b2, b3, fun q j h h' => by rw [zI_pI, if_neg (by omega)]; exact b4 q j h h'⟩, fun z z1 z2 => ?_, fun j => by rw [e3]; exact g j⟩
  rw [e3]
  by_cases e : z = y
  · subst e
    rw [zI_pI, if_pos ⟨rfl, rfl⟩, zI_pI, if_pos ⟨rfl, rfl⟩, hb]
    unfold lgV
    rw [if_pos rfl]
  · rw [zI_pI, if_neg (by omega), zI_pI, if_neg (by omega)]
    exact c z z1 z2
theorem ix61 {a x : Int32} (ha : a.toInt = n) (hn : n < 120) (hx : 0 ≤ x.toInt ∧ x.toInt ≤ 60) : ((61 : Int32) * a + x).toInt = 61 * n + x.toInt := by
  have m1 : ((61 : Int32) * a).toInt = 61 * a.toInt := by rw [i32_mul (by rw [jl61]; omega) (by rw [jl61]; omega), jl61]
  rw [i32_add (by rw [m1]; omega) (by rw [m1]; omega), m1, ha]
theorem lost_l {y1 y6 : Int32} (hy : y1.toInt = n) (hn : n < 120) : ∀ (k m : Nat) (s t : SS) (x : Int32), LG s0 t0 p n s t → 1 ≤ x.toInt → Pc (f_X3_lostFrom_L6 p k s x) (fun a => Pc (f_X12_log_L129 y1 y6 m t x) (fun b => LG s0 t0 p n a b.2))
  | 0, _, _, _, _, _, _ => Pc_none
  | k + 1, 0, _, _, _, _, _ => fun _ _ => Pc_none
  | k + 1, m + 1, s, t, x, L, hx => by
    have j60 : (60 : Int32).toInt = 60 := rfl
    show Pc (f_X3_lostFrom_L6_b p (f_X3_lostFrom_L6 p k) s x) _
    unfold f_X3_lostFrom_L6_b
    refine Pc_if (fun c => Pc_some ?_) (fun c => Pc_gd (fun g => Pc_st (Pc_vl ?_)))
    · show Pc (f_X12_log_L129_b y1 y6 (f_X12_log_L129 y1 y6 m) t x) _
      unfold f_X12_log_L129_b
      exact Pc_ift c (Pc_some L)
    · have c' : x.toInt ≤ 60 := by rw [jlt, j60] at c; omega
      have n1 : (x + 1).toInt = x.toInt + 1 := by rw [i32_add (by rw [jl1]; omega) (by rw [jl1]; omega), jl1]
      have e : ((61 : Int32) * y1 + x).toInt.toNat = 61 * n + x.toInt.toNat := by rw [ix61 hy hn (by omega)]; omega
      refine Pc.mono (lost_l (y6 := y6) hy hn k m _ (pI t 72 (61 * n + x.toInt.toNat) ((0 : Int32) &&& 1)) (x + 1) (L.o (by omega) (by decide)) (by omega)) (fun a ha => ?_)
      show Pc (f_X12_log_L129_b y1 y6 (f_X12_log_L129 y1 y6 m) t x) _
      unfold f_X12_log_L129_b
      refine Pc_iff c (Pc_vl (Pc_gd (fun _ => Pc_st (Pc_vl ?_))))
      rw [e]
      exact ha
/-- the shelf: nothing, or a row of numbers -/
def LSh (s0 t0 : SS) (i : Nat) : Prop := (zS s0 (47 + 2 * i) 0 = 0 ∧ zI t0 120 i = -1) ∨ (zS s0 (47 + 2 * i) 0 = 2 ∧ zI t0 120 i ≠ -1 ∧ zS s0 (47 + 2 * i) 3 = zI t0 121 i ∧ (0 ≤ (zI t0 121 i).toInt ∧ (zI t0 121 i).toInt ≤ 60) ∧ ∀ j, j < 60 → (zI t0 123 (60 * i + j) = 0 ∧ zJ s0 (47 + 2 * i + 1) j = zJ t0 122 (60 * i + j) ∧ -9999 ≤ (zJ t0 122 (60 * i + j)).toInt ∧ (zJ t0 122 (60 * i + j)).toInt ≤ 9999) ∨ (zI t0 123 (60 * i + j) = 1 ∧ zJ s0 (47 + 2 * i + 1) j = 9223372036854775807))
noncomputable def lqX (p : Nat) : SS → Int32 → Int32 → Option (Int32 × SS) := fun (s17 : SS) (x17_5 : Int32) (x17_7 : Int32) => (b1 (f_X3_lostFrom s17 p x17_7) fun s18 => some (x17_5, s18))
noncomputable def lqM (a0 : Int32) : SS → Int32 → Int32 → Option (Int32 × SS) := fun (s41 : SS) (x41_6 : Int32) (x41_7 : Int32) => (f_X12_log_L129 a0 x41_6 4000 s41 x41_7)
/-- the reference, one yard: a number -/
theorem lgM1 {a0 a1 y2 y3 y4 x : Int32} {m j : Nat} {R : Int32 × SS → Prop} (ha0 : a0.toInt = n) (hn : n < 120) (ha1 : a1.toInt = i) (hi : i < 6) (h3 : 1 ≤ y3.toInt ∧ y3.toInt ≤ 60) (hx : 0 ≤ x.toInt) (c : x.toInt < y4.toInt) (h4 : y4.toInt ≤ 60) (hy : y3.toInt + x.toInt ≤ 60) (hj : (j : Int) = y2.toInt + x.toInt) (h0 : zI t 120 i ≠ -1) (hl : (j : Int) < (zI t 121 i).toInt) (hl60 : (zI t 121 i).toInt ≤ 60) (g : ∀ t22 : Int32, (t22 = 0 ∧ (y3 + x = 1 ∨ zI t 72 (61 * n + (y3 + x).toInt.toNat - 1) = 0)) ∨ (1 < (y3 + x).toInt ∧ zI t 72 (61 * n + (y3 + x).toInt.toNat - 1) ≠ 0 ∧ t22 = zI t 73 (61 * n + (y3 + x).toInt.toNat - 1)) → Pc (f_X12_log_L63 (lqM a0) a0 a1 y2 y3 y4 m (pI (pI t 73 (61 * n + (y3 + x).toInt.toNat) (if zI t 123 (60 * i + j) = 0 then (zJ t 122 (60 * i + j)).toInt32 else t22)) 72 (61 * n + (y3 + x).toInt.toNat) ((1 : Int32) &&& 1)) (x + 1)) R) : Pc (f_X12_log_L63 (lqM a0) a0 a1 y2 y3 y4 (m + 1) t x) R := by
  have j60 : (60 : Int32).toInt = 60 := rfl
  have a3 : (y3 + x).toInt = y3.toInt + x.toInt := i32_add (by omega) (by omega)
  have ls := lgsum y2 x
  have e1 : a1.toInt.toNat = i := by omega
  have hv15 : ((y2.toInt64 + x.toInt64).toInt32).toInt = j := by
    rw [Int64.toInt_toInt32, ls, ← hj]
    exact Int.bmod_eq_of_le (by omega) (by omega)
  have m60 : ((60 : Int32) * a1).toInt = 60 * i := by rw [i32_mul (by rw [j60]; omega) (by rw [j60]; omega), j60, ha1]
  have hv21 : ((60 : Int32) * a1 + (y2.toInt64 + x.toInt64).toInt32).toInt.toNat = 60 * i + j := by
    rw [i32_add (by rw [m60, hv15]; omega) (by rw [m60, hv15]; omega), m60, hv15]
    omega
  have hv25 : ((61 : Int32) * a0 + (y3 + x)).toInt = 61 * n + (y3 + x).toInt := ix61 ha0 hn (by omega)
  have hv25n : ((61 : Int32) * a0 + (y3 + x)).toInt.toNat = 61 * n + (y3 + x).toInt.toNat := by omega
  have hv36 : ((61 : Int32) * a0 + (y3 + x) - 1).toInt.toNat = 61 * n + (y3 + x).toInt.toNat - 1 := by
    rw [i32_sub (by rw [hv25, jl1]; omega) (by rw [hv25, jl1]; omega), hv25, jl1]
    omega
  show Pc (f_X12_log_L63_b (lqM a0) a0 a1 y2 y3 y4 (f_X12_log_L63 (lqM a0) a0 a1 y2 y3 y4 m) t x) R
  unfold f_X12_log_L63_b
  refine Pc_ift (by rw [jlt]; exact c) (Pc_vl (Pc_iff (by rw [jlt, j60, a3]; omega) (Pc_wl (Pc_gd (fun _ => ?_)))))
  rw [e1]
  refine Pc_iff h0 (Pc_iff (fun z => ?_) (Pc_gd (fun _ => Pc_if (fun _ => Pc_vl ?_) (fun z => ?_))))
  · have := lgc_lt z
    rw [ls, show (0 : Int64).toInt = 0 from rfl] at this
    omega
  · have k22 : ∀ t22 : Int32, (t22 = 0 ∧ (y3 + x = 1 ∨ zI t 72 (61 * n + (y3 + x).toInt.toNat - 1) = 0)) ∨ (1 < (y3 + x).toInt ∧ zI t 72 (61 * n + (y3 + x).toInt.toNat - 1) ≠ 0 ∧ t22 = zI t 73 (61 * n + (y3 + x).toInt.toNat - 1)) → Pc (gd (inB ((60 : Int32) * a1 + (y2.toInt64 + x.toInt64).toInt32) 360) (jn (fun (t24_0 : Int32) => (vl ((((61 : Int32) * a0) + (y3 + x))) fun v25 => (gd (inB v25 7320) (st (pI t 73 (v25.toInt.toNat) t24_0) fun s27 => (vl ((((61 : Int32) * a0) + (y3 + x))) fun v28 => (gd (inB v28 7320) (st (pI s27 72 (v28.toInt.toNat) ((1 : Int32) &&& 1)) fun s30 => (vl (x + 1) fun v31 => (f_X12_log_L63 (lqM a0) a0 a1 y2 y3 y4 m s30 v31))))))))) fun k24 => (if (zI t 123 (((60 : Int32) * a1 + (y2.toInt64 + x.toInt64).toInt32).toInt.toNat)) = (0 : Int32) then (gd (inB ((60 : Int32) * a1 + (y2.toInt64 + x.toInt64).toInt32) 360) (k24 ((zJ t 122 (((60 : Int32) * a1 + (y2.toInt64 + x.toInt64).toInt32).toInt.toNat)).toInt32))) else (k24 t22)))) R := by
      intro t22 h22
      have G := g t22 h22
      rw [hv21]
      refine Pc_gd (fun _ => Pc_jn (Pc_if (fun z => Pc_gd (fun _ => Pc_vl (Pc_gd (fun _ => Pc_st (Pc_vl (Pc_gd (fun _ => Pc_st (Pc_vl ?_)))))))) (fun z => Pc_vl (Pc_gd (fun _ => Pc_st (Pc_vl (Pc_gd (fun _ => Pc_st (Pc_vl ?_)))))))))
      · rw [if_pos z] at G
        rw [hv25n]
        exact G
      · rw [if_neg z] at G
        rw [hv25n]
        exact G
    refine Pc_jn (Pc_jn (Pc_lt (fun z => Pc_vl (Pc_gd (fun _ => ?_))) (fun z => ?_)))
    · rw [jl1] at z
      rw [hv36]
      refine Pc_if (fun w => k22 0 (Or.inl ⟨rfl, Or.inr w⟩)) (fun w => Pc_vl (Pc_gd (fun _ => ?_)))
      rw [hv36]
      exact k22 _ (Or.inr ⟨z, w, rfl⟩)
    · rw [jl1] at z
      exact k22 0 (Or.inl ⟨rfl, Or.inl (Int32.toInt_inj.1 (by rw [jl1]; omega))⟩)
  · have := lgc_ge z
    rw [ls, Int32.toInt_toInt64] at this
    omega
/-- the reference, a yard that the row does not have -/
theorem lgM0 {a0 a1 y2 y3 y4 x : Int32} {m : Nat} {R : Int32 × SS → Prop} (ha1 : a1.toInt = i) (h3 : 1 ≤ y3.toInt ∧ y3.toInt ≤ 60) (hx : 0 ≤ x.toInt) (c : x.toInt < y4.toInt) (h4 : y4.toInt ≤ 60) (hy : y3.toInt + x.toInt ≤ 60) (h : zI t 120 i = -1 ∨ ¬ (0 ≤ y2.toInt + x.toInt ∧ y2.toInt + x.toInt < (zI t 121 i).toInt)) (g : Pc (f_X12_log_L129 a0 x 4000 t (y3 + x)) R) : Pc (f_X12_log_L63 (lqM a0) a0 a1 y2 y3 y4 (m + 1) t x) R := by
  have j60 : (60 : Int32).toInt = 60 := rfl
  have a3 : (y3 + x).toInt = y3.toInt + x.toInt := i32_add (by omega) (by omega)
  have ls := lgsum y2 x
  have e1 : a1.toInt.toNat = i := by omega
  show Pc (f_X12_log_L63_b (lqM a0) a0 a1 y2 y3 y4 (f_X12_log_L63 (lqM a0) a0 a1 y2 y3 y4 m) t x) R
  unfold f_X12_log_L63_b
  refine Pc_ift (by rw [jlt]; exact c) (Pc_vl (Pc_iff (by rw [jlt, j60, a3]; omega) (Pc_wl (Pc_gd (fun _ => ?_)))))
  rw [e1]
  refine Pc_if (fun _ => g) (fun w => Pc_if (fun _ => g) (fun z0 => Pc_gd (fun _ => Pc_if (fun z1 => ?_) (fun _ => g))))
  exfalso
  have b0 := lgc_ge z0
  have b1 := lgc_lt z1
  rw [ls, show (0 : Int64).toInt = 0 from rfl] at b0
  rw [ls, Int32.toInt_toInt64] at b1
  rcases h with h | h
  · exact w h
  · exact h ⟨b0, b1⟩
theorem max1 {v : Int32} (h : 1 ≤ v.toInt) : f_J9_max_7cf53 1 v = some v := by
  rw [maxJ]
  by_cases c : (1 : Int32) < v
  · rw [if_pos c]
  · rw [if_neg c]
    rw [jlt, jl1] at c
    exact congrArg some (Int32.toInt_inj.1 (by rw [jl1]; omega))
theorem lg_l {a0 a1 y2 y3 y4 : Int32} (ha0 : a0.toInt = n) (hn : n < 120) (ha1 : a1.toInt = i) (hi : i < 6) (h3 : 1 ≤ y3.toInt ∧ y3.toInt ≤ 60) (h4 : y4.toInt ≤ 60) (hp : 126 ≤ p) (V : LSh s0 t0 i) : ∀ (k m : Nat) (s t : SS) (x : Int32), LG s0 t0 p n s t → 0 ≤ x.toInt → Pc (f_X3_logged_L6 (lqX p) p (47 + 2 * i) y2 y3 y4 k s x x) (fun a => Pc (f_X12_log_L63 (lqM a0) a0 a1 y2 y3 y4 m t x) (fun b => LG s0 t0 p n a.2 b.2))
  | 0, _, _, _, _, _, _ => Pc_none
  | k + 1, 0, _, _, _, _, _ => fun _ _ => Pc_none
  | k + 1, m + 1, s, t, x, L, hx => by
    have j60 : (60 : Int32).toInt = 60 := rfl
    obtain ⟨⟨a1', a2', a3'⟩, ⟨b1', b2', b3', b4'⟩, c', g'⟩ := id L
    have eJ : ∀ q j, zJ s q j = zJ s0 q j := fun q j => by unfold zJ; rw [a3']
    have fJ : ∀ q j, zJ t q j = zJ t0 q j := fun q j => by unfold zJ; rw [b3']
    show Pc (f_X3_logged_L6_b (lqX p) p (47 + 2 * i) y2 y3 y4 (f_X3_logged_L6 (lqX p) p (47 + 2 * i) y2 y3 y4 k) s x x) _
    unfold f_X3_logged_L6_b
    refine Pc_lt (fun c => ?_) (fun c => Pc_some ?_)
    · have a3 : (y3 + x).toInt = y3.toInt + x.toInt := i32_add (by omega) (by omega)
      have n1 : (x + 1).toInt = x.toInt + 1 := by rw [i32_add (by rw [jl1]; omega) (by rw [jl1]; omega), jl1]
      refine Pc_if (fun hy => Pc_some ?_) (fun hy => Pc_vl ?_)
      · show Pc (f_X12_log_L63_b (lqM a0) a0 a1 y2 y3 y4 (f_X12_log_L63 (lqM a0) a0 a1 y2 y3 y4 m) t x) _
        unfold f_X12_log_L63_b
        exact Pc_ift (by rw [jlt]; exact c) (Pc_vl (Pc_ift hy (Pc_some L)))
      have hy' : y3.toInt + x.toInt ≤ 60 := by rw [jlt, j60, a3] at hy; omega
      -- the row does not have it
      have out : ∀ r4 : Int32, ¬ r4 = 0 → (zI t 120 i = -1 ∨ ¬ (0 ≤ y2.toInt + x.toInt ∧ y2.toInt + x.toInt < (zI t 121 i).toInt)) → Pc (if r4 = (0 : Int32) then (vl ((y2 + x)) fun v6 => (gd (inB v6 60) (wl ((zJ s (47 + 2 * i + 1) (v6.toInt.toNat))) fun v8 => (jn (fun (t10_0 : Int32) => (gd (inB (y3 + x) 61) (st (pI s (p + 3) ((y3 + x).toInt.toNat) t10_0) fun s12 => (vl (x + 1) fun v13 => (vl (x + 1) fun v14 => (f_X3_logged_L6 (lqX p) p (47 + 2 * i) y2 y3 y4 k s12 v13 v14)))))) fun k10 => (if (lg_cmp v8 9223372036854775807) = (0 : Int32) then (b1 (f_X3_logAhead s p (y3 + x)) fun r16 => (k10 r16)) else (k10 v8.toInt32)))))) else (lqX p s x (y3 + x))) (fun a => Pc (f_X12_log_L63 (lqM a0) a0 a1 y2 y3 y4 (m + 1) t x) (fun b => LG s0 t0 p n a.2 b.2)) := by
        intro r4 h4' hm
        refine Pc_iff h4' ?_
        unfold lqX f_X3_lostFrom
        rw [max1 (by rw [a3]; omega)]
        refine Pc_b1 (Pc_b1S (Pc.mono (lost_l (y6 := x) ha0 hn 4000 4000 s t (y3 + x) L (by rw [a3]; omega)) (fun u hu => Pc_some ?_)))
        exact lgM0 ha1 h3 hx c h4 hy' hm hu
      have e0 : zS s (47 + 2 * i) 0 = zS s0 (47 + 2 * i) 0 := a1' _ _
      have e3 : zS s (47 + 2 * i) 3 = zS s0 (47 + 2 * i) 3 := a1' _ _
      have f0 : zI t 120 i = zI t0 120 i := b4' _ _ (by omega) (by omega)
      have f1 : zI t 121 i = zI t0 121 i := b4' _ _ (by omega) (by omega)
      unfold f_X8_refusal
      rcases V with ⟨v0, w0⟩ | ⟨v0, w0, v3, vb, vj⟩
      · exact Pc_b1 (Pc_ift (e0.trans v0) (Pc_some (out _ (by decide) (Or.inl (f0.trans w0)))))
      refine Pc_b1 (Pc_iff (by rw [e0, v0]; decide) (Pc_ift (e0.trans v0) ?_))
      refine Pc_if (fun ng => Pc_some (out _ (by decide) (Or.inr (fun z => ?_)))) (fun ng => Pc_if (fun lt => Pc_some ?_) (fun lt => Pc_some (out _ (by decide) (Or.inr (fun z => ?_)))))
      · have a2 : (y2 + x).toInt = y2.toInt + x.toInt := i32_add (by omega) (by rw [f1] at z; omega)
        rw [jlt, jl0, a2] at ng
        omega
      · rw [jlt, jl0] at ng
        rw [jlt, e3, v3] at lt
        have l2 := jlo y2
        have a2 : (y2 + x).toInt = y2.toInt + x.toInt := by
          by_cases ov : y2.toInt + x.toInt < 2147483648
          · exact i32_add (by omega) ov
          · have := i32_ge (a := y2) hx (by omega) (Int.not_lt.mp ov)
            omega
        obtain ⟨j, hj⟩ : ∃ j : Nat, j = (y2 + x).toInt.toNat := ⟨_, rfl⟩
        have hjj : (j : Int) = y2.toInt + x.toInt := by omega
        have hj60 : j < 60 := by omega
        -- class and reference write v
        have kk : ∀ v : Int32, (-9999 ≤ v.toInt ∧ v.toInt ≤ 9999) → (∀ t22 : Int32, (t22 = 0 ∧ (y3 + x = 1 ∨ zI t 72 (61 * n + (y3 + x).toInt.toNat - 1) = 0)) ∨ (1 < (y3 + x).toInt ∧ zI t 72 (61 * n + (y3 + x).toInt.toNat - 1) ≠ 0 ∧ t22 = zI t 73 (61 * n + (y3 + x).toInt.toNat - 1)) → (if zI t 123 (60 * i + j) = 0 then (zJ t 122 (60 * i + j)).toInt32 else t22) = v) → Pc (gd (inB (y3 + x) 61) (st (pI s (p + 3) ((y3 + x).toInt.toNat) v) fun s12 => (vl (x + 1) fun v13 => (vl (x + 1) fun v14 => (f_X3_logged_L6 (lqX p) p (47 + 2 * i) y2 y3 y4 k s12 v13 v14))))) (fun a => Pc (f_X12_log_L63 (lqM a0) a0 a1 y2 y3 y4 (m + 1) t x) (fun b => LG s0 t0 p n a.2 b.2)) := by
          intro v hv ht
          refine Pc_gd (fun _ => Pc_st (Pc_vl (Pc_vl ?_)))
          refine Pc.mono (lg_l ha0 hn ha1 hi h3 h4 hp (Or.inr ⟨v0, w0, v3, vb, vj⟩) k m _ _ (x + 1) (L.w (y := (y3 + x).toInt.toNat) (v := v) (b := (1 : Int32) &&& 1) (by omega) (by omega) hv (by decide)) (by omega)) (fun a ha => ?_)
          refine lgM1 (j := j) ha0 hn ha1 hi h3 hx c h4 hy' hjj (by rw [f0]; exact w0) (by rw [f1]; omega) (by rw [f1]; exact vb.2) (fun t22 h22 => ?_)
          rw [ht t22 h22]
          exact ha
        refine Pc_ift rfl (Pc_vl (Pc_gd (fun _ => Pc_wl (Pc_jn ?_))))
        rw [eJ, ← hj]
        have g123 : zI t 123 (60 * i + j) = zI t0 123 (60 * i + j) := b4' _ _ (by omega) (by omega)
        rcases vj j hj60 with ⟨u1, u2, u3⟩ | ⟨u1, u2⟩
        · rw [u2]
          have jm : (9223372036854775807 : Int64).toInt = 9223372036854775807 := rfl
          have e : ((zJ t0 122 (60 * i + j)).toInt32).toInt = (zJ t0 122 (60 * i + j)).toInt := by
            rw [Int64.toInt_toInt32]
            exact Int.bmod_eq_of_le (by omega) (by omega)
          refine Pc_iff (fun z => ?_) (kk _ (by rw [e]; exact u3) (fun t22 _ => ?_))
          · have := lgc_eq z
            rw [this, jm] at u3
            omega
          · rw [g123, u1, if_pos rfl, fJ]
        · rw [u2]
          refine Pc_ift (by decide) ?_
          unfold f_X3_logAhead
          have ne : ¬ zI t 123 (60 * i + j) = 0 := by rw [g123, u1]; decide
          refine Pc_b1 (Pc_if (fun z => Pc_iff hy (Pc_vl (Pc_gd (fun _ => ?_)))) (fun z => Pc_some (kk 0 (by decide) (fun t22 h22 => ?_))))
          · have z' := z
            rw [jlt, jl1] at z'
            have ep : (y3 + x - 1).toInt = (y3 + x).toInt - 1 := by rw [i32_sub (by rw [jl1]; omega) (by rw [jl1]; omega), jl1]
            have epn : (y3 + x - 1).toInt.toNat = (y3 + x).toInt.toNat - 1 := by omega
            have ei : 61 * n + ((y3 + x).toInt.toNat - 1) = 61 * n + (y3 + x).toInt.toNat - 1 := by omega
            have d1 := c' ((y3 + x).toInt.toNat - 1) (by omega) (by omega)
            rw [ei] at d1
            have d2 := g' (61 * n + (y3 + x).toInt.toNat - 1)
            rw [epn, d1]
            unfold lgV
            by_cases w : zI t 72 (61 * n + (y3 + x).toInt.toNat - 1) = 0
            · rw [if_pos w]
              refine Pc_ift rfl (Pc_some (kk 0 (by decide) (fun t22 h22 => ?_)))
              rw [if_neg ne]
              rcases h22 with h | h
              · exact h.1
              · exact absurd w h.2.1
            · rw [if_neg w]
              refine Pc_iff (sml d2) (Pc_vl (Pc_gd (fun _ => Pc_some ?_)))
              rw [epn, d1]
              unfold lgV
              rw [if_neg w]
              refine kk _ d2 (fun t22 h22 => ?_)
              rw [if_neg ne]
              rcases h22 with ⟨h, h' | h'⟩ | h
              · rw [h', jl1] at z'
                omega
              · exact absurd h' w
              · exact h.2.2
          · rw [if_neg ne]
            rcases h22 with h | h
            · exact h.1
            · exact absurd (by rw [jlt, jl1]; exact h.1) z
      · rw [jlt, jl0] at ng
        have a2 : (y2 + x).toInt = y2.toInt + x.toInt := i32_add (by omega) (by rw [f1] at z; omega)
        rw [f1] at z
        rw [jlt, e3, v3, a2] at lt
        omega
    · show Pc (f_X12_log_L63_b (lqM a0) a0 a1 y2 y3 y4 (f_X12_log_L63 (lqM a0) a0 a1 y2 y3 y4 m) t x) _
      unfold f_X12_log_L63_b
      exact Pc_iff (by rw [jlt]; omega) (Pc_some L)
end LGs
