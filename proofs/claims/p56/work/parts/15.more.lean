section AWx
variable {M : aM} {R : Room} {F : aF} {pc pc' : Nat} {lv lv' : List (Option Value)} {st : List Value} {h h' : List aE} {nc ns nc' ns' N r : Nat} {n : Int32}
theorem aw_putFG (hCA : ClsAll) {idx ci k q : Nat} {ty : FieldType} {fs : List Value} {v : Value} (hd : decode M.2.1 pc = .ok (.putfield idx, 3)) (hp : pc + 3 = pc') (hf : FL M.1.cls idx ci k ty true) (hin : M.1.name = "<init>") (hown : (cls[ci]?).map (fun q => q.1) = some M.1.cls) (hq : h[q]? = some (.inr (ci, fs))) (hl0 : k < fs.length) (hn : okv ty v = true) (kk : ∀ h', h.set q (.inr (ci, fs.set k v)) = h' → AW M R F pc' lv st h' nc ns) : AW M R F pc lv (v :: .ref (q + 8) :: st) h nc ns := aw_putF hCA hd hp hf hin hown hq hl0 hn rfl (kk _ rfl)
theorem aw_newG (hCA : ClsAll) {ci idx : Nat} {E : String} {T : u_T} {fs : List Value} {tyf : Nat → FieldType} (hd : decode M.2.1 pc = .ok (.new idx, 3)) (hp : pc + 3 = pc') (hc : cls[ci]? = some (E, T, N)) (hcl : Cond.classLink M.1.cls idx E ∈ gw) (hins : Cond.instantiable E N ∈ gw) (hini : Cond.initialized E ∈ gw) (hty : ∀ k, k < N → parseFieldDescriptor (T k).2.2.1 = some (tyf k)) (hfs : ∀ j, j < N → defaultValue (tyf j) = vp_V fs j) (hcv : ∀ G : aG, fs.map (cv G) = fs) (hce : nc + 1 ≤ R.cells) (hsl : ns + N ≤ R.slots) (hr : h.length = r) (h1 : nc + 1 = nc') (h2 : ns + N = ns') (kk : ∀ h', h ++ [.inr (ci, fs)] = h' → AW M R F pc' lv (.ref (r + 8) :: st) h' nc' ns') : AW M R F pc lv st h nc ns := by
  subst h1
  subst h2
  subst hr
  exact aw_new hCA hd hp hc hcl hins hini hty hfs hcv hce hsl rfl rfl (kk _ rfl)
theorem aw_newiG (hd : decode M.2.1 pc = .ok (.newarray .int, 2)) (hp : pc + 2 = pc') (hn : ¬ n < 0) (hN : n.toNatClampNeg = N) (hby : N * 4 ≤ 536870912) (hc : nc + 1 ≤ R.cells) (hs : ns + N ≤ R.slots) (hr : h.length = r) (h1 : nc + 1 = nc') (h2 : ns + N = ns') (kk : ∀ h', h ++ [.inl (0, N, .inl (fun _ => 0))] = h' → AW M R F pc' lv (.ref (r + 8) :: st) h' nc' ns') : AW M R F pc lv (.int n :: st) h nc ns := by
  subst hr
  exact aw_newi hd hp hn hN hby hc hs rfl rfl h1 h2 (kk _ rfl)
end AWx
theorem ls_ {h h1 : List aE} {q n : Nat} {e : aE} (e1 : h.set q e = h1) (hl : h.length = n) : h1.length = n := by rw [← e1, List.length_set]; exact hl
theorem lp_ {h h1 : List aE} {n m : Nat} {e : aE} (e1 : h ++ [e] = h1) (hl : h.length = n) (hm : n + 1 = m) : h1.length = m := by rw [← e1, List.length_append, hl, ← hm]; rfl
/-- small numbers -/
theorem three_ {m : Int32} (h0 : ¬ m < 0) (h3 : m < 3) : m = 0 ∨ m = 1 ∨ m = 2 := by
  obtain ⟨j, hj, rfl⟩ := nI_of2 (M := 2) (n := 2) rfl h0 (by rw [Int32.lt_iff_toInt_lt] at h3; rw [Int32.le_iff_toInt_le]; have : (3 : Int32).toInt = 3 := rfl; have : (2 : Int32).toInt = 2 := rfl; omega)
  match j, hj with
  | 0, _ => exact Or.inl rfl
  | 1, _ => exact Or.inr (Or.inl rfl)
  | 2, _ => exact Or.inr (Or.inr rfl)
theorem six_ {m : Int32} (h0 : ¬ m < 0) (h3 : m < 6) : m = 0 ∨ m = 1 ∨ m = 2 ∨ m = 3 ∨ m = 4 ∨ m = 5 := by
  obtain ⟨j, hj, rfl⟩ := nI_of2 (M := 5) (n := 5) rfl h0 (by rw [Int32.lt_iff_toInt_lt] at h3; rw [Int32.le_iff_toInt_le]; have : (6 : Int32).toInt = 6 := rfl; have : (5 : Int32).toInt = 5 := rfl; omega)
  match j, hj with
  | 0, _ => exact Or.inl rfl
  | 1, _ => exact Or.inr (Or.inl rfl)
  | 2, _ => exact Or.inr (Or.inr (Or.inl rfl))
  | 3, _ => exact Or.inr (Or.inr (Or.inr (Or.inl rfl)))
  | 4, _ => exact Or.inr (Or.inr (Or.inr (Or.inr (Or.inl rfl))))
  | 5, _ => exact Or.inr (Or.inr (Or.inr (Or.inr (Or.inr rfl))))
theorem four_ {m : Int32} (h0 : ¬ m < 1) (h3 : ¬ 4 < m) : m = 1 ∨ m = 2 ∨ m = 3 ∨ m = 4 := by
  have h0' : ¬ m < 0 := fun q => h0 (by rw [Int32.lt_iff_toInt_lt] at *; have : (1 : Int32).toInt = 1 := rfl; have : (0 : Int32).toInt = 0 := rfl; omega)
  obtain ⟨j, hj, rfl⟩ := nI_of2 (M := 4) (n := 4) rfl h0' (Int32.not_lt.mp h3)
  match j, hj with
  | 0, _ => exact absurd (by decide) h0
  | 1, _ => exact Or.inl rfl
  | 2, _ => exact Or.inr (Or.inl rfl)
  | 3, _ => exact Or.inr (Or.inr (Or.inl rfl))
  | 4, _ => exact Or.inr (Or.inr (Or.inr rfl))
/-- places of the mountain, in the class and in the reference -/
theorem toInt_div {a b : Int32} (hb : b ≠ -1) : (a / b).toInt = a.toInt.tdiv b.toInt := by
  rw [Int32.toInt_div_of_ne_right _ _ hb]
theorem pl_facts {c : Int32} (h0 : ¬ c < 0) (h1 : c / 100 < 32) (h2 : ¬ c % 100 < 1) (h3 : ¬ 60 < c % 100) : 0 ≤ (c / 100).toInt ∧ (c / 100).toInt < 32 ∧ 1 ≤ (c % 100).toInt ∧ (c % 100).toInt ≤ 60 := by
  rw [Int32.lt_iff_toInt_lt] at h0 h1 h2 h3
  have e0 : (0 : Int32).toInt = 0 := rfl
  have e1 : (1 : Int32).toInt = 1 := rfl
  have e32 : (32 : Int32).toInt = 32 := rfl
  have e60 : (60 : Int32).toInt = 60 := rfl
  have e100 : (100 : Int32).toInt = 100 := rfl
  have ed : (c / 100).toInt = c.toInt.tdiv 100 := by rw [toInt_div (by decide), e100]
  have hd : 0 ≤ c.toInt.tdiv 100 := Int.tdiv_nonneg (by omega) (by omega)
  have hd2 : 0 ≤ (c / 100).toInt := by rw [ed]; exact hd
  omega
theorem i32_mk {x : Int32} {z : Int} (h : x.toInt = z) {n : Nat} (h0 : 0 ≤ z) (h1 : z < n) : vp_in x n := vp_in_iff.mpr ⟨by omega, by omega⟩
theorem i32_add {a b : Int32} (h1 : -2147483648 ≤ a.toInt + b.toInt) (h2 : a.toInt + b.toInt < 2147483648) : (a + b).toInt = a.toInt + b.toInt := by
  rw [Int32.toInt_add]
  exact Int.bmod_eq_of_le (by omega) (by omega)
theorem i32_sub {a b : Int32} (h1 : -2147483648 ≤ a.toInt - b.toInt) (h2 : a.toInt - b.toInt < 2147483648) : (a - b).toInt = a.toInt - b.toInt := by
  rw [Int32.toInt_sub]
  exact Int.bmod_eq_of_le (by omega) (by omega)
theorem i32_mul {a b : Int32} (h1 : -2147483648 ≤ a.toInt * b.toInt) (h2 : a.toInt * b.toInt < 2147483648) : (a * b).toInt = a.toInt * b.toInt := by
  rw [Int32.toInt_mul]
  exact Int.bmod_eq_of_le (by omega) (by omega)
theorem pl_x {c : Int32} (h0 : ¬ c < 0) (h1 : c / 100 < 32) (h2 : ¬ c % 100 < 1) (h3 : ¬ 60 < c % 100) : vp_in (c / 100 * 60 + c % 100 - 1) 1920 := by
  obtain ⟨a1, a2, a3, a4⟩ := pl_facts h0 h1 h2 h3
  have e1 : (1 : Int32).toInt = 1 := rfl
  have e60 : (60 : Int32).toInt = 60 := rfl
  have m1 : (c / 100 * 60).toInt = (c / 100).toInt * 60 := by rw [i32_mul (by rw [e60]; omega) (by rw [e60]; omega), e60]
  have m2 : (c / 100 * 60 + c % 100).toInt = (c / 100).toInt * 60 + (c % 100).toInt := by rw [i32_add (by rw [m1]; omega) (by rw [m1]; omega), m1]
  refine i32_mk (z := (c / 100).toInt * 60 + (c % 100).toInt - 1) ?_ (by omega) (by omega)
  rw [i32_sub (by rw [m2, e1]; omega) (by rw [m2, e1]; omega), m2, e1]
theorem pl_nn {c : Int32} (h0 : ¬ c < 0) (h1 : c / 100 < 32) (h2 : ¬ c % 100 < 1) (h3 : ¬ 60 < c % 100) : ¬ (c / 100 * 60 + c % 100 - 1) < 0 := fun q => pl_x h0 h1 h2 h3 (Or.inl q)
theorem pl_m {c : Int32} (h0 : ¬ c < 0) (h1 : c / 100 < 32) (h2 : ¬ c % 100 < 1) (h3 : ¬ 60 < c % 100) : vp_in (61 * (c / 100) + c % 100) 1952 := by
  obtain ⟨a1, a2, a3, a4⟩ := pl_facts h0 h1 h2 h3
  have e61 : (61 : Int32).toInt = 61 := rfl
  have m1 : (61 * (c / 100)).toInt = 61 * (c / 100).toInt := by rw [i32_mul (by rw [e61]; omega) (by rw [e61]; omega), e61]
  refine i32_mk (z := 61 * (c / 100).toInt + (c % 100).toInt) ?_ (by omega) (by omega)
  rw [i32_add (by rw [m1]; omega) (by rw [m1]; omega), m1]
theorem rg_ {x : Int32} {a b : Int} {lo hi : Int32} (ha : lo.toInt = a) (hb : hi.toInt = b) (h0 : ¬ x < lo) (h1 : ¬ hi < x) : a ≤ x.toInt ∧ x.toInt ≤ b := by
  rw [Int32.lt_iff_toInt_lt] at h0 h1
  omega
theorem rk_x {r i : Int32} (h0 : ¬ r < 0) (h1 : r < 4) (h2 : ¬ i < 0) (h3 : i < 6) : vp_in (r * 6 + i) 24 := by
  rw [Int32.lt_iff_toInt_lt] at h0 h1 h2 h3
  have e0 : (0 : Int32).toInt = 0 := rfl
  have e4 : (4 : Int32).toInt = 4 := rfl
  have e6 : (6 : Int32).toInt = 6 := rfl
  have m1 : (r * 6).toInt = r.toInt * 6 := by rw [i32_mul (by rw [e6]; omega) (by rw [e6]; omega), e6]
  refine i32_mk (z := r.toInt * 6 + i.toInt) ?_ (by omega) (by omega)
  rw [i32_add (by rw [m1]; omega) (by rw [m1]; omega), m1]
theorem rk_m {r i : Int32} (h0 : ¬ r < 0) (h1 : ¬ 3 < r) (h2 : ¬ i < 0) (h3 : ¬ 5 < i) : vp_in (6 * r + i) 24 := by
  obtain ⟨a1, a2⟩ := rg_ (a := 0) (b := 3) rfl rfl h0 h1
  obtain ⟨a3, a4⟩ := rg_ (a := 0) (b := 5) rfl rfl h2 h3
  have e6 : (6 : Int32).toInt = 6 := rfl
  have m1 : (6 * r).toInt = 6 * r.toInt := by rw [i32_mul (by rw [e6]; omega) (by rw [e6]; omega), e6]
  refine i32_mk (z := 6 * r.toInt + i.toInt) ?_ (by omega) (by omega)
  rw [i32_add (by rw [m1]; omega) (by rw [m1]; omega), m1]
theorem ix_ {i : Int32} {n : Nat} {hi : Int32} {b : Int} (hb : hi.toInt = b) (hn : b < n) (h0 : ¬ i < 0) (h1 : ¬ hi < i) : vp_in i n := by
  obtain ⟨a1, a2⟩ := rg_ (a := 0) rfl hb h0 h1
  exact i32_mk rfl (by omega) (by omega)
/-- the same conditions in other words -/
theorem ow_ {w : Int32} : (¬ w < 0 ∧ ¬ 1 < w / 10 ∧ ¬ 2 < w % 10) ↔ ((¬ w < 0 ∧ ¬ 12 < w) ∧ ¬ 2 < w % 10) := by
  simp only [Int32.lt_iff_toInt_lt]
  have e0 : (0 : Int32).toInt = 0 := rfl
  have e1 : (1 : Int32).toInt = 1 := rfl
  have e2 : (2 : Int32).toInt = 2 := rfl
  have e12 : (12 : Int32).toInt = 12 := rfl
  have e10 : (10 : Int32).toInt = 10 := rfl
  have ed : (w / 10).toInt = w.toInt.tdiv 10 := by rw [toInt_div (by decide), e10]
  have em : (w % 10).toInt = w.toInt.tmod 10 := by rw [Int32.toInt_mod, e10]
  rw [ed, em, e0, e1, e2, e12]
  have hs := Int.mul_tdiv_add_tmod w.toInt 10
  have hl := Int.lt_tmod_of_pos w.toInt (show (0 : Int) < 10 by omega)
  constructor
  · rintro ⟨a, b, c⟩; exact ⟨⟨a, by omega⟩, c⟩
  · rintro ⟨⟨a, b⟩, c⟩
    refine ⟨a, ?_, c⟩
    have h0 := Int.tmod_nonneg 10 (show 0 ≤ w.toInt by omega)
    omega
theorem nw_ {w : Int32} : (¬ w < 100 ∧ ¬ 999 < w) ↔ (¬ w < 0 ∧ ¬ w / 100 < 1 ∧ ¬ 9 < w / 100) := by
  simp only [Int32.lt_iff_toInt_lt]
  have e0 : (0 : Int32).toInt = 0 := rfl
  have e1 : (1 : Int32).toInt = 1 := rfl
  have e9 : (9 : Int32).toInt = 9 := rfl
  have e100 : (100 : Int32).toInt = 100 := rfl
  have e999 : (999 : Int32).toInt = 999 := rfl
  have ed : (w / 100).toInt = w.toInt.tdiv 100 := by rw [toInt_div (by decide), e100]
  rw [ed, e0, e1, e9, e100, e999]
  have hs := Int.mul_tdiv_add_tmod w.toInt 100
  have hl := Int.lt_tmod_of_pos w.toInt (show (0 : Int) < 100 by omega)
  have hu := Int.tmod_lt_of_pos w.toInt (show (0 : Int) < 100 by omega)
  constructor
  · rintro ⟨a, b⟩
    have h0 := Int.tmod_nonneg 100 (show 0 ≤ w.toInt by omega)
    exact ⟨by omega, by omega, by omega⟩
  · rintro ⟨a, b, c⟩
    have h0 := Int.tmod_nonneg 100 (show 0 ≤ w.toInt by omega)
    exact ⟨by omega, by omega⟩
theorem wz_ {w : Int32} (h : ¬ w < 0) : w % 100 < 1 ↔ w % 100 = 0 := by
  rw [Int32.lt_iff_toInt_lt, ← Int32.toInt_inj]
  rw [Int32.lt_iff_toInt_lt] at h
  have e0 : (0 : Int32).toInt = 0 := rfl
  have e1 : (1 : Int32).toInt = 1 := rfl
  have e100 : (100 : Int32).toInt = 100 := rfl
  have em : (w % 100).toInt = w.toInt.tmod 100 := by rw [Int32.toInt_mod, e100]
  rw [em, e0, e1]
  have h0 := Int.tmod_nonneg 100 (show 0 ≤ w.toInt by omega)
  omega
/-- bounds out of bounds -/
theorem bt1 {x K L : Int32} (h : ¬ x < L) (hk : K < L) : K < x := by rw [Int32.lt_iff_toInt_lt] at *; omega
theorem bt2 {x K L : Int32} (h : L < x) (hk : ¬ L < K) : K < x := by rw [Int32.lt_iff_toInt_lt] at *; omega
theorem bf1 {x K L : Int32} (h : x < L) (hk : L.toInt ≤ K.toInt + 1) : ¬ K < x := by rw [Int32.lt_iff_toInt_lt] at *; omega
theorem bf2 {x K L : Int32} (h : ¬ L < x) (hk : ¬ K < L) : ¬ K < x := by rw [Int32.lt_iff_toInt_lt] at *; omega
theorem bu1 {x K L : Int32} (h : ¬ L < x) (hk : L < K) : x < K := by rw [Int32.lt_iff_toInt_lt] at *; omega
theorem bu2 {x K L : Int32} (h : x < L) (hk : ¬ K < L) : x < K := by rw [Int32.lt_iff_toInt_lt] at *; omega
theorem bg1 {x K L : Int32} (h : L < x) (hk : K.toInt ≤ L.toInt + 1) : ¬ x < K := by rw [Int32.lt_iff_toInt_lt] at *; omega
theorem bg2 {x K L : Int32} (h : ¬ x < L) (hk : ¬ L < K) : ¬ x < K := by rw [Int32.lt_iff_toInt_lt] at *; omega
theorem nn_ {x K L : Int32} (hk : L.toInt = K.toInt + 1) : (K < x) ↔ ¬ x < L := by rw [Int32.lt_iff_toInt_lt, Int32.lt_iff_toInt_lt]; omega
theorem n0_ {x : Int32} : (0 < x) ↔ ¬ x < 1 := nn_ rfl
theorem n2_ {x : Int32} : (2 < x) ↔ ¬ x < 3 := nn_ rfl
theorem n3_ {x : Int32} : (3 < x) ↔ ¬ x < 4 := nn_ rfl
theorem n5_ {x : Int32} : (5 < x) ↔ ¬ x < 6 := nn_ rfl
theorem n31_ {x : Int32} : (31 < x) ↔ ¬ x < 32 := nn_ rfl
theorem bd_ {k : Int32} : (k = 0 ∨ k = 1) ↔ (¬ k < 0 ∧ ¬ 1 < k) := by
  rw [Int32.lt_iff_toInt_lt, Int32.lt_iff_toInt_lt, ← Int32.toInt_inj, ← Int32.toInt_inj]
  have e0 : (0 : Int32).toInt = 0 := rfl
  have e1 : (1 : Int32).toInt = 1 := rfl
  rw [e0, e1]
  omega
