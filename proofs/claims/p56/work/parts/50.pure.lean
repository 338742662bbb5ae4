/-! NUMBERS: Int32 by their integers, for omega -/
theorem bm_ (x : Int) : x.bmod (2 ^ 32) = (x + 2147483648) % 4294967296 - 2147483648 := by
  rw [Int.bmod_def]
  split <;> omega
theorem jadd (a b : Int32) : (a + b).toInt = (a.toInt + b.toInt + 2147483648) % 4294967296 - 2147483648 := by rw [Int32.toInt_add]; exact bm_ _
theorem jsub (a b : Int32) : (a - b).toInt = (a.toInt - b.toInt + 2147483648) % 4294967296 - 2147483648 := by rw [Int32.toInt_sub]; exact bm_ _
theorem jmul (a b : Int32) : (a * b).toInt = (a.toInt * b.toInt + 2147483648) % 4294967296 - 2147483648 := by rw [Int32.toInt_mul]; exact bm_ _
theorem jneg (a : Int32) : (-a).toInt = (-a.toInt + 2147483648) % 4294967296 - 2147483648 := by rw [Int32.toInt_neg]; exact bm_ _
theorem jlt (a b : Int32) : (a < b) = (a.toInt < b.toInt) := propext Int32.lt_iff_toInt_lt
theorem jeq (a b : Int32) : (a = b) = (a.toInt = b.toInt) := propext Int32.toInt_inj.symm
theorem jlo (a : Int32) : -2147483648 ≤ a.toInt ∧ a.toInt ≤ 2147483647 := ⟨Int32.le_toInt a, by have := Int32.toInt_lt a; omega⟩
theorem jd4 (a : Int32) : (a / 4).toInt = if 0 ≤ a.toInt then a.toInt / 4 else -((-a.toInt) / 4) := by
  rw [toInt_div (by decide)]
  show a.toInt.tdiv 4 = _
  split
  · rw [Int.tdiv_eq_ediv_of_nonneg (by assumption)]
  · have h : a.toInt = -(-a.toInt) := by omega
    conv => lhs; rw [h]
    rw [Int.neg_tdiv, Int.tdiv_eq_ediv_of_nonneg (by omega)]
theorem jm4 (a : Int32) : (a % 4).toInt = if 0 ≤ a.toInt then a.toInt % 4 else -((-a.toInt) % 4) := by
  rw [Int32.toInt_mod]
  show a.toInt.tmod 4 = _
  split
  · rw [Int.tmod_eq_emod_of_nonneg (by assumption)]
  · have h : a.toInt = -(-a.toInt) := by omega
    conv => lhs; rw [h]
    rw [Int.neg_tmod, Int.tmod_eq_emod_of_nonneg (by omega)]
theorem jd10 (a : Int32) : (a / 10).toInt = if 0 ≤ a.toInt then a.toInt / 10 else -((-a.toInt) / 10) := by
  rw [toInt_div (by decide)]
  show a.toInt.tdiv 10 = _
  split
  · rw [Int.tdiv_eq_ediv_of_nonneg (by assumption)]
  · have h : a.toInt = -(-a.toInt) := by omega
    conv => lhs; rw [h]
    rw [Int.neg_tdiv, Int.tdiv_eq_ediv_of_nonneg (by omega)]
theorem jm10 (a : Int32) : (a % 10).toInt = if 0 ≤ a.toInt then a.toInt % 10 else -((-a.toInt) % 10) := by
  rw [Int32.toInt_mod]
  show a.toInt.tmod 10 = _
  split
  · rw [Int.tmod_eq_emod_of_nonneg (by assumption)]
  · have h : a.toInt = -(-a.toInt) := by omega
    conv => lhs; rw [h]
    rw [Int.neg_tmod, Int.tmod_eq_emod_of_nonneg (by omega)]
theorem jd20 (a : Int32) : (a / 20).toInt = if 0 ≤ a.toInt then a.toInt / 20 else -((-a.toInt) / 20) := by
  rw [toInt_div (by decide)]
  show a.toInt.tdiv 20 = _
  split
  · rw [Int.tdiv_eq_ediv_of_nonneg (by assumption)]
  · have h : a.toInt = -(-a.toInt) := by omega
    conv => lhs; rw [h]
    rw [Int.neg_tdiv, Int.tdiv_eq_ediv_of_nonneg (by omega)]
theorem jm20 (a : Int32) : (a % 20).toInt = if 0 ≤ a.toInt then a.toInt % 20 else -((-a.toInt) % 20) := by
  rw [Int32.toInt_mod]
  show a.toInt.tmod 20 = _
  split
  · rw [Int.tmod_eq_emod_of_nonneg (by assumption)]
  · have h : a.toInt = -(-a.toInt) := by omega
    conv => lhs; rw [h]
    rw [Int.neg_tmod, Int.tmod_eq_emod_of_nonneg (by omega)]
theorem jd24 (a : Int32) : (a / 24).toInt = if 0 ≤ a.toInt then a.toInt / 24 else -((-a.toInt) / 24) := by
  rw [toInt_div (by decide)]
  show a.toInt.tdiv 24 = _
  split
  · rw [Int.tdiv_eq_ediv_of_nonneg (by assumption)]
  · have h : a.toInt = -(-a.toInt) := by omega
    conv => lhs; rw [h]
    rw [Int.neg_tdiv, Int.tdiv_eq_ediv_of_nonneg (by omega)]
theorem jm24 (a : Int32) : (a % 24).toInt = if 0 ≤ a.toInt then a.toInt % 24 else -((-a.toInt) % 24) := by
  rw [Int32.toInt_mod]
  show a.toInt.tmod 24 = _
  split
  · rw [Int.tmod_eq_emod_of_nonneg (by assumption)]
  · have h : a.toInt = -(-a.toInt) := by omega
    conv => lhs; rw [h]
    rw [Int.neg_tmod, Int.tmod_eq_emod_of_nonneg (by omega)]
theorem jd60 (a : Int32) : (a / 60).toInt = if 0 ≤ a.toInt then a.toInt / 60 else -((-a.toInt) / 60) := by
  rw [toInt_div (by decide)]
  show a.toInt.tdiv 60 = _
  split
  · rw [Int.tdiv_eq_ediv_of_nonneg (by assumption)]
  · have h : a.toInt = -(-a.toInt) := by omega
    conv => lhs; rw [h]
    rw [Int.neg_tdiv, Int.tdiv_eq_ediv_of_nonneg (by omega)]
theorem jm60 (a : Int32) : (a % 60).toInt = if 0 ≤ a.toInt then a.toInt % 60 else -((-a.toInt) % 60) := by
  rw [Int32.toInt_mod]
  show a.toInt.tmod 60 = _
  split
  · rw [Int.tmod_eq_emod_of_nonneg (by assumption)]
  · have h : a.toInt = -(-a.toInt) := by omega
    conv => lhs; rw [h]
    rw [Int.neg_tmod, Int.tmod_eq_emod_of_nonneg (by omega)]
theorem jd100 (a : Int32) : (a / 100).toInt = if 0 ≤ a.toInt then a.toInt / 100 else -((-a.toInt) / 100) := by
  rw [toInt_div (by decide)]
  show a.toInt.tdiv 100 = _
  split
  · rw [Int.tdiv_eq_ediv_of_nonneg (by assumption)]
  · have h : a.toInt = -(-a.toInt) := by omega
    conv => lhs; rw [h]
    rw [Int.neg_tdiv, Int.tdiv_eq_ediv_of_nonneg (by omega)]
theorem jm100 (a : Int32) : (a % 100).toInt = if 0 ≤ a.toInt then a.toInt % 100 else -((-a.toInt) % 100) := by
  rw [Int32.toInt_mod]
  show a.toInt.tmod 100 = _
  split
  · rw [Int.tmod_eq_emod_of_nonneg (by assumption)]
  · have h : a.toInt = -(-a.toInt) := by omega
    conv => lhs; rw [h]
    rw [Int.neg_tmod, Int.tmod_eq_emod_of_nonneg (by omega)]
theorem jl0 : (0 : Int32).toInt = 0 := rfl
theorem jl1 : (1 : Int32).toInt = 1 := rfl
theorem jl2 : (2 : Int32).toInt = 2 := rfl
theorem jl3 : (3 : Int32).toInt = 3 := rfl
theorem jl4 : (4 : Int32).toInt = 4 := rfl
theorem jl5 : (5 : Int32).toInt = 5 := rfl
theorem jl6 : (6 : Int32).toInt = 6 := rfl
theorem jl7 : (7 : Int32).toInt = 7 := rfl
theorem jl8 : (8 : Int32).toInt = 8 := rfl
theorem jl9 : (9 : Int32).toInt = 9 := rfl
theorem jl10 : (10 : Int32).toInt = 10 := rfl
theorem jl11 : (11 : Int32).toInt = 11 := rfl
theorem jl12 : (12 : Int32).toInt = 12 := rfl
theorem jl13 : (13 : Int32).toInt = 13 := rfl
theorem jl14 : (14 : Int32).toInt = 14 := rfl
theorem jl15 : (15 : Int32).toInt = 15 := rfl
theorem jl16 : (16 : Int32).toInt = 16 := rfl
theorem jl17 : (17 : Int32).toInt = 17 := rfl
theorem jl18 : (18 : Int32).toInt = 18 := rfl
theorem jl19 : (19 : Int32).toInt = 19 := rfl
theorem jl20 : (20 : Int32).toInt = 20 := rfl
theorem jl21 : (21 : Int32).toInt = 21 := rfl
theorem jl22 : (22 : Int32).toInt = 22 := rfl
theorem jl23 : (23 : Int32).toInt = 23 := rfl
theorem jl24 : (24 : Int32).toInt = 24 := rfl
theorem jl25 : (25 : Int32).toInt = 25 := rfl
theorem jl26 : (26 : Int32).toInt = 26 := rfl
theorem jl27 : (27 : Int32).toInt = 27 := rfl
theorem jl28 : (28 : Int32).toInt = 28 := rfl
theorem jl29 : (29 : Int32).toInt = 29 := rfl
theorem jl30 : (30 : Int32).toInt = 30 := rfl
theorem jl31 : (31 : Int32).toInt = 31 := rfl
theorem jl32 : (32 : Int32).toInt = 32 := rfl
theorem jl33 : (33 : Int32).toInt = 33 := rfl
theorem jl34 : (34 : Int32).toInt = 34 := rfl
theorem jl35 : (35 : Int32).toInt = 35 := rfl
theorem jl36 : (36 : Int32).toInt = 36 := rfl
theorem jl37 : (37 : Int32).toInt = 37 := rfl
theorem jl38 : (38 : Int32).toInt = 38 := rfl
theorem jl39 : (39 : Int32).toInt = 39 := rfl
theorem jl40 : (40 : Int32).toInt = 40 := rfl
theorem jl41 : (41 : Int32).toInt = 41 := rfl
theorem jl42 : (42 : Int32).toInt = 42 := rfl
theorem jl43 : (43 : Int32).toInt = 43 := rfl
theorem jl44 : (44 : Int32).toInt = 44 := rfl
theorem jl45 : (45 : Int32).toInt = 45 := rfl
theorem jl46 : (46 : Int32).toInt = 46 := rfl
theorem jl47 : (47 : Int32).toInt = 47 := rfl
theorem jl48 : (48 : Int32).toInt = 48 := rfl
theorem jl49 : (49 : Int32).toInt = 49 := rfl
theorem jl50 : (50 : Int32).toInt = 50 := rfl
theorem jl51 : (51 : Int32).toInt = 51 := rfl
theorem jl52 : (52 : Int32).toInt = 52 := rfl
theorem jl53 : (53 : Int32).toInt = 53 := rfl
theorem jl54 : (54 : Int32).toInt = 54 := rfl
theorem jl55 : (55 : Int32).toInt = 55 := rfl
theorem jl56 : (56 : Int32).toInt = 56 := rfl
theorem jl57 : (57 : Int32).toInt = 57 := rfl
theorem jl58 : (58 : Int32).toInt = 58 := rfl
theorem jl59 : (59 : Int32).toInt = 59 := rfl
theorem jl60 : (60 : Int32).toInt = 60 := rfl
theorem jl61 : (61 : Int32).toInt = 61 := rfl
theorem jl62 : (62 : Int32).toInt = 62 := rfl
theorem jl63 : (63 : Int32).toInt = 63 := rfl
theorem jl64 : (64 : Int32).toInt = 64 := rfl
theorem jl65 : (65 : Int32).toInt = 65 := rfl
theorem jl66 : (66 : Int32).toInt = 66 := rfl
theorem jl67 : (67 : Int32).toInt = 67 := rfl
theorem jl68 : (68 : Int32).toInt = 68 := rfl
theorem jl69 : (69 : Int32).toInt = 69 := rfl
theorem jl70 : (70 : Int32).toInt = 70 := rfl
theorem jl71 : (71 : Int32).toInt = 71 := rfl
theorem jl72 : (72 : Int32).toInt = 72 := rfl
theorem jl73 : (73 : Int32).toInt = 73 := rfl
theorem jl74 : (74 : Int32).toInt = 74 := rfl
theorem jl75 : (75 : Int32).toInt = 75 := rfl
theorem jl76 : (76 : Int32).toInt = 76 := rfl
theorem jl77 : (77 : Int32).toInt = 77 := rfl
theorem jl78 : (78 : Int32).toInt = 78 := rfl
theorem jl79 : (79 : Int32).toInt = 79 := rfl
theorem jl80 : (80 : Int32).toInt = 80 := rfl
theorem jl81 : (81 : Int32).toInt = 81 := rfl
theorem jl82 : (82 : Int32).toInt = 82 := rfl
theorem jl83 : (83 : Int32).toInt = 83 := rfl
theorem jl84 : (84 : Int32).toInt = 84 := rfl
theorem jl85 : (85 : Int32).toInt = 85 := rfl
theorem jl86 : (86 : Int32).toInt = 86 := rfl
theorem jl87 : (87 : Int32).toInt = 87 := rfl
theorem jl88 : (88 : Int32).toInt = 88 := rfl
theorem jl89 : (89 : Int32).toInt = 89 := rfl
theorem jl90 : (90 : Int32).toInt = 90 := rfl
theorem jl91 : (91 : Int32).toInt = 91 := rfl
theorem jl92 : (92 : Int32).toInt = 92 := rfl
theorem jl93 : (93 : Int32).toInt = 93 := rfl
theorem jl94 : (94 : Int32).toInt = 94 := rfl
theorem jl95 : (95 : Int32).toInt = 95 := rfl
theorem jl96 : (96 : Int32).toInt = 96 := rfl
theorem jl97 : (97 : Int32).toInt = 97 := rfl
theorem jl98 : (98 : Int32).toInt = 98 := rfl
theorem jl99 : (99 : Int32).toInt = 99 := rfl
theorem jl100 : (100 : Int32).toInt = 100 := rfl
theorem jl101 : (101 : Int32).toInt = 101 := rfl
theorem jl102 : (102 : Int32).toInt = 102 := rfl
theorem jl103 : (103 : Int32).toInt = 103 := rfl
theorem jl104 : (104 : Int32).toInt = 104 := rfl
theorem jl105 : (105 : Int32).toInt = 105 := rfl
theorem jl106 : (106 : Int32).toInt = 106 := rfl
theorem jl107 : (107 : Int32).toInt = 107 := rfl
theorem jl108 : (108 : Int32).toInt = 108 := rfl
theorem jl109 : (109 : Int32).toInt = 109 := rfl
theorem jl110 : (110 : Int32).toInt = 110 := rfl
theorem jl111 : (111 : Int32).toInt = 111 := rfl
theorem jl112 : (112 : Int32).toInt = 112 := rfl
theorem jl113 : (113 : Int32).toInt = 113 := rfl
theorem jl114 : (114 : Int32).toInt = 114 := rfl
theorem jl115 : (115 : Int32).toInt = 115 := rfl
theorem jl116 : (116 : Int32).toInt = 116 := rfl
theorem jl117 : (117 : Int32).toInt = 117 := rfl
theorem jl118 : (118 : Int32).toInt = 118 := rfl
theorem jl119 : (119 : Int32).toInt = 119 := rfl
theorem jl120 : (120 : Int32).toInt = 120 := rfl
theorem jl121 : (121 : Int32).toInt = 121 := rfl
theorem jl122 : (122 : Int32).toInt = 122 := rfl
theorem jl123 : (123 : Int32).toInt = 123 := rfl
theorem jl124 : (124 : Int32).toInt = 124 := rfl
theorem jl125 : (125 : Int32).toInt = 125 := rfl
theorem jl126 : (126 : Int32).toInt = 126 := rfl
theorem jl127 : (127 : Int32).toInt = 127 := rfl
theorem jl128 : (128 : Int32).toInt = 128 := rfl
theorem jl129 : (129 : Int32).toInt = 129 := rfl
theorem jl160 : (160 : Int32).toInt = 160 := rfl
theorem jl161 : (161 : Int32).toInt = 161 := rfl
theorem jl170 : (170 : Int32).toInt = 170 := rfl
theorem jl199 : (199 : Int32).toInt = 199 := rfl
theorem jl255 : (255 : Int32).toInt = 255 := rfl
theorem jl999 : (999 : Int32).toInt = 999 := rfl
theorem jl1024 : (1024 : Int32).toInt = 1024 := rfl
theorem jl1699 : (1699 : Int32).toInt = 1699 := rfl
theorem jl1700 : (1700 : Int32).toInt = 1700 := rfl
theorem jl9999 : (9999 : Int32).toInt = 9999 := rfl
theorem jl65536 : (65536 : Int32).toInt = 65536 := rfl
theorem jl1000000000 : (1000000000 : Int32).toInt = 1000000000 := rfl
theorem jl2147483647 : (2147483647 : Int32).toInt = 2147483647 := rfl
theorem jn1 : (-1 : Int32).toInt = -1 := rfl
theorem jn2 : (-2 : Int32).toInt = -2 := rfl
theorem jn3 : (-3 : Int32).toInt = -3 := rfl
theorem jn4 : (-4 : Int32).toInt = -4 := rfl
theorem jn5 : (-5 : Int32).toInt = -5 := rfl
theorem jn6 : (-6 : Int32).toInt = -6 := rfl
theorem jn7 : (-7 : Int32).toInt = -7 := rfl
theorem jn8 : (-8 : Int32).toInt = -8 := rfl
theorem jn9 : (-9 : Int32).toInt = -9 := rfl
theorem jn10 : (-10 : Int32).toInt = -10 := rfl
theorem jn11 : (-11 : Int32).toInt = -11 := rfl
theorem jn12 : (-12 : Int32).toInt = -12 := rfl
theorem jn13 : (-13 : Int32).toInt = -13 := rfl
theorem jn14 : (-14 : Int32).toInt = -14 := rfl
theorem jn15 : (-15 : Int32).toInt = -15 := rfl
theorem jn16 : (-16 : Int32).toInt = -16 := rfl
theorem jn17 : (-17 : Int32).toInt = -17 := rfl
theorem jn18 : (-18 : Int32).toInt = -18 := rfl
theorem jn19 : (-19 : Int32).toInt = -19 := rfl
theorem jn20 : (-20 : Int32).toInt = -20 := rfl
theorem jn21 : (-21 : Int32).toInt = -21 := rfl
theorem jn22 : (-22 : Int32).toInt = -22 := rfl
theorem jn23 : (-23 : Int32).toInt = -23 := rfl
theorem jn24 : (-24 : Int32).toInt = -24 := rfl
theorem jn25 : (-25 : Int32).toInt = -25 := rfl
theorem jn26 : (-26 : Int32).toInt = -26 := rfl
theorem jn27 : (-27 : Int32).toInt = -27 := rfl
theorem jn28 : (-28 : Int32).toInt = -28 := rfl
theorem jn29 : (-29 : Int32).toInt = -29 := rfl
theorem jn100 : (-100 : Int32).toInt = -100 := rfl
theorem jn9999 : (-9999 : Int32).toInt = -9999 := rfl
theorem jn2000000000 : (-2000000000 : Int32).toInt = -2000000000 := rfl
theorem jn2147483648 : (-2147483648 : Int32).toInt = -2147483648 := rfl
/-! Ok: a function answers, and Q holds of its answer -/
def Ok {ρ : Type} (o : Option ρ) (Q : ρ → Prop) : Prop := ∃ r, o = some r ∧ Q r
section OKs
variable {α ρ : Type} {Q : ρ → Prop}
theorem Ok_some {r : ρ} (h : Q r) : Ok (some r) Q := ⟨r, rfl, h⟩
theorem Ok_gd {b : Prop} {i : Decidable b} {k : Option ρ} (hb : b) (h : b → Ok k Q) : Ok (@gd ρ b i k) Q := by
  unfold gd
  rw [if_pos hb]
  exact h hb
theorem Ok_vl {v : Int32} {k : Int32 → Option ρ} (h : Ok (k v) Q) : Ok (vl v k) Q := h
theorem Ok_wl {v : Int64} {k : Int64 → Option ρ} (h : Ok (k v) Q) : Ok (wl v k) Q := h
theorem Ok_st {s : SS} {k : SS → Option ρ} (h : Ok (k s) Q) : Ok (st s k) Q := h
theorem Ok_jn {K : α} {B : α → Option ρ} (h : Ok (B K) Q) : Ok (jn K B) Q := h
theorem Ok_b1 {a : Option α} {k : α → Option ρ} (h : Ok a fun x => Ok (k x) Q) : Ok (b1 a k) Q := by
  obtain ⟨x, e, q⟩ := h
  rw [e]
  exact q
theorem Ok_bd {a : Option (α × SS)} {k : α → SS → Option ρ} (h : Ok a fun x => Ok (k x.1 x.2) Q) : Ok (bd a k) Q := by
  obtain ⟨x, e, q⟩ := h
  rw [e]
  exact q
theorem Ok_if {c : Prop} {i : Decidable c} {A B : Option ρ} (h1 : c → Ok A Q) (h2 : ¬ c → Ok B Q) : Ok (@ite _ c i A B) Q := by
  by_cases h : c
  · rw [if_pos h]; exact h1 h
  · rw [if_neg h]; exact h2 h
theorem Ok_ift {c : Prop} {i : Decidable c} {A B : Option ρ} (h : c) (h1 : Ok A Q) : Ok (@ite _ c i A B) Q := by rw [if_pos h]; exact h1
theorem Ok_iff {c : Prop} {i : Decidable c} {A B : Option ρ} (h : ¬ c) (h1 : Ok B Q) : Ok (@ite _ c i A B) Q := by rw [if_neg h]; exact h1
theorem Ok_onN {A : Option ρ} {B : Nat → Option ρ} (h : Ok A Q) : Ok (on none A B) Q := h
theorem Ok_onS {A : Option ρ} {B : Nat → Option ρ} {p : Nat} (h : Ok (B p) Q) : Ok (on (some p) A B) Q := h
theorem Ok.mono {o : Option ρ} {P : ρ → Prop} (h : Ok o P) (hq : ∀ r, P r → Q r) : Ok o Q := by
  obtain ⟨r, e, q⟩ := h
  exact ⟨r, e, hq r q⟩
end OKs
/-! READS -/
section RD
variable (s : SS) (q k a b : Nat) (v : Int32) (w : Int64) (o : Option Nat)
theorem zS_pS : zS (pS s q k v) a b = if a = q ∧ b = k then v else zS s a b := rfl
theorem zS_pI : zS (pI s q k v) a b = zS s a b := rfl
theorem zS_pJ : zS (pJ s q k w) a b = zS s a b := rfl
theorem zS_pR : zS (pR s q k o) a b = zS s a b := rfl
theorem zS_pF : zS (pF s q v) a b = zS s a b := rfl
theorem zS_pG : zS (pG s q w) a b = zS s a b := rfl
theorem zI_pI : zI (pI s q k v) a b = if a = q ∧ b = k then v else zI s a b := rfl
theorem zI_pS : zI (pS s q k v) a b = zI s a b := rfl
theorem zI_pJ : zI (pJ s q k w) a b = zI s a b := rfl
theorem zI_pR : zI (pR s q k o) a b = zI s a b := rfl
theorem zI_pF : zI (pF s q v) a b = if a = q then v else zI s a b := rfl
theorem zI_pG : zI (pG s q w) a b = zI s a b := rfl
theorem zR_pS : zR (pS s q k v) a b = zR s a b := rfl
theorem zR_pI : zR (pI s q k v) a b = zR s a b := rfl
theorem zR_pJ : zR (pJ s q k w) a b = zR s a b := rfl
theorem zR_pF : zR (pF s q v) a b = zR s a b := rfl
theorem zR_pG : zR (pG s q w) a b = zR s a b := rfl
theorem zJ_pS : zJ (pS s q k v) a b = zJ s a b := rfl
theorem zJ_pI : zJ (pI s q k v) a b = zJ s a b := rfl
theorem zN_pS : zN (pS s q k v) a = zN s a := rfl
theorem zN_pI : zN (pI s q k v) a = zN s a := rfl
theorem zN_pJ : zN (pJ s q k w) a = zN s a := rfl
end RD
/-! THE RANGES THAT EVERY STATE KEEPS -/
def Rg (v : Int32) (a b : Int) : Prop := a ≤ v.toInt ∧ v.toInt ≤ b
def cellOK (v : Int32) : Prop := 0 ≤ v.toInt ∧ v.toInt < 3200 ∧ v.toInt % 100 ≤ 60
def bH (k : Nat) (v : Int32) : Prop := match k with
  | 3 => Rg v 0 60
  | 4 => Rg v 0 60
  | _ => True
def bV (k : Nat) (v : Int32) : Prop := match k with
  | 3 => Rg v 0 60
  | _ => True
def bF (q k : Nat) (v : Int32) : Prop := match q, k with
  | 0, 5 => Rg v 0 8
  | 0, 8 => Rg v 0 16
  | 1, 4 => Rg v 0 60
  | 6, 7 => Rg v 0 3
  | 6, 10 => Rg v 0 120
  | 15, 3 => Rg v 0 120
  | 24, 1 => Rg v 0 160
  | 30, 5 => Rg v 0 40
  | 34, 3 => Rg v 0 10
  | 34, 7 => Rg v 0 10
  | 34, 9 => Rg v 0 6
  | 34, 14 => Rg v 0 2
  | 59, 4 => Rg v 0 120
  | 59, 30 => Rg v 0 8
  | 59, 37 => Rg v 0 160
  | 59, 38 => Rg v 0 16
  | 59, 56 => Rg v 0 60
  | 59, 62 => Rg v 0 40
  | 59, 67 => Rg v 0 10
  | 59, 72 => Rg v (-1) 10
  | 59, 74 => Rg v (-1) 3
  | 59, 76 => Rg v 0 6
  | 59, 79 => Rg v 0 2
  | 59, 82 => Rg v (-1) 120
  | _, _ => True
def bA (q : Nat) (v : Int32) : Prop := match q with
  | 16 => Rg v 0 7
  | 66 => Rg v 0 60
  | 67 => Rg v 0 60
  | 79 => Rg v (-1) 119
  | 84 => Rg v 0 40
  | 97 => cellOK v
  | 102 => 0 ≤ v.toInt
  | 106 => Rg v 0 9
  | 107 => Rg v 0 99
  | 108 => Rg v 0 99
  | 116 => Rg v 0 119
  | 120 => Rg v (-6) 119
  | 121 => Rg v 0 60
  | _ => True
def Jv (s : SS) : Prop := Sh s ∧ (∀ q k, q < 126 → bF q k (zS s q k)) ∧ (∀ q i, q < 126 → bA q (zI s q i)) ∧ (∀ q k, zT s q = 3 → bH k (zS s q k)) ∧ (∀ q k, zT s q = 8 → bV k (zS s q k)) ∧ (∀ i p, i < 16 → zR s 27 i = some p → zN s (p + 1) ≤ 161)
section IVs
variable {s : SS} {q k i p : Nat} {v : Int32} {w : Int64}
theorem Jv.f (I : Jv s) (hq : Nat.blt q 126 = true) : bF q k (zS s q k) := I.2.1 q k (by simpa using hq)
theorem Jv.a (I : Jv s) (hq : Nat.blt q 126 = true) : bA q (zI s q i) := I.2.2.1 q i (by simpa using hq)
theorem Jv.h3 (I : Jv s) (o : okH s p) : 0 ≤ (zS s p 3).toInt ∧ (zS s p 3).toInt ≤ 60 := I.2.2.2.1 p 3 o.2.2.1
theorem Jv.h4 (I : Jv s) (o : okH s p) : 0 ≤ (zS s p 4).toInt ∧ (zS s p 4).toInt ≤ 60 := I.2.2.2.1 p 4 o.2.2.1
theorem okV_T (o : okV p) : T0 p = 8 := by
  obtain ⟨h1, h2, h3⟩ := o
  have : p = 47 ∨ p = 49 ∨ p = 51 ∨ p = 53 ∨ p = 55 ∨ p = 57 := by omega
  rcases this with rfl | rfl | rfl | rfl | rfl | rfl <;> rfl
theorem okM_T (o : okM p) : T0 p = 4 := by
  obtain ⟨h1, h2⟩ := o
  have : p = 20 ∨ p = 21 ∨ p = 22 := by omega
  rcases this with rfl | rfl | rfl <;> rfl
theorem Jv.T (I : Jv s) (hq : q < 126) : zT s q = T0 q := (I.1.2.1 q hq).1
theorem Jv.v3 (I : Jv s) (o : okV p) : 0 ≤ (zS s p 3).toInt ∧ (zS s p 3).toInt ≤ 60 := I.2.2.2.2.1 p 3 (by rw [I.T (by have := o.1; omega)]; exact okV_T o)
theorem Jv.pS_ (I : Jv s) (h1 : q < 126 → bF q k v) (h2 : zT s q = 3 → bH k v) (h3 : zT s q = 8 → bV k v) : Jv (pS s q k v) := by
  obtain ⟨a1, a2, a3, a4, a5, a6⟩ := I
  refine ⟨a1.same rfl rfl, fun x y hx => ?_, a3, fun x y hx => ?_, fun x y hx => ?_, a6⟩
  · rw [zS_pS]
    by_cases h : x = q ∧ y = k
    · rw [if_pos h, h.1, h.2]; exact h1 (h.1 ▸ hx)
    · rw [if_neg h]; exact a2 x y hx
  · rw [zS_pS]
    by_cases h : x = q ∧ y = k
    · rw [if_pos h, h.2]; exact h2 (h.1 ▸ hx)
    · rw [if_neg h]; exact a4 x y hx
  · rw [zS_pS]
    by_cases h : x = q ∧ y = k
    · rw [if_pos h, h.2]; exact h3 (h.1 ▸ hx)
    · rw [if_neg h]; exact a5 x y hx
theorem Jv.wF (I : Jv s) (hq : (Nat.blt q 126 && !(Nat.beq (T0 q) 3 || Nat.beq (T0 q) 8)) = true) (h : bF q k v) : Jv (pS s q k v) := by
  simp only [Bool.and_eq_true, Bool.not_eq_true', Bool.or_eq_false_iff] at hq
  have hq' : q < 126 := by simpa using hq.1
  have hT := I.T hq'
  have h3 : T0 q ≠ 3 := fun z => by rw [z] at hq; exact absurd hq.2.1 (by decide)
  have h8 : T0 q ≠ 8 := fun z => by rw [z] at hq; exact absurd hq.2.2 (by decide)
  exact I.pS_ (fun _ => h) (fun z => absurd (hT.symm.trans z) h3) (fun z => absurd (hT.symm.trans z) h8)
theorem Jv.wH (I : Jv s) (o : okH s p) (h : bH k v) : Jv (pS s p k v) := I.pS_ (fun z => absurd z (by have := o.1; omega)) (fun _ => h) (fun z => absurd (o.2.2.1.symm.trans z) (by decide))
theorem Jv.wC (I : Jv s) (o : okC s p) : Jv (pS s p k v) := I.pS_ (fun z => absurd z (by have := o.1; omega)) (fun z => absurd (o.2.2.1.symm.trans z) (by decide)) (fun z => absurd (o.2.2.1.symm.trans z) (by decide))
theorem Jv.wV (I : Jv s) (o : okV p) (h : bV k v) : Jv (pS s p k v) := by
  have hq : p < 126 := by have := o.1; omega
  refine I.pS_ (fun _ => ?_) (fun z => absurd ((I.T hq).symm.trans z) (by rw [okV_T o]; decide)) (fun _ => h)
  obtain ⟨h1, h2, h3⟩ := o
  have : p = 47 ∨ p = 49 ∨ p = 51 ∨ p = 53 ∨ p = 55 ∨ p = 57 := by omega
  rcases this with rfl | rfl | rfl | rfl | rfl | rfl <;> exact trivial
theorem Jv.wM (I : Jv s) (o : okM p) : Jv (pS s p k v) := by
  have hq : p < 126 := by have := o.2; omega
  refine I.pS_ (fun _ => ?_) (fun z => absurd ((I.T hq).symm.trans z) (by rw [okM_T o]; decide)) (fun z => absurd ((I.T hq).symm.trans z) (by rw [okM_T o]; decide))
  obtain ⟨h1, h2⟩ := o
  have : p = 20 ∨ p = 21 ∨ p = 22 := by omega
  rcases this with rfl | rfl | rfl <;> exact trivial
theorem Jv.pI_ (I : Jv s) (h1 : q < 126 → bA q v) : Jv (pI s q i v) := by
  obtain ⟨a1, a2, a3, a4, a5, a6⟩ := I
  refine ⟨a1.same rfl rfl, a2, fun x y hx => ?_, a4, a5, a6⟩
  rw [zI_pI]
  by_cases h : x = q ∧ y = i
  · rw [if_pos h, h.1]; exact h1 (h.1 ▸ hx)
  · rw [if_neg h]; exact a3 x y hx
theorem Jv.wI (I : Jv s) (hq : Nat.blt q 126 = true) (h : bA q v) : Jv (pI s q i v) := I.pI_ (fun _ => h)
theorem Jv.wD (I : Jv s) (hq : 126 ≤ q) : Jv (pI s q i v) := I.pI_ (fun z => absurd z (by omega))
theorem Jv.wFI (I : Jv s) (h1 : bA q v) : Jv (pF s q v) := by
  obtain ⟨a1, a2, a3, a4, a5, a6⟩ := I
  refine ⟨a1.same rfl rfl, a2, fun x y hx => ?_, a4, a5, a6⟩
  rw [zI_pF]
  by_cases h : x = q
  · rw [if_pos h, h]; exact h1
  · rw [if_neg h]; exact a3 x y hx
theorem Jv.wJ (I : Jv s) : Jv (pJ s q i w) := by
  obtain ⟨a1, a2, a3, a4, a5, a6⟩ := I
  exact ⟨a1.same rfl rfl, a2, a3, a4, a5, a6⟩
theorem Jv.wG (I : Jv s) : Jv (pG s q w) := by
  obtain ⟨a1, a2, a3, a4, a5, a6⟩ := I
  exact ⟨a1.same rfl rfl, a2, a3, a4, a5, a6⟩
theorem Jv.wK {q0 sp dp n : Nat} (I : Jv s) : Jv (pK s q0 q sp dp n) := by
  obtain ⟨a1, a2, a3, a4, a5, a6⟩ := I
  exact ⟨a1.same rfl rfl, a2, a3, a4, a5, a6⟩
end IVs
section ONs
variable {ρ : Type} {Q : ρ → Prop} {s : SS} {x : Int32} {A : Option ρ} {B : Nat → Option ρ}
theorem Ok_onM (I : Jv s) (hi : inB x 3) (h : ∀ p, okM p → zR s 19 x.toInt.toNat = some p → Ok (B p) Q) : Ok (on (zR s 19 x.toInt.toNat) A B) Q := by
  have e := I.1.2.2.2.1 _ (ixl hi)
  rw [e]
  have := ixl hi
  exact h _ ⟨by omega, by omega⟩ e
theorem Ok_onV (I : Jv s) (hi : inB x 6) (h : ∀ p, okV p → zR s 46 x.toInt.toNat = some p → Ok (B p) Q) : Ok (on (zR s 46 x.toInt.toNat) A B) Q := by
  have e := I.1.2.2.2.2.2.2 _ (ixl hi)
  rw [e]
  have := ixl hi
  exact h _ ⟨by omega, by omega, by omega⟩ e
theorem Ok_onH (I : Jv s) (hi : inB x 120) (h0 : zR s 17 x.toInt.toNat = none → Ok A Q) (h : ∀ p, okH s p → zR s 17 x.toInt.toNat = some p → Ok (B p) Q) : Ok (on (zR s 17 x.toInt.toNat) A B) Q := by
  cases e : zR s 17 x.toInt.toNat with
  | none => exact h0 e
  | some p => exact h p (I.1.2.2.1 _ p (ixl hi) e) e
theorem Ok_onC (I : Jv s) (hi : inB x 8) (h0 : zR s 23 x.toInt.toNat = none → Ok A Q) (h : ∀ p, okC s p → zR s 23 x.toInt.toNat = some p → Ok (B p) Q) : Ok (on (zR s 23 x.toInt.toNat) A B) Q := by
  cases e : zR s 23 x.toInt.toNat with
  | none => exact h0 e
  | some p => exact h p (I.1.2.2.2.2.1 _ p (ixl hi) e) e
theorem Ok_onT (I : Jv s) (hi : inB x 16) (h0 : zR s 27 x.toInt.toNat = none → Ok A Q) (h : ∀ p, okT s p → zR s 27 x.toInt.toNat = some p → Ok (B p) Q) : Ok (on (zR s 27 x.toInt.toNat) A B) Q := by
  cases e : zR s 27 x.toInt.toNat with
  | none => exact h0 e
  | some p => exact h p (I.1.2.2.2.2.2.1 _ p (ixl hi) e) e
end ONs
/-! THE TEXTS OF THE REFERENCE: their code runs -/
def Cd (A B : Nat → Int32) : Nat → Nat → Nat → Prop
  | 0, _, _ => True
  | m + 1, k, n => if A k = 1 then Cd A B m (k + 1) (n + 1) else if A k = 2 then (0 ≤ (B k).toInt ∧ (B k).toInt ≤ 7) ∧ Cd A B m (k + 1) (n + 1) else if A k = 3 ∨ A k = 4 then 1 ≤ n ∧ Cd A B m (k + 1) n else 2 ≤ n ∧ Cd A B m (k + 1) (n - 1)
def fromL (E : Nat → Int32) (t i : Nat) : Int := if i = 0 then 0 else (E (90 * t + i - 1)).toInt
/-- row t: n lines; line i tests from fromL to T, gives from T to E -/
def TWr (T E A B : Nat → Int32) (t n : Nat) : Prop := ∀ i, i < n → (0 ≤ fromL E t i ∧ fromL E t i ≤ (T (90 * t + i)).toInt ∧ (T (90 * t + i)).toInt ≤ (E (90 * t + i)).toInt ∧ (E (90 * t + i)).toInt ≤ 160) ∧ Cd A B ((T (90 * t + i)).toInt - fromL E t i).toNat (170 * t + (fromL E t i).toNat) 0 ∧ Cd A B ((E (90 * t + i)).toInt - (T (90 * t + i)).toInt).toNat (170 * t + (T (90 * t + i)).toInt.toNat) 0
def TWf (M T E A B : Nat → Int32) (n : Int32) : Prop := ∀ t : Nat, (t : Int) < n.toInt → (0 ≤ (M t).toInt ∧ (M t).toInt ≤ 90) ∧ TWr T E A B t (M t).toInt.toNat
/-- and the cost of the empty order is 0 -/
def TW (s : SS) : Prop := TWf (zI s 90) (zI s 91) (zI s 92) (zI s 93) (zI s 94) (zS s 59 38) ∧ zI s 109 0 = 0
theorem TW.eq {s s' : SS} (T : TW s) (h : ∀ q j, (90 ≤ q ∧ q ≤ 94) ∨ q = 109 → zI s' q j = zI s q j) (h2 : zS s' 59 38 = zS s 59 38) : TW s' := by
  unfold TW
  rw [h2, h 109 0 (Or.inr rfl), show zI s' 90 = zI s 90 from funext fun j => h 90 j (by omega), show zI s' 91 = zI s 91 from funext fun j => h 91 j (by omega), show zI s' 92 = zI s 92 from funext fun j => h 92 j (by omega), show zI s' 93 = zI s 93 from funext fun j => h 93 j (by omega), show zI s' 94 = zI s 94 from funext fun j => h 94 j (by omega)]
  exact T
def Iv (s : SS) : Prop := Jv s ∧ TW s
section IVj
variable {s : SS} {q k i p : Nat} {v : Int32} {w : Int64}
theorem Iv.f (I : Iv s) (hq : Nat.blt q 126 = true) : bF q k (zS s q k) := I.1.f hq
theorem Iv.a (I : Iv s) (hq : Nat.blt q 126 = true) : bA q (zI s q i) := I.1.a hq
theorem Iv.h3 (I : Iv s) (o : okH s p) : 0 ≤ (zS s p 3).toInt ∧ (zS s p 3).toInt ≤ 60 := I.1.h3 o
theorem Iv.h4 (I : Iv s) (o : okH s p) : 0 ≤ (zS s p 4).toInt ∧ (zS s p 4).toInt ≤ 60 := I.1.h4 o
theorem Iv.v3 (I : Iv s) (o : okV p) : 0 ≤ (zS s p 3).toInt ∧ (zS s p 3).toInt ≤ 60 := I.1.v3 o
theorem TW.pS_ (T : TW s) (h : ¬ (q = 59 ∧ k = 38)) : TW (pS s q k v) := T.eq (fun _ _ _ => rfl) (by rw [zS_pS, if_neg (fun z => h ⟨z.1.symm, z.2.symm⟩)])
theorem TW.pI_ (T : TW s) (h : (q < 90 ∨ 94 < q) ∧ q ≠ 109) : TW (pI s q i v) := T.eq (fun a b h1 => by rw [zI_pI, if_neg (fun z => by omega)]) rfl
theorem Iv.wF (I : Iv s) (hq : (Nat.blt q 126 && !(Nat.beq (T0 q) 3 || Nat.beq (T0 q) 8)) = true) (h9 : (Nat.beq q 59 && Nat.beq k 38) = false) (h : bF q k v) : Iv (pS s q k v) := ⟨I.1.wF hq h, I.2.pS_ (fun z => by rw [z.1, z.2] at h9; exact absurd h9 (by decide))⟩
theorem Iv.wH (I : Iv s) (o : okH s p) (h : bH k v) : Iv (pS s p k v) := ⟨I.1.wH o h, I.2.pS_ (fun z => by have := o.1; omega)⟩
theorem Iv.wC (I : Iv s) (o : okC s p) : Iv (pS s p k v) := ⟨I.1.wC o, I.2.pS_ (fun z => by have := o.1; omega)⟩
theorem Iv.wV (I : Iv s) (o : okV p) (h : bV k v) : Iv (pS s p k v) := ⟨I.1.wV o h, I.2.pS_ (fun z => by have := o.1; omega)⟩
theorem Iv.wM (I : Iv s) (o : okM p) : Iv (pS s p k v) := ⟨I.1.wM o, I.2.pS_ (fun z => by have := o.2; omega)⟩
theorem n109 {q : Nat} (hq : (Nat.ble 90 q && Nat.ble q 94 || Nat.beq q 109) = false) : (q < 90 ∨ 94 < q) ∧ q ≠ 109 := by
  simp only [Bool.or_eq_false_iff, Bool.and_eq_false_iff] at hq
  refine ⟨?_, fun z => by rw [z] at hq; exact absurd hq.2 (by decide)⟩
  rcases hq.1 with z | z
  · exact Or.inl (Nat.not_le.mp (fun y => by rw [Nat.ble_eq.mpr y] at z; cases z))
  · exact Or.inr (Nat.not_le.mp (fun y => by rw [Nat.ble_eq.mpr y] at z; cases z))
theorem Iv.wI (I : Iv s) (hq : (Nat.blt q 126 && !(Nat.ble 90 q && Nat.ble q 94 || Nat.beq q 109)) = true) (h : bA q v) : Iv (pI s q i v) := by
  simp only [Bool.and_eq_true, Bool.not_eq_true'] at hq
  exact ⟨I.1.wI hq.1 h, I.2.pI_ (n109 hq.2)⟩
theorem Iv.wD (I : Iv s) (hq : 126 ≤ q) : Iv (pI s q i v) := ⟨I.1.wD hq, I.2.pI_ ⟨by omega, by omega⟩⟩
theorem Iv.wFI (I : Iv s) (hq : (Nat.ble 90 q && Nat.ble q 94 || Nat.beq q 109) = false) (h1 : bA q v) : Iv (pF s q v) := ⟨I.1.wFI h1, I.2.eq (fun a b h2 => by
  have h3 := n109 hq
  rw [zI_pF, if_neg (fun z => by omega)]) rfl⟩
theorem Iv.wJ (I : Iv s) : Iv (pJ s q i w) := ⟨I.1.wJ, I.2⟩
theorem Iv.wG (I : Iv s) : Iv (pG s q w) := ⟨I.1.wG, I.2⟩
theorem Iv.wK {q0 sp dp n : Nat} (I : Iv s) : Iv (pK s q0 q sp dp n) := ⟨I.1.wK, I.2⟩
end IVj

/-! LIKE: the ranges hold, the layout is that of b0, and what the row watches (fS fields, fI arrays) is as in b0 -/
def fSA (q k : Nat) : Bool := match q with
  | 0 => Nat.beq k 5 || Nat.beq k 15
  | 15 => Nat.beq k 3 || Nat.beq k 5
  | 20 => Nat.ble k 1
  | 21 => Nat.ble k 1
  | 22 => Nat.ble k 1
  | 34 => Nat.beq k 3 || Nat.beq k 9
  | 47 => Nat.ble k 3
  | 49 => Nat.ble k 3
  | 51 => Nat.ble k 3
  | 53 => Nat.ble k 3
  | 55 => Nat.ble k 3
  | 57 => Nat.ble k 3
  | 59 => Nat.beq k 4 || Nat.beq k 21 || Nat.beq k 29 || Nat.beq k 30 || Nat.beq k 67 || Nat.beq k 76
  | _ => false
/-- what the second relation watches -/
def fSB (q k : Nat) : Bool := match q with
  | 0 => Nat.beq k 8 || Nat.beq k 14
  | 1 => Nat.beq k 4
  | 15 => Nat.beq k 11
  | 24 => Nat.beq k 1
  | 59 => Nat.beq k 1 || Nat.beq k 37 || Nat.beq k 38 || Nat.beq k 56 || Nat.beq k 87
  | _ => false
def fS (q k : Nat) : Bool := fSA q k || fSB q k
def fIA (q : Nat) : Bool := match q with
  | 9 => true
  | 16 => true
  | 42 => true
  | 62 => true
  | 76 => true
  | 78 => true
  | 79 => true
  | 113 => true
  | 120 => true
  | 121 => true
  | 123 => true
  | _ => false
def fIB (q : Nat) : Bool := match q with
  | 2 => true
  | 3 => true
  | 4 => true
  | 5 => true
  | 18 => true
  | 25 => true
  | 60 => true
  | 61 => true
  | 86 => true
  | 97 => true
  | 98 => true
  | 119 => true
  | _ => false
def fI (q : Nat) : Bool := fIA q || fIB q
def fJ (q : Nat) : Bool := match q with
  | 48 => true
  | 50 => true
  | 52 => true
  | 54 => true
  | 56 => true
  | 58 => true
  | 122 => true
  | _ => false
theorem fSA_lt {q k : Nat} (h : fSA q k = true) : q < 126 := by
  unfold fSA at h
  split at h <;> first | omega | cases h
theorem fSB_lt {q k : Nat} (h : fSB q k = true) : q < 126 := by
  unfold fSB at h
  split at h <;> first | omega | cases h
theorem fS_lt {q k : Nat} (h : fS q k = true) : q < 126 := by
  unfold fS at h
  rcases Bool.or_eq_true_iff.mp h with h | h
  · exact fSA_lt h
  · exact fSB_lt h
theorem fIA_lt {q : Nat} (h : fIA q = true) : q < 126 := by
  unfold fIA at h
  split at h <;> first | omega | cases h
theorem fIB_lt {q : Nat} (h : fIB q = true) : q < 126 := by
  unfold fIB at h
  split at h <;> first | omega | cases h
theorem fI_lt {q : Nat} (h : fI q = true) : q < 126 := by
  unfold fI at h
  rcases Bool.or_eq_true_iff.mp h with h | h
  · exact fIA_lt h
  · exact fIB_lt h
theorem fJ_lt {q : Nat} (h : fJ q = true) : q < 126 := by
  unfold fJ at h
  split at h <;> first | omega | cases h
theorem fS_M {p k : Nat} (o : okM p) (hk : Nat.ble k 1 = false) : fS p k = false := by
  have h : p = 20 ∨ p = 21 ∨ p = 22 := by have := o.1; have := o.2; omega
  rcases h with rfl | rfl | rfl <;> (show (Nat.ble k 1 || false) = false; rw [hk]; rfl)
theorem fS_dyn {q k : Nat} (h : 126 ≤ q) : fS q k = false := by
  cases e : fS q k with
  | false => rfl
  | true => exact absurd (fS_lt e) (by omega)
theorem fI_dyn {q : Nat} (h : 126 ≤ q) : fI q = false := by
  cases e : fI q with
  | false => rfl
  | true => exact absurd (fI_lt e) (by omega)
theorem fJ_dyn {q : Nat} (h : 126 ≤ q) : fJ q = false := by
  cases e : fJ q with
  | false => rfl
  | true => exact absurd (fJ_lt e) (by omega)
def Fr (b0 s : SS) : Prop := (∀ q k, fS q k = true → zS s q k = zS b0 q k) ∧ (∀ q i, fI q = true → zI s q i = zI b0 q i) ∧ ∀ q i, fJ q = true → zJ s q i = zJ b0 q i
theorem Fr.rf (s : SS) : Fr s s := ⟨fun _ _ _ => rfl, fun _ _ _ => rfl, fun _ _ _ => rfl⟩
theorem Fr.tr {a b c : SS} (h1 : Fr a b) (h2 : Fr b c) : Fr a c := ⟨fun q k h => (h2.1 q k h).trans (h1.1 q k h), fun q i h => (h2.2.1 q i h).trans (h1.2.1 q i h), fun q i h => (h2.2.2 q i h).trans (h1.2.2 q i h)⟩
theorem Fr.pS {b0 s : SS} {q k : Nat} {v : Int32} (h : Fr b0 s) (hf : fS q k = false) : Fr b0 (pS s q k v) := ⟨fun a b e => by
  rw [zS_pS, if_neg (fun z => by rw [z.1, z.2, hf] at e; cases e)]
  exact h.1 a b e, h.2⟩
theorem Fr.pI {b0 s : SS} {q i : Nat} {v : Int32} (h : Fr b0 s) (hf : fI q = false) : Fr b0 (pI s q i v) := ⟨h.1, fun a b e => by
  rw [zI_pI, if_neg (fun z => by rw [z.1, hf] at e; cases e)]
  exact h.2.1 a b e, h.2.2⟩
theorem Fr.pF {b0 s : SS} {q : Nat} {v : Int32} (h : Fr b0 s) (hf : fI q = false) : Fr b0 (pF s q v) := ⟨h.1, fun a b e => by
  rw [zI_pF, if_neg (fun z => by rw [z, hf] at e; cases e)]
  exact h.2.1 a b e, h.2.2⟩
theorem Fr.pJ {b0 s : SS} {q i : Nat} {v : Int64} (h : Fr b0 s) (hf : fJ q = false) : Fr b0 (pJ s q i v) := ⟨h.1, h.2.1, fun a b e => by
  show (if a = q ∧ b = i then v else zJ s a b) = _
  rw [if_neg (fun z => by rw [z.1, hf] at e; cases e)]
  exact h.2.2 a b e⟩
theorem Fr.pG {b0 s : SS} {q : Nat} {v : Int64} (h : Fr b0 s) (hf : fJ q = false) : Fr b0 (pG s q v) := ⟨h.1, h.2.1, fun a b e => by
  show (if a = q then v else zJ s a b) = _
  rw [if_neg (fun z => by rw [z, hf] at e; cases e)]
  exact h.2.2 a b e⟩
def Lk (b0 s : SS) : Prop := Iv s ∧ s.2.2.2 = b0.2.2.2 ∧ Fr b0 s
section LKs
variable {b0 s : SS} {q k i p : Nat} {v : Int32} {w : Int64}
theorem Lk.rf (I : Iv s) : Lk s s := ⟨I, rfl, Fr.rf s⟩
theorem Lk.H (K : Lk b0 s) (o : okH b0 p) : okH s p := by
  have e := K.2.1
  unfold okH zT zN zL at *
  rw [e]
  exact o
theorem Lk.H' (K : Lk b0 s) (o : okH s p) : okH b0 p := by
  have e := K.2.1
  unfold okH zT zN zL at *
  rw [← e]
  exact o
theorem Lk.C (K : Lk b0 s) (o : okC b0 p) : okC s p := by
  have e := K.2.1
  unfold okC zT zN zL at *
  rw [e]
  exact o
theorem Lk.C' (K : Lk b0 s) (o : okC s p) : okC b0 p := by
  have e := K.2.1
  unfold okC zT zN zL at *
  rw [← e]
  exact o
theorem Lk.T (K : Lk b0 s) (o : okT b0 p) : okT s p := by
  have e := K.2.1
  unfold okT zT zL at *
  rw [e]
  exact o
theorem Lk.T' (K : Lk b0 s) (o : okT s p) : okT b0 p := by
  have e := K.2.1
  unfold okT zT zL at *
  rw [← e]
  exact o
theorem Lk.zN_ (K : Lk b0 s) (a : Nat) : zN s a = zN b0 a := by
  have e := K.2.1
  unfold zN
  rw [e]
theorem Lk.zR_ (K : Lk b0 s) (a b : Nat) : zR s a b = zR b0 a b := by
  have e := K.2.1
  unfold zR
  rw [e]
theorem Lk.f (K : Lk b0 s) (hq : Nat.blt q 126 = true) : bF q k (zS s q k) := K.1.f hq
theorem Lk.a (K : Lk b0 s) (hq : Nat.blt q 126 = true) : bA q (zI s q i) := K.1.a hq
theorem Lk.h3 (K : Lk b0 s) (o : okH b0 p) : 0 ≤ (zS s p 3).toInt ∧ (zS s p 3).toInt ≤ 60 := K.1.h3 (K.H o)
theorem Lk.h4 (K : Lk b0 s) (o : okH b0 p) : 0 ≤ (zS s p 4).toInt ∧ (zS s p 4).toInt ≤ 60 := K.1.h4 (K.H o)
theorem Lk.v3 (K : Lk b0 s) (o : okV p) : 0 ≤ (zS s p 3).toInt ∧ (zS s p 3).toInt ≤ 60 := K.1.v3 o
theorem Lk.wF (K : Lk b0 s) (hq : (Nat.blt q 126 && !(Nat.beq (T0 q) 3 || Nat.beq (T0 q) 8)) = true) (h9 : (Nat.beq q 59 && Nat.beq k 38) = false) (hf : fS q k = false) (h : bF q k v) : Lk b0 (pS s q k v) := ⟨K.1.wF hq h9 h, K.2.1, K.2.2.pS hf⟩
theorem Lk.wH (K : Lk b0 s) (o : okH b0 p) (h : bH k v) : Lk b0 (pS s p k v) := ⟨K.1.wH (K.H o) h, K.2.1, K.2.2.pS (fS_dyn o.1)⟩
theorem Lk.wC (K : Lk b0 s) (o : okC b0 p) : Lk b0 (pS s p k v) := ⟨K.1.wC (K.C o), K.2.1, K.2.2.pS (fS_dyn o.1)⟩
theorem Lk.wM (K : Lk b0 s) (o : okM p) (hk : Nat.ble k 1 = false) : Lk b0 (pS s p k v) := ⟨K.1.wM o, K.2.1, K.2.2.pS (fS_M o hk)⟩
theorem Lk.wI (K : Lk b0 s) (hq : (Nat.blt q 126 && !(Nat.ble 90 q && Nat.ble q 94 || Nat.beq q 109)) = true) (hf : fI q = false) (h : bA q v) : Lk b0 (pI s q i v) := ⟨K.1.wI hq h, K.2.1, K.2.2.pI hf⟩
theorem Lk.w1 (K : Lk b0 s) (o : okH b0 p) : Lk b0 (pI s (p + 1) i v) := ⟨K.1.wD (by have := o.1; omega), K.2.1, K.2.2.pI (fI_dyn (by have := o.1; omega))⟩
theorem Lk.w2 (K : Lk b0 s) (o : okH b0 p) : Lk b0 (pI s (p + 2) i v) := ⟨K.1.wD (by have := o.1; omega), K.2.1, K.2.2.pI (fI_dyn (by have := o.1; omega))⟩
theorem Lk.w3 (K : Lk b0 s) (o : okH b0 p) : Lk b0 (pI s (p + 3) i v) := ⟨K.1.wD (by have := o.1; omega), K.2.1, K.2.2.pI (fI_dyn (by have := o.1; omega))⟩
theorem Lk.wc1 (K : Lk b0 s) (o : okC b0 p) : Lk b0 (pI s (p + 1) i v) := ⟨K.1.wD (by have := o.1; omega), K.2.1, K.2.2.pI (fI_dyn (by have := o.1; omega))⟩
theorem Lk.wFI (K : Lk b0 s) (hq : (Nat.ble 90 q && Nat.ble q 94 || Nat.beq q 109) = false) (hf : fI q = false) (h : bA q v) : Lk b0 (pF s q v) := ⟨K.1.wFI hq h, K.2.1, K.2.2.pF hf⟩
theorem Lk.wJ (K : Lk b0 s) (hf : fJ q = false) : Lk b0 (pJ s q i w) := ⟨K.1.wJ, K.2.1, K.2.2.pJ hf⟩
theorem Lk.wG (K : Lk b0 s) (hf : fJ q = false) : Lk b0 (pG s q w) := ⟨K.1.wG, K.2.1, K.2.2.pG hf⟩
end LKs
section ONk
variable {ρ : Type} {Q : ρ → Prop} {b0 s : SS} {x : Int32} {A : Option ρ} {B : Nat → Option ρ}
theorem Lk_onM (K : Lk b0 s) (hi : inB x 3) (h : ∀ p, okM p → 20 ≤ p ∧ p < 23 → Ok (B p) Q) : Ok (on (zR s 19 x.toInt.toNat) A B) Q := Ok_onM K.1.1 hi (fun p o _ => h p o o)
theorem Lk_onV (K : Lk b0 s) (hi : inB x 6) (h : ∀ p, okV p → (0 ≤ (zS s p 3).toInt ∧ (zS s p 3).toInt ≤ 60) → 47 ≤ p ∧ p < 59 → Ok (B p) Q) : Ok (on (zR s 46 x.toInt.toNat) A B) Q := Ok_onV K.1.1 hi (fun p o _ => h p o (K.v3 o) ⟨o.2.1, o.1⟩)
theorem Lk_onH (K : Lk b0 s) (hi : inB x 120) (h0 : zR s 17 x.toInt.toNat = none → Ok A Q) (h : ∀ p, okH b0 p → zR s 17 x.toInt.toNat = some p → (0 ≤ (zS s p 3).toInt ∧ (zS s p 3).toInt ≤ 60) → (0 ≤ (zS s p 4).toInt ∧ (zS s p 4).toInt ≤ 60) → 126 ≤ p → Ok (B p) Q) : Ok (on (zR s 17 x.toInt.toNat) A B) Q := Ok_onH K.1.1 hi h0 (fun p o e => h p (K.H' o) e (K.1.h3 o) (K.1.h4 o) o.1)
theorem Lk_onC (K : Lk b0 s) (hi : inB x 8) (h0 : zR s 23 x.toInt.toNat = none → Ok A Q) (h : ∀ p, okC b0 p → zR s 23 x.toInt.toNat = some p → 126 ≤ p → Ok (B p) Q) : Ok (on (zR s 23 x.toInt.toNat) A B) Q := Ok_onC K.1.1 hi h0 (fun p o e => h p (K.C' o) e o.1)
theorem Lk_onT (K : Lk b0 s) (hi : inB x 16) (h0 : zR s 27 x.toInt.toNat = none → Ok A Q) (h : ∀ p, okT b0 p → zN b0 (p + 1) ≤ 161 → 126 ≤ p → Ok (B p) Q) : Ok (on (zR s 27 x.toInt.toNat) A B) Q := Ok_onT K.1.1 hi h0 (fun p o e => h p (K.T' o) (K.zN_ (p + 1) ▸ K.1.1.2.2.2.2.2 _ p (ixl hi) e) o.1)
/-- guards that bring what the tables say of the place -/
theorem Lk_g120 {k : Option ρ} {i : Decidable (inB x 120)} (K : Lk b0 s) (hb : inB x 120) (h : inB x 120 → bA 16 (zI s 16 x.toInt.toNat) → bA 66 (zI s 66 x.toInt.toNat) → bA 67 (zI s 67 x.toInt.toNat) → bA 116 (zI s 116 x.toInt.toNat) → Ok k Q) : Ok (@gd ρ (inB x 120) i k) Q := Ok_gd hb (fun z => h z (K.a rfl) (K.a rfl) (K.a rfl) (K.a rfl))
theorem Lk_g3 {k : Option ρ} {i : Decidable (inB x 3)} (K : Lk b0 s) (hb : inB x 3) (h : inB x 3 → bA 79 (zI s 79 x.toInt.toNat) → Ok k Q) : Ok (@gd ρ (inB x 3) i k) Q := Ok_gd hb (fun z => h z (K.a rfl))
theorem Lk_g8 {k : Option ρ} {i : Decidable (inB x 8)} (K : Lk b0 s) (hb : inB x 8) (h : inB x 8 → bA 84 (zI s 84 x.toInt.toNat) → Ok k Q) : Ok (@gd ρ (inB x 8) i k) Q := Ok_gd hb (fun z => h z (K.a rfl))
theorem Lk_g60 {k : Option ρ} {i : Decidable (inB x 60)} (K : Lk b0 s) (hb : inB x 60) (h : inB x 60 → bA 97 (zI s 97 x.toInt.toNat) → Ok k Q) : Ok (@gd ρ (inB x 60) i k) Q := Ok_gd hb (fun z => h z (K.a rfl))
theorem Lk_g40 {k : Option ρ} {i : Decidable (inB x 40)} (K : Lk b0 s) (hb : inB x 40) (h : inB x 40 → bA 102 (zI s 102 x.toInt.toNat) → Ok k Q) : Ok (@gd ρ (inB x 40) i k) Q := Ok_gd hb (fun z => h z (K.a rfl))
theorem Lk_g6 {k : Option ρ} {i : Decidable (inB x 6)} (K : Lk b0 s) (hb : inB x 6) (h : inB x 6 → bA 120 (zI s 120 x.toInt.toNat) → bA 121 (zI s 121 x.toInt.toNat) → Ok k Q) : Ok (@gd ρ (inB x 6) i k) Q := Ok_gd hb (fun z => h z (K.a rfl) (K.a rfl))
end ONk
theorem jcl (a : Int32) : a.toNatClampNeg = a.toInt.toNat := rfl
theorem kAi_le (j : Nat) : -1 ≤ (kAi j).toInt ∧ (kAi j).toInt ≤ 4 := by
  unfold kAi
  split <;> decide
theorem ofN_ {n : Nat} (h : n ≤ 161) : (Int32.ofNat n).toInt = (n : Int) := by
  rw [Int32.toInt_ofNat_of_lt]
  omega
theorem ms3 {y : Int32} (h : 1 ≤ y.toInt ∧ y.toInt ≤ 3) : (3 * y).toInt = 3 * y.toInt := i32_mul (a := 3) (by show -2147483648 ≤ 3 * y.toInt; omega) (by show 3 * y.toInt < 2147483648; omega)
/-- the reader at work: its place, its size -/
def Rs (s : SS) : Prop := (0 ≤ (zS s 24 4).toInt ∧ (zS s 24 4).toInt ≤ (zS s 24 1).toInt) ∧ (0 ≤ (zS s 24 3).toInt ∧ (zS s 24 3).toInt ≤ 161) ∧ 0 ≤ (zS s 0 8).toInt ∧ (zS s 0 8).toInt < 16
section JNs
variable {ρ : Type} {Q : ρ → Prop} {b0 : SS}
theorem Ok_jn0 {K : Option ρ} {B : Option ρ → Option ρ} (hK : Ok K Q) (h : ∀ k, Ok k Q → Ok (B k) Q) : Ok (jn K B) Q := h K hK
theorem Ok_jn1 {K : Int32 → Option ρ} {B : (Int32 → Option ρ) → Option ρ} (hK : ∀ t, Ok (K t) Q) (h : ∀ k, (∀ t, Ok (k t) Q) → Ok (B k) Q) : Ok (jn K B) Q := h K hK
theorem Ok_jn2 {K : Int32 → Int32 → Option ρ} {B : (Int32 → Int32 → Option ρ) → Option ρ} (hK : ∀ t u, Ok (K t u) Q) (h : ∀ k, (∀ t u, Ok (k t u) Q) → Ok (B k) Q) : Ok (jn K B) Q := h K hK
theorem Ok_jnS {K : SS → Option ρ} {B : (SS → Option ρ) → Option ρ} (hK : ∀ s, Lk b0 s → Ok (K s) Q) (h : ∀ k, (∀ s, Lk b0 s → Ok (k s) Q) → Ok (B k) Q) : Ok (jn K B) Q := h K hK
theorem Ok_jnS1 {K : SS → Int32 → Option ρ} {B : (SS → Int32 → Option ρ) → Option ρ} (hK : ∀ s t, Lk b0 s → Ok (K s t) Q) (h : ∀ k, (∀ s t, Lk b0 s → Ok (k s t) Q) → Ok (B k) Q) : Ok (jn K B) Q := h K hK
theorem Ok_jnS2 {K : SS → Int32 → Int32 → Option ρ} {B : (SS → Int32 → Int32 → Option ρ) → Option ρ} (hK : ∀ s t u, Lk b0 s → Ok (K s t u) Q) (h : ∀ k, (∀ s t u, Lk b0 s → Ok (k s t u) Q) → Ok (B k) Q) : Ok (jn K B) Q := h K hK
theorem Ok_k1 {k : Int32 → Option ρ} (h : ∀ t, Ok (k t) Q) (t : Int32) : Ok (k t) Q := h t
theorem Ok_k2 {k : Int32 → Int32 → Option ρ} (h : ∀ t u, Ok (k t u) Q) (t u : Int32) : Ok (k t u) Q := h t u
theorem Ok_kS {k : SS → Option ρ} (h : ∀ s, Lk b0 s → Ok (k s) Q) {s : SS} (K : Lk b0 s) : Ok (k s) Q := h s K
theorem Ok_kS1 {k : SS → Int32 → Option ρ} (h : ∀ s t, Lk b0 s → Ok (k s t) Q) {s : SS} {t : Int32} (K : Lk b0 s) : Ok (k s t) Q := h s t K
theorem Ok_kS2 {k : SS → Int32 → Int32 → Option ρ} (h : ∀ s t u, Lk b0 s → Ok (k s t u) Q) {s : SS} {t u : Int32} (K : Lk b0 s) : Ok (k s t u) Q := h s t u K
end JNs
theorem wat {a p b : Int32} (ha : 0 ≤ a.toInt ∧ a.toInt ≤ 2) (hp : 0 ≤ p.toInt ∧ p.toInt ≤ 3) (hb : 0 ≤ b.toInt ∧ b.toInt < p.toInt) : inB (a * p + b) 9 := by
  have h : a.toInt = 0 ∨ a.toInt = 1 ∨ a.toInt = 2 := by omega
  have e : a.toInt * p.toInt = 0 ∨ a.toInt * p.toInt = p.toInt ∨ a.toInt * p.toInt = 2 * p.toInt := by
    rcases h with h | h | h <;> rw [h] <;> omega
  have hm : (a * p).toInt = a.toInt * p.toInt := i32_mul (by omega) (by omega)
  have hs : (a * p + b).toInt = a.toInt * p.toInt + b.toInt := by rw [i32_add (by omega) (by omega), hm]
  have : a.toInt * p.toInt ≤ 2 * p.toInt := by omega
  exact ⟨by omega, by omega⟩
theorem wat2 {a p b : Int32} (ha : 0 ≤ a.toInt ∧ a.toInt ≤ 2) (hp : 0 ≤ p.toInt ∧ p.toInt ≤ 3) (hb : 0 ≤ b.toInt ∧ b.toInt < p.toInt) : inB (p * a + b) 9 := by
  rw [Int32.mul_comm]
  exact wat ha hp hb
theorem lgc_lt {x y : Int64} (h : lg_cmp x y < 0) : x.toInt < y.toInt := by
  unfold lg_cmp at h
  split at h
  · exact absurd h (by decide)
  · split at h
    · exact absurd h (by decide)
    · rename_i h1 h2
      have a : ¬ y.toInt < x.toInt := fun z => h1 (Int64.lt_iff_toInt_lt.mpr z)
      have b : ¬ x.toInt = y.toInt := fun z => h2 (Int64.toInt_inj.mp z)
      omega
theorem lgc_ge {x y : Int64} (h : ¬ lg_cmp x y < 0) : y.toInt ≤ x.toInt := by
  unfold lg_cmp at h
  split at h
  · rename_i h1
    have := Int64.lt_iff_toInt_lt.mp h1
    omega
  · split at h
    · rename_i h2
      rw [h2]
      exact Int.le_refl _
    · exact absurd (by decide) h
theorem lgsum (y x : Int32) : (y.toInt64 + x.toInt64).toInt = y.toInt + x.toInt := by
  rw [Int64.toInt_add, Int32.toInt_toInt64, Int32.toInt_toInt64]
  have a := jlo y
  have b := jlo x
  exact Int.bmod_eq_of_le (by omega) (by omega)
theorem lgix {y2 y3 x6 z : Int32} (h2 : 0 ≤ y2.toInt ∧ y2.toInt ≤ 5) (h0 : ¬ lg_cmp (y3.toInt64 + x6.toInt64) 0 < 0) (h1 : lg_cmp (y3.toInt64 + x6.toInt64) z.toInt64 < 0) (hz : bA 121 z) : inB (60 * y2 + (y3.toInt64 + x6.toInt64).toInt32) 360 := by
  have a := lgc_ge h0
  have b := lgc_lt h1
  rw [lgsum] at a b
  rw [Int32.toInt_toInt64] at b
  have c : 0 ≤ z.toInt ∧ z.toInt ≤ 60 := hz
  have a0 : (0 : Int64).toInt = 0 := rfl
  have d : ((y3.toInt64 + x6.toInt64).toInt32).toInt = y3.toInt + x6.toInt := by
    rw [Int64.toInt_toInt32, lgsum]
    exact Int.bmod_eq_of_le (by omega) (by omega)
  have e60 : (60 : Int32).toInt = 60 := rfl
  have m : (60 * y2).toInt = 60 * y2.toInt := by rw [i32_mul (by rw [e60]; omega) (by rw [e60]; omega), e60]
  have sm : (60 * y2 + (y3.toInt64 + x6.toInt64).toInt32).toInt = 60 * y2.toInt + (y3.toInt + x6.toInt) := by rw [i32_add (by rw [m, d]; omega) (by rw [m, d]; omega), m, d]
  exact ⟨by omega, by omega⟩
/-! NEW OBJECTS -/
theorem Lk.iv {b0 s : SS} (K : Lk b0 s) : Iv s := K.1
section NWs
variable {s : SS}
theorem okHn (h1 : 126 ≤ zL s) (c w : Int32) : okH (pHole s c w) (zL s) := by
  refine ⟨h1, by show zL s + 3 < zL s + 4; omega, if_pos rfl, ⟨?_, ?_⟩, ⟨?_, ?_⟩, ?_, ?_⟩
  · show (if zL s + 1 = zL s then 3 else if zL s + 1 = zL s + 1 then 20 else _) = 20
    rw [if_neg (by omega), if_pos rfl]
  · show (if zL s + 1 = zL s + 1 then 61 else _) = 61
    rw [if_pos rfl]
  · show (if zL s + 2 = zL s then 3 else if zL s + 2 = zL s + 1 then 20 else if zL s + 2 = zL s + 2 then 20 else _) = 20
    rw [if_neg (by omega), if_neg (by omega), if_pos rfl]
  · show (if zL s + 2 = zL s + 1 then 61 else if zL s + 2 = zL s + 2 then 61 else _) = 61
    rw [if_neg (by omega), if_pos rfl]
  · show (if zL s + 3 = zL s then 3 else if zL s + 3 = zL s + 1 then 20 else if zL s + 3 = zL s + 2 then 20 else if zL s + 3 = zL s + 3 then 20 else _) = 20
    rw [if_neg (by omega), if_neg (by omega), if_neg (by omega), if_pos rfl]
  · show (if zL s + 3 = zL s + 1 then 61 else if zL s + 3 = zL s + 2 then 61 else if zL s + 3 = zL s + 3 then 61 else _) = 61
    rw [if_neg (by omega), if_neg (by omega), if_pos rfl]
theorem okCn (h1 : 126 ≤ zL s) (c w y : Int32) : okC (pMap s c w y) (zL s) := by
  refine ⟨h1, by show zL s + 1 < zL s + 2; omega, if_pos rfl, ?_, ?_⟩
  · show (if zL s + 1 = zL s then 1 else if zL s + 1 = zL s + 1 then 20 else _) = 20
    rw [if_neg (by omega), if_pos rfl]
  · show (if zL s + 1 = zL s + 1 then 61 else _) = 61
    rw [if_pos rfl]
theorem okTn (h1 : 126 ≤ zL s) (x y c e : Int32) (N : Nat) : okT (pText s x y c e N) (zL s) := by
  refine ⟨h1, by show zL s + 1 < zL s + 2; omega, if_pos rfl, ?_⟩
  show (if zL s + 1 = zL s then 10 else if zL s + 1 = zL s + 1 then 20 else _) = 20
  rw [if_neg (by omega), if_pos rfl]
theorem bH_hole (c w : Int32) (k : Nat) : bH k (holeF c w k) := by
  unfold bH
  split
  · exact ⟨show 0 ≤ (0 : Int32).toInt by decide, show (0 : Int32).toInt ≤ 60 by decide⟩
  · exact ⟨show 0 ≤ (0 : Int32).toInt by decide, show (0 : Int32).toInt ≤ 60 by decide⟩
  · trivial
theorem Jv.hole (I : Jv s) (c w : Int32) (i : Nat) : Jv (pR (pHole s c w) 17 i (some (zL s))) := by
  have h1 := I.1.1
  refine ⟨(Sh.grow (s' := pHole s c w) I.1 rfl (Mo.hole c w)).putH (okHn h1 c w), fun q k hq => ?_, fun q j hq => ?_, fun q k hq => ?_, fun q k hq => ?_, fun j p hj e => ?_⟩
  · show bF q k (if q = zL s then holeF c w k else zS s q k)
    rw [if_neg (by omega)]; exact I.2.1 q k hq
  · show bA q (if q = zL s + 1 then 0 else if q = zL s + 2 then 0 else if q = zL s + 3 then (-2000000000) else zI s q j)
    rw [if_neg (by omega), if_neg (by omega), if_neg (by omega)]; exact I.2.2.1 q j hq
  · replace hq : (if q = zL s then 3 else if q = zL s + 1 then 20 else if q = zL s + 2 then 20 else if q = zL s + 3 then 20 else zT s q) = 3 := hq
    show bH k (if q = zL s then holeF c w k else zS s q k)
    by_cases a : q = zL s
    · rw [if_pos a]; exact bH_hole c w k
    · rw [if_neg a] at hq ⊢
      by_cases b1 : q = zL s + 1
      · rw [if_pos b1] at hq; omega
      rw [if_neg b1] at hq
      by_cases b2 : q = zL s + 2
      · rw [if_pos b2] at hq; omega
      rw [if_neg b2] at hq
      by_cases b3 : q = zL s + 3
      · rw [if_pos b3] at hq; omega
      rw [if_neg b3] at hq
      exact I.2.2.2.1 q k hq
  · replace hq : (if q = zL s then 3 else if q = zL s + 1 then 20 else if q = zL s + 2 then 20 else if q = zL s + 3 then 20 else zT s q) = 8 := hq
    show bV k (if q = zL s then holeF c w k else zS s q k)
    by_cases a : q = zL s
    · rw [if_pos a] at hq; omega
    · rw [if_neg a] at hq ⊢
      by_cases b1 : q = zL s + 1
      · rw [if_pos b1] at hq; omega
      rw [if_neg b1] at hq
      by_cases b2 : q = zL s + 2
      · rw [if_pos b2] at hq; omega
      rw [if_neg b2] at hq
      by_cases b3 : q = zL s + 3
      · rw [if_pos b3] at hq; omega
      rw [if_neg b3] at hq
      exact I.2.2.2.2.1 q k hq
  · have e' : zR s 27 j = some p := by
      rw [zR_pR, if_neg (by omega)] at e
      exact e
    have o := I.1.2.2.2.2.2.1 j p hj e'
    show (if p + 1 = zL s + 1 then 61 else if p + 1 = zL s + 2 then 61 else if p + 1 = zL s + 3 then 61 else zN s (p + 1)) ≤ 161
    have := o.2.1
    rw [if_neg (by omega), if_neg (by omega), if_neg (by omega)]
    exact I.2.2.2.2.2 j p hj e'
theorem Jv.map (I : Jv s) (c w y : Int32) (i : Nat) : Jv (pR (pMap s c w y) 23 i (some (zL s))) := by
  have h1 := I.1.1
  refine ⟨(Sh.grow (s' := pMap s c w y) I.1 rfl (Mo.map c w y)).putC (okCn h1 c w y), fun q k hq => ?_, fun q j hq => ?_, fun q k hq => ?_, fun q k hq => ?_, fun j p hj e => ?_⟩
  · show bF q k (if q = zL s then mapF c w y k else zS s q k)
    rw [if_neg (by omega)]; exact I.2.1 q k hq
  · show bA q (if q = zL s + 1 then 0 else zI s q j)
    rw [if_neg (by omega)]; exact I.2.2.1 q j hq
  · replace hq : (if q = zL s then 1 else if q = zL s + 1 then 20 else zT s q) = 3 := hq
    show bH k (if q = zL s then mapF c w y k else zS s q k)
    by_cases a : q = zL s
    · rw [if_pos a] at hq; omega
    · rw [if_neg a] at hq ⊢
      by_cases b1 : q = zL s + 1
      · rw [if_pos b1] at hq; omega
      rw [if_neg b1] at hq
      exact I.2.2.2.1 q k hq
  · replace hq : (if q = zL s then 1 else if q = zL s + 1 then 20 else zT s q) = 8 := hq
    show bV k (if q = zL s then mapF c w y k else zS s q k)
    by_cases a : q = zL s
    · rw [if_pos a] at hq; omega
    · rw [if_neg a] at hq ⊢
      by_cases b1 : q = zL s + 1
      · rw [if_pos b1] at hq; omega
      rw [if_neg b1] at hq
      exact I.2.2.2.2.1 q k hq
  · have e' : zR s 27 j = some p := by
      rw [zR_pR, if_neg (by omega)] at e
      exact e
    have o := I.1.2.2.2.2.2.1 j p hj e'
    show (if p + 1 = zL s + 1 then 61 else zN s (p + 1)) ≤ 161
    have := o.2.1
    rw [if_neg (by omega)]
    exact I.2.2.2.2.2 j p hj e'
theorem Jv.text (I : Jv s) (x y c e : Int32) {N : Nat} (hN : N ≤ 161) (i : Nat) : Jv (pR (pText s x y c e N) 27 i (some (zL s))) := by
  have h1 := I.1.1
  refine ⟨(Sh.grow (s' := pText s x y c e N) I.1 rfl (Mo.text x y c e N)).putT (okTn h1 x y c e N), fun q k hq => ?_, fun q j hq => ?_, fun q k hq => ?_, fun q k hq => ?_, fun j p hj e' => ?_⟩
  · show bF q k (if q = zL s then textF x y c e k else zS s q k)
    rw [if_neg (by omega)]; exact I.2.1 q k hq
  · show bA q (if q = zL s + 1 then s.2.1 26 j else zI s q j)
    rw [if_neg (by omega)]; exact I.2.2.1 q j hq
  · replace hq : (if q = zL s then 10 else if q = zL s + 1 then 20 else zT s q) = 3 := hq
    show bH k (if q = zL s then textF x y c e k else zS s q k)
    by_cases a : q = zL s
    · rw [if_pos a] at hq; omega
    · rw [if_neg a] at hq ⊢
      by_cases b1 : q = zL s + 1
      · rw [if_pos b1] at hq; omega
      rw [if_neg b1] at hq
      exact I.2.2.2.1 q k hq
  · replace hq : (if q = zL s then 10 else if q = zL s + 1 then 20 else zT s q) = 8 := hq
    show bV k (if q = zL s then textF x y c e k else zS s q k)
    by_cases a : q = zL s
    · rw [if_pos a] at hq; omega
    · rw [if_neg a] at hq ⊢
      by_cases b1 : q = zL s + 1
      · rw [if_pos b1] at hq; omega
      rw [if_neg b1] at hq
      exact I.2.2.2.2.1 q k hq
  · show (if p + 1 = zL s + 1 then N else zN s (p + 1)) ≤ 161
    by_cases b : p + 1 = zL s + 1
    · rw [if_pos b]; exact hN
    · rw [if_neg b]
      have e2 : zR s 27 j = some p := by
        rw [zR_pR] at e'
        by_cases hj2 : j = i
        · rw [if_pos ⟨rfl, hj2⟩] at e'
          cases e'
          exact absurd rfl b
        · rw [if_neg (fun z => hj2 z.2)] at e'
          exact e'
      exact I.2.2.2.2.2 j p hj e2
theorem Iv.hole (I : Iv s) (c w : Int32) (i : Nat) : Iv (pR (pHole s c w) 17 i (some (zL s))) := by
  have h1 := I.1.1.1
  refine ⟨I.1.hole c w i, I.2.eq (fun a b h2 => ?_) ?_⟩
  · show (if a = zL s + 1 then 0 else if a = zL s + 2 then 0 else if a = zL s + 3 then (-2000000000) else zI s a b) = zI s a b
    rw [if_neg (by omega), if_neg (by omega), if_neg (by omega)]
  · show (if 59 = zL s then _ else zS s 59 38) = _
    rw [if_neg (by omega)]
theorem Iv.map (I : Iv s) (c w y : Int32) (i : Nat) : Iv (pR (pMap s c w y) 23 i (some (zL s))) := by
  have h1 := I.1.1.1
  refine ⟨I.1.map c w y i, I.2.eq (fun a b h2 => ?_) ?_⟩
  · show (if a = zL s + 1 then 0 else zI s a b) = zI s a b
    rw [if_neg (by omega)]
  · show (if 59 = zL s then _ else zS s 59 38) = _
    rw [if_neg (by omega)]
theorem Iv.text (I : Iv s) (x y c e : Int32) {N : Nat} (hN : N ≤ 161) (i : Nat) : Iv (pR (pText s x y c e N) 27 i (some (zL s))) := by
  have h1 := I.1.1.1
  refine ⟨I.1.text x y c e hN i, I.2.eq (fun a b h2 => ?_) ?_⟩
  · show (if a = zL s + 1 then s.2.1 26 b else zI s a b) = zI s a b
    rw [if_neg (by omega)]
  · show (if 59 = zL s then _ else zS s 59 38) = _
    rw [if_neg (by omega)]
theorem Iv.holeF (I : Iv s) {c w v : Int32} {i : Nat} : Iv (pS (pR (pHole s c w) 17 i (some (zL s))) 15 4 v) := (I.hole c w i).wF (by decide) (by decide) trivial
theorem Iv.mapF (I : Iv s) {c w y : Int32} {i : Nat} (h : 0 ≤ (zS s 0 5).toInt ∧ (zS s 0 5).toInt < 8) : Iv (pS (pR (pMap s c w y) 23 i (some (zL s))) 0 5 (zS (pR (pMap s c w y) 23 i (some (zL s))) 0 5 + 1)) := by
  have h1 := I.1.1.1
  refine (I.map c w y i).wF (by decide) (by decide) ?_
  have e : zS (pR (pMap s c w y) 23 i (some (zL s))) 0 5 = zS s 0 5 := by
    show (if 0 = zL s then _ else zS s 0 5) = _
    rw [if_neg (by omega)]
  rw [e]
  show 0 ≤ (zS s 0 5 + 1).toInt ∧ (zS s 0 5 + 1).toInt ≤ 8
  have j1 : (1 : Int32).toInt = 1 := rfl
  rw [i32_add (by rw [j1]; omega) (by rw [j1]; omega), j1]
  omega
theorem Iv.textF (I : Iv s) {x y c e : Int32} {N i : Nat} (hN : N ≤ 161) (h : 0 ≤ (zS s 0 8).toInt ∧ (zS s 0 8).toInt < 16) : Iv (pS (pR (pText s x y c e N) 27 i (some (zL s))) 0 8 (zS (pR (pText s x y c e N) 27 i (some (zL s))) 0 8 + 1)) := by
  have h1 := I.1.1.1
  refine (I.text x y c e hN i).wF (by decide) (by decide) ?_
  have e : zS (pR (pText s x y c e N) 27 i (some (zL s))) 0 8 = zS s 0 8 := by
    show (if 0 = zL s then _ else zS s 0 8) = _
    rw [if_neg (by omega)]
  rw [e]
  show 0 ≤ (zS s 0 8 + 1).toInt ∧ (zS s 0 8 + 1).toInt ≤ 16
  have j1 : (1 : Int32).toInt = 1 := rfl
  rw [i32_add (by rw [j1]; omega) (by rw [j1]; omega), j1]
  omega
end NWs
def Nv (b0 s : SS) : Prop := Iv s ∧ Fr b0 s ∧ ∀ i, zR s 17 i = zR b0 17 i
theorem Lk.nv {b0 s : SS} (K : Lk b0 s) : Nv b0 s := ⟨K.1, K.2.2, fun i => K.zR_ 17 i⟩
/-- a text stored: the counter apart -/
def Nt (b0 s : SS) : Prop := Iv s ∧ ((∀ q k, fS q k = true → ¬ (q = 0 ∧ k = 8) → zS s q k = zS b0 q k) ∧ (∀ q i, fI q = true → zI s q i = zI b0 q i) ∧ ∀ q i, fJ q = true → zJ s q i = zJ b0 q i) ∧ ∀ i, zR s 17 i = zR b0 17 i
theorem Nt.text_ {b0 s : SS} (K : Lk b0 s) {x y c e : Int32} {N i : Nat} (hN : N ≤ 161) (h : 0 ≤ (zS s 0 8).toInt ∧ (zS s 0 8).toInt < 16) : Nt b0 (pS (pR (pText s x y c e N) 27 i (some (zL s))) 0 8 (zS (pR (pText s x y c e N) 27 i (some (zL s))) 0 8 + 1)) := by
  have h1 := K.1.1.1.1
  refine ⟨K.1.textF hN h, ⟨fun q k f f0 => ?_, fun q j f => ?_, K.2.2.2.2⟩, fun j => ?_⟩
  · have := fS_lt f
    rw [zS_pS, if_neg f0]
    show (if q = zL s then textF x y c e k else zS s q k) = _
    rw [if_neg (by omega)]
    exact K.2.2.1 q k f
  · have := fI_lt f
    show (if q = zL s + 1 then s.2.1 26 j else zI s q j) = _
    rw [if_neg (by omega)]
    exact K.2.2.2.1 q j f
  · show (if 17 = 27 ∧ j = i then some (zL s) else zR s 17 j) = _
    rw [if_neg (fun z => absurd z.1 (by decide))]
    exact K.zR_ 17 j
/-! BITS of sets -/
theorem nx_or (a b : Nat) : nI a ||| nI b = nI (a ||| b) := by
  apply Int32.toBitVec_inj.1
  show BitVec.ofNat 32 a ||| BitVec.ofNat 32 b = BitVec.ofNat 32 (a ||| b)
  apply BitVec.eq_of_getLsbD_eq
  intro i hi
  simp [hi]
theorem nx_an (a b : Nat) : nI a &&& nI b = nI (a &&& b) := by
  apply Int32.toBitVec_inj.1
  show BitVec.ofNat 32 a &&& BitVec.ofNat 32 b = BitVec.ofNat 32 (a &&& b)
  apply BitVec.eq_of_getLsbD_eq
  intro i hi
  simp [hi]
theorem sh1n : ∀ l, l < 11 → (1 : Int32) <<< (nI l &&& 31) = nI (2 ^ l) := by decide
theorem nI_t {k : Nat} (h : k < 2147483648) : (nI k).toInt = (k : Int) := Int32.toInt_ofNat_of_lt h
theorem toN_ {x : Int32} (h : 0 ≤ x.toInt) : x = nI x.toInt.toNat := by
  have e := Int32.ofNat_toNatClampNeg x (Int32.le_iff_toInt_le.mpr h)
  exact e.symm
theorem anyN (x : Int32) : ∃ m, x = nI m := by
  refine ⟨x.toBitVec.toNat, Int32.toBitVec_inj.1 ?_⟩
  show x.toBitVec = BitVec.ofNat 32 x.toBitVec.toNat
  simp
theorem orR {a i : Int32} (ha : 0 ≤ a.toInt ∧ a.toInt ≤ 1023) (hi : 0 ≤ i.toInt ∧ i.toInt ≤ 9) : 0 ≤ (a ||| ((1 : Int32) <<< (i &&& 31))).toInt ∧ (a ||| ((1 : Int32) <<< (i &&& 31))).toInt ≤ 1023 := by
  rw [toN_ ha.1, toN_ hi.1]
  have h1 : a.toInt.toNat < 1024 := by omega
  have h2 : i.toInt.toNat < 10 := by omega
  rw [sh1n _ (by omega), nx_or]
  have h3 : 2 ^ i.toInt.toNat < 2 ^ 10 := Nat.pow_lt_pow_right (by decide) h2
  have h4 : a.toInt.toNat ||| 2 ^ i.toInt.toNat < 2 ^ 10 := Nat.or_lt_two_pow h1 h3
  rw [nI_t (by omega)]
  omega
theorem orb {a i : Int32} (ha : 0 ≤ a.toInt ∧ a.toInt ≤ 1023) (hi : 0 ≤ i.toInt ∧ i.toInt ≤ 9) : inB (a ||| ((1 : Int32) <<< (i &&& 31))) 1024 := by
  have := orR ha hi
  exact ⟨this.1, by omega⟩
theorem anR {a z : Int32} (ha : 0 ≤ a.toInt ∧ a.toInt ≤ 1023) : 0 ≤ (a &&& z).toInt ∧ (a &&& z).toInt ≤ 1023 := by
  obtain ⟨m, rfl⟩ := anyN z
  rw [toN_ ha.1, nx_an]
  have h1 : a.toInt.toNat < 1024 := by omega
  have h2 : a.toInt.toNat &&& m ≤ a.toInt.toNat := Nat.and_le_left
  rw [nI_t (by omega)]
  omega
theorem anb {a z : Int32} (ha : 0 ≤ a.toInt ∧ a.toInt ≤ 1023) : inB (a &&& z) 1024 := by
  have := anR (z := z) ha
  exact ⟨this.1, by omega⟩
theorem shb {i : Int32} (hi : 0 ≤ i.toInt ∧ i.toInt ≤ 10) : 1 ≤ ((1 : Int32) <<< (i &&& 31)).toInt ∧ ((1 : Int32) <<< (i &&& 31)).toInt ≤ 1024 := by
  rw [toN_ hi.1]
  have h2 : i.toInt.toNat < 11 := by omega
  rw [sh1n _ h2]
  have h3 : 2 ^ i.toInt.toNat ≤ 2 ^ 10 := Nat.pow_le_pow_right (by decide) (by omega)
  have h4 : 0 < 2 ^ i.toInt.toNat := Nat.pow_pos (by decide)
  rw [nI_t (by omega)]
  omega
theorem shb9 {i : Int32} (hi : 0 ≤ i.toInt ∧ i.toInt ≤ 9) : 1 ≤ ((1 : Int32) <<< (i &&& 31)).toInt ∧ ((1 : Int32) <<< (i &&& 31)).toInt ≤ 512 := by
  rw [toN_ hi.1]
  have h2 : i.toInt.toNat < 11 := by omega
  rw [sh1n _ h2]
  have h3 : 2 ^ i.toInt.toNat ≤ 2 ^ 9 := Nat.pow_le_pow_right (by decide) (by omega)
  have h4 : 0 < 2 ^ i.toInt.toNat := Nat.pow_pos (by decide)
  rw [nI_t (by omega)]
  omega
/-! THE REFERENCE'S TEXTS ARE NOT TOUCHED BY WHAT IS WRITTEN BEHIND THEM -/
theorem Cd.congr {A B A' B' : Nat → Int32} : ∀ (m k n : Nat), (∀ j, k ≤ j → j < k + m → A' j = A j ∧ B' j = B j) → Cd A B m k n → Cd A' B' m k n
  | 0, _, _, _, _ => trivial
  | m + 1, k, n, h, c => by
    have e := h k (Nat.le_refl _) (by omega)
    have h' : ∀ j, k + 1 ≤ j → j < k + 1 + m → A' j = A j ∧ B' j = B j := fun j h1 h2 => h j (by omega) (by omega)
    unfold Cd at c ⊢
    rw [e.1, e.2]
    split
    · rename_i z; rw [if_pos z] at c; exact Cd.congr m (k + 1) _ h' c
    · rename_i z; rw [if_neg z] at c
      split
      · rename_i z2; rw [if_pos z2] at c; exact ⟨c.1, Cd.congr m (k + 1) _ h' c.2⟩
      · rename_i z2; rw [if_neg z2] at c
        split
        · rename_i z3; rw [if_pos z3] at c; exact ⟨c.1, Cd.congr m (k + 1) _ h' c.2⟩
        · rename_i z3; rw [if_neg z3] at c; exact ⟨c.1, Cd.congr m (k + 1) _ h' c.2⟩
theorem TWf.congr {M T E A B M' T' E' A' B' : Nat → Int32} {n : Int32} (h : TWf M T E A B n) (hM : ∀ t : Nat, (t : Int) < n.toInt → M' t = M t) (hT : ∀ j : Nat, (j : Int) < 90 * n.toInt → T' j = T j ∧ E' j = E j) (hA : ∀ j : Nat, (j : Int) < 170 * n.toInt → A' j = A j ∧ B' j = B j) : TWf M' T' E' A' B' n := by
  intro t ht
  obtain ⟨h1, h2⟩ := h t ht
  rw [hM t ht]
  refine ⟨h1, fun i hi => ?_⟩
  obtain ⟨a, b, c⟩ := h2 i hi
  have e1 := hT (90 * t + i) (by omega)
  have ef : fromL E' t i = fromL E t i := by
    unfold fromL
    by_cases hz : i = 0
    · rw [if_pos hz, if_pos hz]
    · rw [if_neg hz, if_neg hz, (hT (90 * t + i - 1) (by omega)).2]
  rw [e1.1, e1.2, ef]
  exact ⟨a, Cd.congr _ _ _ (fun j h3 h4 => hA j (by omega)) b, Cd.congr _ _ _ (fun j h3 h4 => hA j (by omega)) c⟩
section TWw
variable {b0 s : SS} {i : Nat} {v : Int32}
theorem Lk.w93 (K : Lk b0 s) (h : 170 * (zS s 59 38).toInt ≤ (i : Int)) : Lk b0 (pI s 93 i v) := by
  refine ⟨⟨K.1.1.wI (by decide) trivial, ?_⟩, K.2.1, K.2.2.pI (by decide)⟩
  refine ⟨TWf.congr K.1.2.1 (fun _ _ => rfl) (fun _ _ => ⟨rfl, rfl⟩) (fun j hj => ⟨?_, rfl⟩), K.1.2.2⟩
  have hj' : (j : Int) < 170 * (zS s 59 38).toInt := hj
  rw [zI_pI, if_neg (fun z => by omega)]
theorem Lk.w94 (K : Lk b0 s) (h : 170 * (zS s 59 38).toInt ≤ (i : Int)) : Lk b0 (pI s 94 i v) := by
  refine ⟨⟨K.1.1.wI (by decide) trivial, ?_⟩, K.2.1, K.2.2.pI (by decide)⟩
  refine ⟨TWf.congr K.1.2.1 (fun _ _ => rfl) (fun _ _ => ⟨rfl, rfl⟩) (fun j hj => ⟨rfl, ?_⟩), K.1.2.2⟩
  have hj' : (j : Int) < 170 * (zS s 59 38).toInt := hj
  rw [zI_pI, if_neg (fun z => by omega)]
theorem Lk.w91 (K : Lk b0 s) (h : 90 * (zS s 59 38).toInt ≤ (i : Int)) : Lk b0 (pI s 91 i v) := by
  refine ⟨⟨K.1.1.wI (by decide) trivial, ?_⟩, K.2.1, K.2.2.pI (by decide)⟩
  refine ⟨TWf.congr K.1.2.1 (fun _ _ => rfl) (fun j hj => ⟨?_, rfl⟩) (fun _ _ => ⟨rfl, rfl⟩), K.1.2.2⟩
  have hj' : (j : Int) < 90 * (zS s 59 38).toInt := hj
  rw [zI_pI, if_neg (fun z => by omega)]
theorem Lk.w92 (K : Lk b0 s) (h : 90 * (zS s 59 38).toInt ≤ (i : Int)) : Lk b0 (pI s 92 i v) := by
  refine ⟨⟨K.1.1.wI (by decide) trivial, ?_⟩, K.2.1, K.2.2.pI (by decide)⟩
  refine ⟨TWf.congr K.1.2.1 (fun _ _ => rfl) (fun j hj => ⟨rfl, ?_⟩) (fun _ _ => ⟨rfl, rfl⟩), K.1.2.2⟩
  have hj' : (j : Int) < 90 * (zS s 59 38).toInt := hj
  rw [zI_pI, if_neg (fun z => by omega)]
theorem Lk.w90 (K : Lk b0 s) (h : (zS s 59 38).toInt ≤ (i : Int)) : Lk b0 (pI s 90 i v) := by
  refine ⟨⟨K.1.1.wI (by decide) trivial, ?_⟩, K.2.1, K.2.2.pI (by decide)⟩
  refine ⟨TWf.congr K.1.2.1 (fun t ht => ?_) (fun _ _ => ⟨rfl, rfl⟩) (fun _ _ => ⟨rfl, rfl⟩), K.1.2.2⟩
  have ht' : (t : Int) < (zS s 59 38).toInt := ht
  rw [zI_pI, if_neg (fun z => by omega)]
theorem Lk.w109 (K : Lk b0 s) (h : 0 < i) : Lk b0 (pI s 109 i v) := by
  refine ⟨⟨K.1.1.wI (by decide) trivial, K.1.2.1, ?_⟩, K.2.1, K.2.2.pI (by decide)⟩
  rw [zI_pI, if_neg (fun z => by omega)]
  exact K.1.2.2
end TWw
/-- the reference's reader at work -/
def Ps (s : SS) : Prop := (0 ≤ (zS s 59 47).toInt ∧ (zS s 59 47).toInt ≤ (zS s 59 37).toInt) ∧ (0 ≤ (zS s 59 51).toInt ∧ (zS s 59 51).toInt ≤ (zS s 59 47).toInt) ∧ (zS s 59 50).toInt = (zS s 59 38).toInt ∧ (0 ≤ (zS s 59 38).toInt ∧ (zS s 59 38).toInt ≤ 15) ∧ (0 ≤ (zS s 59 49).toInt ∧ (zS s 59 49).toInt ≤ 8) ∧ (zS s 59 37).toInt ≤ 160
def Px (s r : SS) : Prop := Ps r ∧ (zS s 59 47).toInt - (zS s 59 51).toInt ≤ (zS r 59 47).toInt - (zS r 59 51).toInt ∧ (zS s 59 51).toInt ≤ (zS r 59 51).toInt ∧ (zS s 59 49).toInt ≤ (zS r 59 49).toInt ∧ (zS s 59 47).toInt ≤ (zS r 59 47).toInt ∧ (zS r 59 37).toInt = (zS s 59 37).toInt ∧ (zS r 59 38).toInt = (zS s 59 38).toInt
def Pr (s : SS) : Prop := (zS s 59 50).toInt = (zS s 59 38).toInt ∧ (0 ≤ (zS s 59 38).toInt ∧ (zS s 59 38).toInt ≤ 15) ∧ (0 ≤ (zS s 59 51).toInt ∧ (zS s 59 51).toInt ≤ 165)
def Pl (s r : SS) : Prop := (zS r 59 47).toInt = (zS s 59 47).toInt ∧ (zS r 59 51).toInt = (zS s 59 51).toInt + 1 ∧ (zS r 59 49).toInt = (zS s 59 49).toInt ∧ (zS r 59 37).toInt = (zS s 59 37).toInt ∧ (zS r 59 38).toInt = (zS s 59 38).toInt ∧ (zS r 59 50).toInt = (zS s 59 50).toInt ∧ (zS r 59 48).toInt = (zS s 59 48).toInt

