/-! sums over the first n places -/
def ySum (f : Nat → Int) : Nat → Int
  | 0 => 0
  | n + 1 => ySum f n + f n
theorem ySum_c {f g : Nat → Int} : ∀ {n : Nat}, (∀ i, i < n → g i = f i) → ySum g n = ySum f n
  | 0, _ => rfl
  | n + 1, h => by
    show ySum g n + g n = ySum f n + f n
    rw [ySum_c (fun i hi => h i (by omega)), h n (by omega)]
theorem ySum_up {f g : Nat → Int} {j : Nat} (h : ∀ i, i ≠ j → g i = f i) : ∀ (n : Nat), ySum g n = ySum f n + if j < n then g j - f j else 0
  | 0 => by rw [if_neg (by omega)]; rfl
  | n + 1 => by
    show ySum g n + g n = ySum f n + f n + _
    rw [ySum_up h n]
    by_cases c : j = n
    · rw [if_neg (by omega), if_pos (by omega), c]
      omega
    · rw [h n (fun z => c z.symm)]
      by_cases d : j < n
      · rw [if_pos d, if_pos (by omega)]; omega
      · rw [if_neg d, if_neg (by omega)]; omega
theorem ySum_z {f : Nat → Int} {m : Nat} : ∀ {n : Nat}, m ≤ n → (∀ i, m ≤ i → i < n → f i = 0) → ySum f n = ySum f m
  | 0, h, _ => by rw [show m = 0 by omega]
  | n + 1, h, z => by
    by_cases c : m = n + 1
    · rw [c]
    · show ySum f n + f n = _
      rw [ySum_z (by omega) (fun i h1 h2 => z i h1 (by omega)), z n (by omega) (by omega)]
      omega
theorem ySum_b {f : Nat → Int} {c : Int} (h : ∀ i, 0 ≤ f i ∧ f i ≤ c) : ∀ n : Nat, 0 ≤ ySum f n ∧ ySum f n ≤ c * n
  | 0 => ⟨by show (0 : Int) ≤ 0; omega, by show (0 : Int) ≤ c * 0; omega⟩
  | n + 1 => by
    obtain ⟨a, b⟩ := ySum_b h n
    obtain ⟨d, e⟩ := h n
    show 0 ≤ ySum f n + f n ∧ ySum f n + f n ≤ c * ((n + 1 : Nat) : Int)
    have : c * ((n + 1 : Nat) : Int) = c * n + c := by rw [Int.natCast_add, Int.mul_add]; omega
    omega
theorem ySum_n {f : Nat → Int} (h : ∀ i, 0 ≤ f i) (n : Nat) : 0 ≤ ySum f n := by
  induction n with
  | zero => exact Int.le_refl 0
  | succ n ih => have := h n; show 0 ≤ ySum f n + f n; omega
theorem ySum_0 {f : Nat → Int} (h : ∀ i, 0 ≤ f i) (n : Nat) (e : ySum f n = 0) : ∀ i, i < n → f i = 0 := by
  induction n with
  | zero => intro i hi; omega
  | succ n ih =>
    intro i hi
    have e' : ySum f n + f n = 0 := e
    have a := ySum_n h n
    have b := h n
    by_cases c : i = n
    · rw [c]; omega
    · exact ih (by omega) i (by omega)
/-! THE THIRD RELATION: class cells of s, reference's cells of t -/
def lgV (b v : Int32) : Int32 := if b = 0 then -2000000000 else v
/-- hole i, the object at p -/
def HX (s : SS) (p : Nat) (t : SS) (i : Nat) : Prop := zS s p 0 = zI t 63 i ∧ zS s p 1 = zI t 64 i ∧ zS s p 2 = zI t 65 i ∧ zS s p 3 = zI t 66 i ∧ zS s p 4 = zI t 67 i ∧ zS s p 5 = zI t 68 i ∧ zS s p 6 = (if 0 < (zI t 69 i).toInt then 1 else 0) ∧ zS s p 7 = zI t 104 i ∧ ∀ y, 1 ≤ y → y ≤ 60 → zI s (p + 1) y = zI t 70 (61 * i + y) ∧ zI s (p + 2) y = zI t 71 (61 * i + y) ∧ zI s (p + 3) y = lgV (zI t 72 (61 * i + y)) (zI t 73 (61 * i + y)) ∧ zI t 73 (61 * i + y) ≠ -2000000000
/-- no hole: nothing in the reference's rows -/
def HZ (t : SS) (i : Nat) : Prop := zI t 66 i = 0 ∧ zI t 67 i = 0 ∧ zI t 68 i = 0 ∧ zI t 69 i = 0 ∧ zI t 104 i = 0 ∧ ∀ y, 1 ≤ y → y ≤ 60 → zI t 70 (61 * i + y) = 0 ∧ zI t 71 (61 * i + y) = 0 ∧ zI t 72 (61 * i + y) = 0 ∧ zI t 73 (61 * i + y) ≠ -2000000000
def QHol (s t : SS) : Prop := (∀ i p, i < 120 → zR s 17 i = some p → HX s p t i) ∧ (∀ i, i < 120 → zR s 17 i = none → HZ t i) ∧ (∀ i j p, i < 120 → j < 120 → zR s 17 i = some p → zR s 17 j = some p → i = j) ∧ ∀ i, i < 120 → 0 ≤ (zI t 69 i).toInt ∧ (zI t 69 i).toInt ≤ 1700
def QMen (s t : SS) : Prop := (∀ i : Nat, i < 120 → zI s 7 i = zI t 74 i ∧ zI s 8 i = zI t 75 i ∧ zI s 10 i = zI t 77 i ∧ (zI s 10 i = 0 ∨ zI s 10 i = 1) ∧ (zI s 10 i = 1 → (i : Int) < (zS s 15 3).toInt ∧ zI s 16 i = 7)) ∧ (zS s 6 4).toInt = ySum (fun i => (zI s 10 i).toInt) 120
def QCnt (s t : SS) : Prop := (zS s 0 16).toInt = ySum (fun i => (zI t 67 i).toInt) 120 ∧ (zS s 0 17).toInt = ySum (fun i => if 0 < (zI t 69 i).toInt then 1 else 0) 120 ∧ (zS s 15 4).toInt = ySum (fun i => if zR s 17 i = none then 0 else 1) 120
def QFst (s t : SS) : Prop := ((zS s 0 18).toInt = 1700 ∧ ∀ i, i < 120 → ¬ 0 < (zI t 69 i).toInt) ∨ ((zS s 0 18).toInt ≤ (zS s 0 14).toInt ∧ (∀ i, i < 120 → 0 < (zI t 69 i).toInt → (zS s 0 18).toInt ≤ (zI t 69 i).toInt - 1) ∧ ∃ i, i < 120 ∧ 0 < (zI t 69 i).toInt ∧ (zS s 0 18).toInt = (zI t 69 i).toInt - 1)
def QStoH (h : Int) (s t : SS) : Prop := zS s 30 0 = zS t 59 54 ∧ zS s 30 1 = zS t 59 55 ∧ zS s 30 5 = zS t 59 62 ∧ (∀ i, zI s 31 i = zI t 105 i) ∧ ∀ i : Nat, i < 40 → (i : Int) < (zS s 30 5).toInt → zI s 32 i = zI t 102 i ∧ zI s 33 i = zI t 103 i ∧ h < (zI s 33 i).toInt
def QRef (s t : SS) : Prop := zS s 15 6 = zS t 59 22 ∧ zS s 15 7 = zS t 59 23 ∧ zS s 15 8 = zS t 59 24 ∧ zS s 15 9 = zS t 59 25 ∧ (0 ≤ (zS s 15 5).toInt → 1 ≤ (zS s 15 8).toInt)
def QBrk (s t : SS) : Prop := ∀ i, i < 3 → zS s (20 + i) 2 = zI t 80 i
def QLif (s t : SS) : Prop := (zS s 6 10 = 0 ∧ zS t 59 82 = -1) ∨ (1 ≤ (zS s 6 10).toInt ∧ zS s 6 10 = zS t 59 82 ∧ zS s 6 11 = zS t 59 83 ∧ (0 ≤ (zS s 6 11).toInt ∧ (zS s 6 11).toInt ≤ 1699) ∧ (1 ≤ (zS s 6 12).toInt ∧ (zS s 6 12).toInt ≤ 4) ∧ ∀ i : Nat, i < 120 → (i : Int) < (zS s 6 10).toInt → zI s 13 i = zI t 116 i ∧ (zI t 118 i).toInt = (zS s 6 11).toInt + ((i : Int) + 1) * (zS s 6 12).toInt)
/-- which machine is where: at holes, no two at one -/
def QSet (s t : SS) : Prop := (∀ i, i < 3 → (zI t 79 i).toInt = -1 ∨ (0 ≤ (zI t 79 i).toInt ∧ (zI t 79 i).toInt < (zS s 15 3).toInt ∧ zR s 17 (zI t 79 i).toInt.toNat ≠ none)) ∧ ∀ i j, i < 3 → j < 3 → i ≠ j → 0 ≤ (zI t 79 i).toInt → zI t 79 i ≠ zI t 79 j
/-- a map: its bits say what its list says -/
def MXb (s : SS) (p : Nat) (t : SS) (i : Nat) : Prop := ∀ x y : Nat, x < 32 → 1 ≤ y → y ≤ 60 → ((zI s (p + 1) y).toBitVec.getLsbD x = true ↔ ∃ k : Nat, (k : Int) < (zI t 84 i).toInt ∧ (zI t 85 (40 * i + k)).toInt = 100 * (x : Int) + y)
def MX (s : SS) (p : Nat) (t : SS) (i : Nat) : Prop := zS s p 0 = zI t 81 i ∧ zS s p 1 = zI t 82 i ∧ zS s p 2 = zI t 83 i ∧ zS s p 4 = zI t 84 i ∧ (0 ≤ (zS s p 0).toInt ∧ (zS s p 0).toInt ≤ (zS s p 1).toInt ∧ (zS s p 1).toInt ≤ 31) ∧ (1 ≤ (zS s p 2).toInt ∧ (zS s p 2).toInt ≤ 60) ∧ MXb s p t i
def QCha (s t : SS) : Prop := (∀ i : Nat, i < 8 → (i : Int) < (zS s 0 5).toInt → ∃ p, zR s 23 i = some p ∧ MX s p t i) ∧ (∀ i : Nat, i < 8 → ¬ (i : Int) < (zS s 0 5).toInt → zI t 84 i = 0) ∧ ∀ i j p, i < 8 → j < 8 → zR s 23 i = some p → zR s 23 j = some p → i = j
/-- a text: the class's codes, the reference's rows -/
def TXr (s : SS) (p : Nat) (t : SS) (i : Nat) : Prop := ∃ ls : List (Option (List Int32) × List Int32), zN s (p + 1) = (clL ls).length ∧ (clL ls).length ≤ 161 ∧ (mlL ls).length ≤ 160 ∧ (∀ (j : Nat) c, (clL ls)[j]? = some c → zI s (p + 1) j = c) ∧ (∀ (j : Nat) c, (mlL ls)[j]? = some c → zI t 93 (170 * i + j) = tkA c ∧ zI t 94 (170 * i + j) = tkW c) ∧ (zI t 90 i).toInt = ls.length ∧ ls.length ≤ 90 ∧ (∀ pr, pr ∈ ls → (∀ l, pr.1 = some l → Wo 46 l ∧ 1 ≤ l.length) ∧ Wo 46 pr.2 ∧ 1 ≤ pr.2.length) ∧ ∀ (k : Nat) pr, ls[k]? = some pr → (zI t 91 (90 * i + k)).toInt = (mlL (ls.take k)).length + (tst pr.1).length ∧ (zI t 92 (90 * i + k)).toInt = (mlL (ls.take (k + 1))).length
def TX (s : SS) (p : Nat) (t : SS) (i : Nat) : Prop := (0 ≤ (zI t 87 i).toInt ∧ (zI t 87 i).toInt ≤ 12 ∧ (zI t 87 i).toInt % 10 ≤ 2) ∧ (zS s p 0).toInt = (zI t 87 i).toInt / 10 ∧ (zS s p 1).toInt = (zI t 87 i).toInt % 10 ∧ zS s p 2 = zI t 88 i ∧ zS s p 3 = zI t 89 i ∧ TXr s p t i
def QTxt (s t : SS) : Prop := ∀ i : Nat, i < 16 → (i : Int) < (zS s 0 8).toInt → ∃ p, zR s 27 i = some p ∧ TX s p t i
/-- rows of floats and doubles hold small numbers -/
def QRow (t : SS) : Prop := (∀ j, zI t 123 j = 0 ∨ zI t 123 j = 1) ∧ ∀ i, i < 6 → (zI t 120 i = -5 ∨ zI t 120 i = -6) → ∀ j, j < 60 → zI t 123 (60 * i + j) = 0 → -9999 ≤ (zJ t 122 (60 * i + j)).toInt ∧ (zJ t 122 (60 * i + j)).toInt ≤ 9999
def QKep (h : Int) (t : SS) : Prop := ∀ i, i < 120 → 0 ≤ (zI t 68 i).toInt ∧ (zI t 68 i).toInt ≤ 60 * h
def Q4h (h : Int) (s t : SS) : Prop := QHol s t ∧ QMen s t ∧ QCnt s t ∧ QFst s t ∧ QStoH h s t ∧ QRef s t ∧ QBrk s t ∧ QLif s t ∧ QSet s t ∧ QCha s t ∧ QTxt s t ∧ QRow t ∧ QKep h t
def Q4 (s t : SS) : Prop := Q4h (zS s 0 14).toInt s t
/-! what the third relation reads -/
def vS (q k : Nat) : Bool := match q with
  | 0 => Nat.beq k 5 || Nat.beq k 8 || Nat.beq k 14 || Nat.beq k 16 || Nat.beq k 17 || Nat.beq k 18
  | 6 => Nat.beq k 4 || Nat.beq k 10 || Nat.beq k 11 || Nat.beq k 12
  | 15 => Nat.ble k 9
  | 20 => Nat.beq k 2
  | 21 => Nat.beq k 2
  | 22 => Nat.beq k 2
  | 30 => true
  | 59 => Nat.beq k 22 || Nat.beq k 23 || Nat.beq k 24 || Nat.beq k 25 || Nat.beq k 54 || Nat.beq k 55 || Nat.beq k 62 || Nat.beq k 82 || Nat.beq k 83
  | _ => Nat.ble 126 q
def vI (q : Nat) : Bool := match q with
  | 7 => true
  | 8 => true
  | 10 => true
  | 13 => true
  | 16 => true
  | 31 => true
  | 32 => true
  | 33 => true
  | 63 => true
  | 64 => true
  | 65 => true
  | 66 => true
  | 67 => true
  | 68 => true
  | 69 => true
  | 70 => true
  | 71 => true
  | 72 => true
  | 73 => true
  | 74 => true
  | 75 => true
  | 77 => true
  | 79 => true
  | 80 => true
  | 81 => true
  | 82 => true
  | 83 => true
  | 84 => true
  | 85 => true
  | 87 => true
  | 88 => true
  | 89 => true
  | 90 => true
  | 91 => true
  | 92 => true
  | 93 => true
  | 94 => true
  | 102 => true
  | 103 => true
  | 104 => true
  | 105 => true
  | 116 => true
  | 118 => true
  | 120 => true
  | 123 => true
  | _ => Nat.ble 126 q
theorem vS_d {q k : Nat} (h : 126 ≤ q) : vS q k = true := by
  unfold vS
  split <;> first | omega | exact Nat.ble_eq.mpr h
theorem vI_d {q : Nat} (h : 126 ≤ q) : vI q = true := by
  unfold vI
  split <;> first | rfl | exact Nat.ble_eq.mpr h
section QCs
variable {s t s' t' : SS}
theorem HX.c {p i : Nat} (R : HX s p t i) (h1 : ∀ k, zS s' p k = zS s p k) (h2 : ∀ y, zI s' (p + 1) y = zI s (p + 1) y) (h3 : ∀ y, zI s' (p + 2) y = zI s (p + 2) y) (h4 : ∀ y, zI s' (p + 3) y = zI s (p + 3) y) (m : ∀ q j, 63 ≤ q → q ≤ 73 ∨ q = 104 → zI t' q j = zI t q j) : HX s' p t' i := by
  unfold HX
  simp only [h1, h2, h3, h4, m 63 _ (by omega) (by omega), m 64 _ (by omega) (by omega), m 65 _ (by omega) (by omega), m 66 _ (by omega) (by omega), m 67 _ (by omega) (by omega), m 68 _ (by omega) (by omega), m 69 _ (by omega) (by omega), m 70 _ (by omega) (by omega), m 71 _ (by omega) (by omega), m 72 _ (by omega) (by omega), m 73 _ (by omega) (by omega), m 104 _ (by omega) (by omega)]
  exact R
theorem HZ.c {i : Nat} (R : HZ t i) (m : ∀ q j, 63 ≤ q → q ≤ 73 ∨ q = 104 → zI t' q j = zI t q j) : HZ t' i := by
  unfold HZ
  simp only [m 66 _ (by omega) (by omega), m 67 _ (by omega) (by omega), m 68 _ (by omega) (by omega), m 69 _ (by omega) (by omega), m 70 _ (by omega) (by omega), m 71 _ (by omega) (by omega), m 72 _ (by omega) (by omega), m 73 _ (by omega) (by omega), m 104 _ (by omega) (by omega)]
  exact R
theorem QHol.c (R : QHol s t) (S : Sh s) (h1 : ∀ q k, 126 ≤ q → zS s' q k = zS s q k) (h2 : ∀ q j, 126 ≤ q → zI s' q j = zI s q j) (h3 : ∀ i, zR s' 17 i = zR s 17 i) (m : ∀ q j, 63 ≤ q → q ≤ 73 ∨ q = 104 → zI t' q j = zI t q j) : QHol s' t' := by
  obtain ⟨a, b, c, d⟩ := R
  refine ⟨fun i p hi e => ?_, fun i hi e => ?_, fun i j p hi hj e f => c i j p hi hj ((h3 i).symm.trans e) ((h3 j).symm.trans f), fun i hi => ?_⟩
  · have e' := (h3 i).symm.trans e
    have o := (S.2.2.1 i p hi e').1
    exact (a i p hi e').c (fun k => h1 p k o) (fun y => h2 _ y (by omega)) (fun y => h2 _ y (by omega)) (fun y => h2 _ y (by omega)) m
  · exact (b i hi ((h3 i).symm.trans e)).c m
  · rw [m 69 _ (by omega) (by omega)]
    exact d i hi
theorem QMen.c (R : QMen s t) (h7 : ∀ i, zI s' 7 i = zI s 7 i) (h8 : ∀ i, zI s' 8 i = zI s 8 i) (h10 : ∀ i, zI s' 10 i = zI s 10 i) (h16 : ∀ i, zI s' 16 i = zI s 16 i) (h3 : zS s' 15 3 = zS s 15 3) (h4 : zS s' 6 4 = zS s 6 4) (m74 : ∀ i, zI t' 74 i = zI t 74 i) (m75 : ∀ i, zI t' 75 i = zI t 75 i) (m77 : ∀ i, zI t' 77 i = zI t 77 i) : QMen s' t' := by
  unfold QMen
  simp only [h7, h8, h10, h16, h3, h4, m74, m75, m77]
  exact R
theorem QCnt.c (R : QCnt s t) (h0 : ∀ k, k = 16 ∨ k = 17 → zS s' 0 k = zS s 0 k) (h4 : zS s' 15 4 = zS s 15 4) (h3 : ∀ i, zR s' 17 i = zR s 17 i) (m67 : ∀ i, zI t' 67 i = zI t 67 i) (m69 : ∀ i, zI t' 69 i = zI t 69 i) : QCnt s' t' := by
  unfold QCnt
  simp only [h0 16 (by omega), h0 17 (by omega), h4, h3, m67, m69]
  exact R
theorem QFst.c (R : QFst s t) (h18 : zS s' 0 18 = zS s 0 18) (h14 : zS s' 0 14 = zS s 0 14) (m69 : ∀ i, zI t' 69 i = zI t 69 i) : QFst s' t' := by
  unfold QFst
  simp only [h18, h14, m69]
  exact R
theorem QStoH.c (R : QStoH (zS s 0 14).toInt s t) (h30 : ∀ k, zS s' 30 k = zS s 30 k) (h14 : zS s' 0 14 = zS s 0 14) (h : ∀ q i, 31 ≤ q → q ≤ 33 → zI s' q i = zI s q i) (m : ∀ k, k = 54 ∨ k = 55 ∨ k = 62 → zS t' 59 k = zS t 59 k) (n : ∀ q i, 102 ≤ q → q ≤ 103 ∨ q = 105 → zI t' q i = zI t q i) : QStoH (zS s' 0 14).toInt s' t' := by
  unfold QStoH
  simp only [h30, h14, h 31 _ (by omega) (by omega), h 32 _ (by omega) (by omega), h 33 _ (by omega) (by omega), m 54 (by omega), m 55 (by omega), m 62 (by omega), n 102 _ (by omega) (by omega), n 103 _ (by omega) (by omega), n 105 _ (by omega) (by omega)]
  exact R
theorem QRef.c (R : QRef s t) (h : ∀ k, 5 ≤ k → k ≤ 9 → zS s' 15 k = zS s 15 k) (m : ∀ k, 22 ≤ k → k ≤ 25 → zS t' 59 k = zS t 59 k) : QRef s' t' := by
  unfold QRef
  rw [h 5 (by omega) (by omega), h 6 (by omega) (by omega), h 7 (by omega) (by omega), h 8 (by omega) (by omega), h 9 (by omega) (by omega), m 22 (by omega) (by omega), m 23 (by omega) (by omega), m 24 (by omega) (by omega), m 25 (by omega) (by omega)]
  exact R
theorem QBrk.c (R : QBrk s t) (h : ∀ i, i < 3 → zS s' (20 + i) 2 = zS s (20 + i) 2) (m : ∀ i, zI t' 80 i = zI t 80 i) : QBrk s' t' := fun i hi => by
  rw [h i hi, m]
  exact R i hi
theorem QLif.c (R : QLif s t) (h : ∀ k, 10 ≤ k → k ≤ 12 → zS s' 6 k = zS s 6 k) (h13 : ∀ i, zI s' 13 i = zI s 13 i) (m : ∀ k, k = 82 ∨ k = 83 → zS t' 59 k = zS t 59 k) (m116 : ∀ i, zI t' 116 i = zI t 116 i) (m118 : ∀ i, zI t' 118 i = zI t 118 i) : QLif s' t' := by
  unfold QLif
  simp only [h 10 (by omega) (by omega), h 11 (by omega) (by omega), h 12 (by omega) (by omega), h13, m 82 (by omega), m 83 (by omega), m116, m118]
  exact R
theorem QSet.c (R : QSet s t) (h3 : (zS s 15 3).toInt ≤ (zS s' 15 3).toInt) (hR : ∀ i, i < 120 → zR s 17 i ≠ none → zR s' 17 i ≠ none) (b3 : (zS s 15 3).toInt ≤ 120) (m : ∀ i, zI t' 79 i = zI t 79 i) : QSet s' t' := by
  unfold QSet
  simp only [m]
  exact ⟨fun i hi => (R.1 i hi).imp (fun z => z) (fun ⟨z1, z2, z3⟩ => ⟨z1, by omega, hR _ (by omega) z3⟩), R.2⟩
theorem MX.c {p i : Nat} (R : MX s p t i) (h1 : ∀ k, zS s' p k = zS s p k) (h2 : ∀ y, zI s' (p + 1) y = zI s (p + 1) y) (m : ∀ q j, 81 ≤ q → q ≤ 85 → zI t' q j = zI t q j) : MX s' p t' i := by
  unfold MX MXb
  simp only [h1, h2, m 81 _ (by omega) (by omega), m 82 _ (by omega) (by omega), m 83 _ (by omega) (by omega), m 84 _ (by omega) (by omega), m 85 _ (by omega) (by omega)]
  exact R
theorem QCha.c (R : QCha s t) (S : Sh s) (h5 : zS s' 0 5 = zS s 0 5) (h1 : ∀ q k, 126 ≤ q → zS s' q k = zS s q k) (h2 : ∀ q j, 126 ≤ q → zI s' q j = zI s q j) (h3 : ∀ i, zR s' 23 i = zR s 23 i) (m : ∀ q j, 81 ≤ q → q ≤ 85 → zI t' q j = zI t q j) : QCha s' t' := by
  obtain ⟨a, a0, b⟩ := R
  refine ⟨fun i hi hc => ?_, fun i hi hc => by rw [m 84 _ (by omega) (by omega)]; exact a0 i hi (by rw [← h5]; exact hc), fun i j p hi hj e f => b i j p hi hj ((h3 i).symm.trans e) ((h3 j).symm.trans f)⟩
  obtain ⟨p, e, r⟩ := a i hi (by rw [← h5]; exact hc)
  have o := (S.2.2.2.2.1 i p hi e).1
  exact ⟨p, (h3 i).trans e, r.c (fun k => h1 p k o) (fun y => h2 _ y (by omega)) m⟩
theorem TX.c {p i : Nat} (R : TX s p t i) (h1 : ∀ k, zS s' p k = zS s p k) (h2 : ∀ y, zI s' (p + 1) y = zI s (p + 1) y) (h3 : zN s' (p + 1) = zN s (p + 1)) (m : ∀ q j, 87 ≤ q → q ≤ 94 → zI t' q j = zI t q j) : TX s' p t' i := by
  unfold TX TXr
  simp only [h1, h2, h3, m 87 _ (by omega) (by omega), m 88 _ (by omega) (by omega), m 89 _ (by omega) (by omega), m 90 _ (by omega) (by omega), m 91 _ (by omega) (by omega), m 92 _ (by omega) (by omega), m 93 _ (by omega) (by omega), m 94 _ (by omega) (by omega)]
  exact R
theorem QTxt.c (R : QTxt s t) (S : Sh s) (h8 : zS s' 0 8 = zS s 0 8) (h1 : ∀ q k, 126 ≤ q → zS s' q k = zS s q k) (h2 : ∀ q j, 126 ≤ q → zI s' q j = zI s q j) (h3 : ∀ i, zR s' 27 i = zR s 27 i) (hN : ∀ q, 126 ≤ q → zN s' q = zN s q) (m : ∀ q j, 87 ≤ q → q ≤ 94 → zI t' q j = zI t q j) : QTxt s' t' := fun i hi hc => by
  obtain ⟨p, e, r⟩ := R i hi (by rw [← h8]; exact hc)
  have o := (S.2.2.2.2.2.1 i p hi e).1
  exact ⟨p, (h3 i).trans e, r.c (fun k => h1 p k o) (fun y => h2 _ y (by omega)) (hN _ (by omega)) m⟩
theorem QRow.c (R : QRow t) (m : ∀ q i, q = 120 ∨ q = 123 → zI t' q i = zI t q i) (mJ : ∀ i, zJ t' 122 i = zJ t 122 i) : QRow t' := by
  unfold QRow
  simp only [m 120 _ (by omega), m 123 _ (by omega), mJ]
  exact R
theorem QKep.d {h : Int} (R : QKep h t) (m : ∀ i, zI t' 68 i = zI t 68 i) : QKep h t' := fun i hi => by
  rw [m]
  exact R i hi
theorem QKep.c (R : QKep (zS s 0 14).toInt t) (h14 : zS s' 0 14 = zS s 0 14) (m : ∀ i, zI t' 68 i = zI t 68 i) : QKep (zS s' 0 14).toInt t' := fun i hi => by
  rw [h14, m]
  exact R i hi
end QCs
/-- nothing that the relation reads has changed -/
theorem Q4.c {s t s' t' : SS} (Q : Q4 s t) (S : Sh s) (hL : s'.2.2.2 = s.2.2.2) (b3 : (zS s 15 3).toInt ≤ 120) (hS : ∀ q k, vS q k = true → q < 59 ∨ 126 ≤ q → zS s' q k = zS s q k) (hI : ∀ q i, vI q = true → q < 59 ∨ 126 ≤ q → zI s' q i = zI s q i) (mS : ∀ k, vS 59 k = true → zS t' 59 k = zS t 59 k) (mI : ∀ q i, vI q = true → 59 ≤ q → q < 126 → zI t' q i = zI t q i) (mJ : ∀ i, zJ t' 122 i = zJ t 122 i) : Q4 s' t' := by
  obtain ⟨Q1, Q2, Q3, Q5, Q6, Q7, Q8, Q9, Q10, Q11, Q12, Q13, Q14⟩ := Q
  have eR : ∀ q i, zR s' q i = zR s q i := fun q i => by unfold zR; rw [hL]
  have eN : ∀ q, zN s' q = zN s q := fun q => by unfold zN; rw [hL]
  have dS : ∀ q k, 126 ≤ q → zS s' q k = zS s q k := fun q k h => hS q k (vS_d h) (Or.inr h)
  have dI : ∀ q j, 126 ≤ q → zI s' q j = zI s q j := fun q j h => hI q j (vI_d h) (Or.inr h)
  have sS : ∀ q k, q < 59 → vS q k = true → zS s' q k = zS s q k := fun q k h1 h2 => hS q k h2 (Or.inl h1)
  have sI : ∀ q k, q < 59 → vI q = true → zI s' q k = zI s q k := fun q k h1 h2 => hI q k h2 (Or.inl h1)
  refine ⟨Q1.c S dS dI (eR 17) (fun q j h1 h2 => mI q j ?_ (by omega) (by omega)), Q2.c (fun i => sI 7 i (by omega) rfl) (fun i => sI 8 i (by omega) rfl) (fun i => sI 10 i (by omega) rfl) (fun i => sI 16 i (by omega) rfl) (sS 15 3 (by omega) rfl) (sS 6 4 (by omega) rfl) (fun i => mI 74 i rfl (by omega) (by omega)) (fun i => mI 75 i rfl (by omega) (by omega)) (fun i => mI 77 i rfl (by omega) (by omega)), Q3.c (fun k h => sS 0 k (by omega) (by rcases h with rfl | rfl <;> rfl)) (sS 15 4 (by omega) rfl) (eR 17) (fun i => mI 67 i rfl (by omega) (by omega)) (fun i => mI 69 i rfl (by omega) (by omega)), Q5.c (sS 0 18 (by omega) rfl) (sS 0 14 (by omega) rfl) (fun i => mI 69 i rfl (by omega) (by omega)), Q6.c (fun k => sS 30 k (by omega) rfl) (sS 0 14 (by omega) rfl) (fun q i h1 h2 => sI q i (by omega) ?_) (fun k h => mS k (by rcases h with rfl | rfl | rfl <;> rfl)) (fun q i h1 h2 => mI q i ?_ (by omega) (by omega)), Q7.c (fun k h1 h2 => sS 15 k (by omega) (Nat.ble_eq.mpr h2)) (fun k h1 h2 => mS k ?_), Q8.c (fun i hi => sS _ 2 (by omega) ?_) (fun i => mI 80 i rfl (by omega) (by omega)), Q9.c (fun k h1 h2 => sS 6 k (by omega) ?_) (fun i => sI 13 i (by omega) rfl) (fun k h => mS k (by rcases h with rfl | rfl <;> rfl)) (fun i => mI 116 i rfl (by omega) (by omega)) (fun i => mI 118 i rfl (by omega) (by omega)), Q10.c (by rw [sS 15 3 (by omega) rfl]; exact Int.le_refl _) (fun i _ h => by rw [eR]; exact h) b3 (fun i => mI 79 i rfl (by omega) (by omega)), Q11.c S (sS 0 5 (by omega) rfl) dS dI (eR 23) (fun q j h1 h2 => mI q j ?_ (by omega) (by omega)), Q12.c S (sS 0 8 (by omega) rfl) dS dI (eR 27) (fun q _ => eN q) (fun q j h1 h2 => mI q j ?_ (by omega) (by omega)), Q13.c (fun q i h => mI q i (by rcases h with rfl | rfl <;> rfl) (by omega) (by omega)) mJ, Q14.c (sS 0 14 (by omega) rfl) (fun i => mI 68 i rfl (by omega) (by omega))⟩
  · have h : q = 63 ∨ q = 64 ∨ q = 65 ∨ q = 66 ∨ q = 67 ∨ q = 68 ∨ q = 69 ∨ q = 70 ∨ q = 71 ∨ q = 72 ∨ q = 73 ∨ q = 104 := by omega
    rcases h with rfl | rfl | rfl | rfl | rfl | rfl | rfl | rfl | rfl | rfl | rfl | rfl <;> rfl
  · have h : q = 31 ∨ q = 32 ∨ q = 33 := by omega
    rcases h with rfl | rfl | rfl <;> rfl
  · have h : q = 102 ∨ q = 103 ∨ q = 105 := by omega
    rcases h with rfl | rfl | rfl <;> rfl
  · have h : k = 22 ∨ k = 23 ∨ k = 24 ∨ k = 25 := by omega
    rcases h with rfl | rfl | rfl | rfl <;> rfl
  · have h : i = 0 ∨ i = 1 ∨ i = 2 := by omega
    rcases h with rfl | rfl | rfl <;> rfl
  · have h : k = 10 ∨ k = 11 ∨ k = 12 := by omega
    rcases h with rfl | rfl | rfl <;> rfl
  · have h : q = 81 ∨ q = 82 ∨ q = 83 ∨ q = 84 ∨ q = 85 := by omega
    rcases h with rfl | rfl | rfl | rfl | rfl <;> rfl
  · have h : q = 87 ∨ q = 88 ∨ q = 89 ∨ q = 90 ∨ q = 91 ∨ q = 92 ∨ q = 93 ∨ q = 94 := by omega
    rcases h with rfl | rfl | rfl | rfl | rfl | rfl | rfl | rfl <;> rfl
def GQ (s : SS) : Prop := GI s ∧ Q4 s s
theorem GQ.sh {s : SS} (G : GQ s) : Sh s := G.1.1.1.1.1
theorem GQ.b3 {s : SS} (G : GQ s) : 0 ≤ (zS s 15 3).toInt ∧ (zS s 15 3).toInt ≤ 120 := G.1.1.1.f (q := 15) (k := 3) rfl
/-- a method that touches nothing of it -/
theorem GQ.go {WS : List (Nat × Nat)} {WI WJ : List Nat} {s r : SS} (G : GQ s) (G2 : GI r) (F : Frm WS WI WJ s r) (h1 : WS.all (fun p => !vS p.1 p.2) = true) (h2 : WI.all (fun q => !vI q) = true) (h3 : WJ.contains 122 = false) : GQ r := by
  have c1 : ∀ q k, vS q k = true → zS r q k = zS s q k := fun q k h => F.1 q k (by
    cases e : WS.contains (q, k) with
    | false => rfl
    | true =>
      have := List.all_eq_true.mp h1 (q, k) (by simpa using e)
      simp [h] at this)
  have c2 : ∀ q i, vI q = true → zI r q i = zI s q i := fun q i h => F.2.1 q i (by
    cases e : WI.contains q with
    | false => rfl
    | true =>
      have := List.all_eq_true.mp h2 q (by simpa using e)
      simp [h] at this)
  exact ⟨G2, G.2.c G.sh F.2.2.2 G.b3.2 (fun q k h _ => c1 q k h) (fun q i h _ => c2 q i h) (fun k h => c1 59 k h) (fun q i h _ _ => c2 q i h) (fun i => F.2.2.1 122 i h3)⟩
/-! THE OTHER RELATIONS, class cells of s and reference's cells of t -/
def B0 (s t : SS) : Prop := (zS s 15 3 = zS t 59 4 ∧ zS s 15 5 = zS t 59 21 ∧ zS s 0 5 = zS t 59 30 ∧ zS s 0 8 = zS t 59 38 ∧ zS s 0 15 = zS t 59 29) ∧ (∀ i, zI s 16 i = zI t 62 i) ∧ (∀ i, zI s 9 i = zI t 76 i) ∧ (∀ i, i < 3 → zS s (20 + i) 0 = zI t 78 i ∧ zS s (20 + i) 1 = zI t 79 i) ∧ RH s ∧ Sh s ∧ (∀ q k, q < 59 → bF q k (zS s q k)) ∧ (∀ q k, zT s q = 3 → bH k (zS s q k))
def B1 (s t : SS) : Prop := B0 s t ∧ RTx s t ∧ RKx s t ∧ ∀ i, cellOK (zI t 97 i)
section B0s
variable {s t : SS}
theorem B0.tot (B : B0 s t) : zS s 15 3 = zS t 59 4 ∧ 0 ≤ (zS s 15 3).toInt ∧ (zS s 15 3).toInt ≤ 120 := ⟨B.1.1, B.2.2.2.2.2.2.1 15 3 (by omega)⟩
theorem B0.sh (B : B0 s t) : Sh s := B.2.2.2.2.2.1
theorem B0.rh (B : B0 s t) : RH s := B.2.2.2.2.1
theorem B0.kd (B : B0 s t) (i : Nat) : zI s 16 i = zI t 62 i := B.2.1 i
theorem B0.fx (B : B0 s t) {q k : Nat} (h : q < 59) : bF q k (zS s q k) := B.2.2.2.2.2.2.1 q k h
theorem B0.h3 (B : B0 s t) {p : Nat} (o : okH s p) : 0 ≤ (zS s p 3).toInt ∧ (zS s p 3).toInt ≤ 60 := B.2.2.2.2.2.2.2 p 3 o.2.2.1
theorem B0.h4 (B : B0 s t) {p : Nat} (o : okH s p) : 0 ≤ (zS s p 4).toInt ∧ (zS s p 4).toInt ≤ 60 := B.2.2.2.2.2.2.2 p 4 o.2.2.1
theorem GI.B1 (G : GI s) : B1 s s := ⟨⟨⟨G.1.2.1.2.2.1, G.1.2.1.2.2.2.1, G.1.2.1.2.1, G.2.2.2.2.2, G.1.2.1.1⟩, G.1.2.2.1.2.1, G.1.2.2.1.2.2, G.1.2.2.2.1, G.1.2.2.2.2.1, G.1.1.1.1, fun q k h => G.1.1.1.2.1 q k (by omega), G.1.1.1.2.2.2.1⟩, G.2.1, G.2.2.1, fun i => G.1.1.1.2.2.1 97 i (by omega)⟩
end B0s
def clW (WS : List (Nat × Nat)) (WI WJ : List Nat) : Bool := WS.all (fun p => Nat.blt p.1 59) && WI.all (fun q => Nat.blt q 59) && WJ.all (fun q => Nat.blt q 59)
def moW (WS : List (Nat × Nat)) (WI WJ : List Nat) : Bool := WS.all (fun p => Nat.ble 59 p.1 && Nat.blt p.1 126) && WI.all (fun q => Nat.ble 59 q && Nat.blt q 126) && WJ.all (fun q => Nat.ble 59 q && Nat.blt q 126)
/-- the reference's cells as they were; the class's -/
def mSm (s r : SS) : Prop := (∀ q k, 59 ≤ q → q < 126 → zS r q k = zS s q k) ∧ (∀ q i, 59 ≤ q → q < 126 → zI r q i = zI s q i) ∧ ∀ q i, 59 ≤ q → q < 126 → zJ r q i = zJ s q i
def cSm (s r : SS) : Prop := (∀ q k, q < 59 ∨ 126 ≤ q → zS r q k = zS s q k) ∧ (∀ q i, q < 59 ∨ 126 ≤ q → zI r q i = zI s q i) ∧ r.2.2.2 = s.2.2.2
section SMs
variable {WS : List (Nat × Nat)} {WI WJ : List Nat} {s s1 r : SS}
theorem nct {α : Type} [BEq α] [LawfulBEq α] {L : List α} {x : α} {f : α → Bool} (h : L.all f = true) (hx : f x = false) : L.contains x = false := by
  cases e : L.contains x with
  | false => rfl
  | true =>
    have := List.all_eq_true.mp h x (List.contains_iff_mem.mp e)
    rw [hx] at this
    cases this
theorem Frm.ms (F : Frm WS WI WJ s r) (h : clW WS WI WJ = true) : mSm s r := by
  unfold clW at h
  simp only [Bool.and_eq_true] at h
  refine ⟨fun q k h1 _ => F.1 q k (nct h.1.1 ?_), fun q i h1 _ => F.2.1 q i (nct h.1.2 ?_), fun q i h1 _ => F.2.2.1 q i (nct h.2 ?_)⟩ <;>
  · cases e : Nat.blt q 59 with
    | false => rfl
    | true => have : q < 59 := by simpa using e
              omega
theorem Frm.cs (F : Frm WS WI WJ s r) (h : moW WS WI WJ = true) : cSm s r := by
  unfold moW at h
  simp only [Bool.and_eq_true] at h
  refine ⟨fun q k h1 => F.1 q k (nct h.1.1 ?_), fun q i h1 => F.2.1 q i (nct h.1.2 ?_), F.2.2.2⟩ <;>
  · cases e : (Nat.ble 59 q && Nat.blt q 126) with
    | false => first | exact e | rfl
    | true => simp only [Bool.and_eq_true] at e
              have a : 59 ≤ q := by simpa using e.1
              have b : q < 126 := by simpa using e.2
              omega
theorem mSm.rf : mSm s s := ⟨fun _ _ _ _ => rfl, fun _ _ _ _ => rfl, fun _ _ _ _ => rfl⟩
theorem cSm.rf : cSm s s := ⟨fun _ _ _ => rfl, fun _ _ _ => rfl, rfl⟩
theorem Q4.X {t : SS} (Q : Q4 s t) (S : Sh s) (b : (zS s 15 3).toInt ≤ 120) (m : mSm t s1) : Q4 s s1 := Q.c S rfl b (fun _ _ _ _ => rfl) (fun _ _ _ _ => rfl) (fun k _ => m.1 59 k (by omega) (by omega)) (fun q i _ h1 h2 => m.2.1 q i h1 h2) (fun i => m.2.2 122 i (by omega) (by omega))
theorem Q4.M {t : SS} (Q : Q4 s t) (S : Sh s) (b : (zS s 15 3).toInt ≤ 120) (m : cSm s r) : Q4 r t := Q.c S m.2.2 b (fun q k _ h => m.1 q k h) (fun q i _ h => m.2.1 q i h) (fun _ _ => rfl) (fun _ _ _ _ _ => rfl) (fun _ => rfl)
theorem B1.X {t : SS} (B : B1 s t) (m : mSm t s1) : B1 s s1 := by
  obtain ⟨⟨⟨a1, a2, a3, a4, a5⟩, b, c, d, e, f, g, k⟩, ⟨t1, t2, t3, t4, t5⟩, kx, cx⟩ := B
  have u : ∀ k, zS s1 59 k = zS t 59 k := fun k => m.1 59 k (by omega) (by omega)
  have v : ∀ q i, 59 ≤ q → q < 126 → zI s1 q i = zI t q i := fun q i h1 h2 => m.2.1 q i h1 h2
  refine ⟨⟨⟨by rw [u]; exact a1, by rw [u]; exact a2, by rw [u]; exact a3, by rw [u]; exact a4, by rw [u]; exact a5⟩, fun x => by rw [v 62 x (by omega) (by omega)]; exact b x, fun x => by rw [v 76 x (by omega) (by omega)]; exact c x, fun x hx => by rw [v 78 x (by omega) (by omega), v 79 x (by omega) (by omega)]; exact d x hx, e, f, g, k⟩, ⟨by rw [u]; exact t1, by rw [u]; exact t2, fun x => by rw [v 97 x (by omega) (by omega)]; exact t3 x, fun x => by rw [v 98 x (by omega) (by omega)]; exact t4 x, t5⟩, fun x y h1 h2 h3 => ?_, fun x => by rw [v 97 x (by omega) (by omega)]; exact cx x⟩
  rw [v 60 _ (by omega) (by omega), v 61 _ (by omega) (by omega)]
  exact kx x y h1 h2 h3
/-- from two states to one -/
theorem GQ.fin {s2 : SS} (G2 : GI s2) (h : Q4 s1 s2) (c : cSm s1 s2) (S : Sh s2) : GQ s2 := by
  have e : zS s1 15 3 = zS s2 15 3 := (c.1 15 3 (by omega)).symm
  exact ⟨G2, h.M (S.same (by rw [c.2.2]) (by rw [c.2.2])) (by rw [e]; exact (G2.1.1.f (q := 15) (k := 3) rfl : 0 ≤ (zS s2 15 3).toInt ∧ (zS s2 15 3).toInt ≤ 120).2) c⟩
end SMs
