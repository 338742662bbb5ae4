/-! sums over the first n places -/
def ySum (f : Nat → Int) : Nat → Int
  | 0 => 0
  | n + 1 => ySum f n + f n
theorem ySum_c {f g : Nat → Int} : ∀ {n : Nat}, (∀ i, i < n → g i = f i) → ySum g n = ySum f n
  | 0, _ => rfl
  | n + 1, h => by
    show ySum g n + g n = ySum f n + f n
    rw [ySum_c (fun i hi => h i (by omega)), h n (by omega)]
theorem ySum_up {f g : Nat → Int} {j : Nat} (h : ∀ i, i ≠ j → g i = f i) : ∀ (n : Nat), ySum g n = ySum f n + if j < n then g j - f j else 0
  | 0 => by rw [if_neg (by omega)]; rfl
  | n + 1 => by
    show ySum g n + g n = ySum f n + f n + _
    rw [ySum_up h n]
    by_cases c : j = n
    · rw [if_neg (by omega), if_pos (by omega), c]
      omega
    · rw [h n (fun z => c z.symm)]
      by_cases d : j < n
      · rw [if_pos d, if_pos (by omega)]; omega
      · rw [if_neg d, if_neg (by omega)]; omega
theorem ySum_z {f : Nat → Int} {m : Nat} : ∀ {n : Nat}, m ≤ n → (∀ i, m ≤ i → i < n → f i = 0) → ySum f n = ySum f m
  | 0, h, _ => by rw [show m = 0 by omega]
  | n + 1, h, z => by
    by_cases c : m = n + 1
    · rw [c]
    · show ySum f n + f n = _
      rw [ySum_z (by omega) (fun i h1 h2 => z i h1 (by omega)), z n (by omega) (by omega)]
      omega
theorem ySum_b {f : Nat → Int} {c : Int} (h : ∀ i, 0 ≤ f i ∧ f i ≤ c) : ∀ n : Nat, 0 ≤ ySum f n ∧ ySum f n ≤ c * n
  | 0 => ⟨by show (0 : Int) ≤ 0; omega, by show (0 : Int) ≤ c * 0; omega⟩
  | n + 1 => by
    obtain ⟨a, b⟩ := ySum_b h n
    obtain ⟨d, e⟩ := h n
    show 0 ≤ ySum f n + f n ∧ ySum f n + f n ≤ c * ((n + 1 : Nat) : Int)
    have : c * ((n + 1 : Nat) : Int) = c * n + c := by rw [Int.natCast_add, Int.mul_add]; omega
    omega
theorem ySum_n {f : Nat → Int} (h : ∀ i, 0 ≤ f i) (n : Nat) : 0 ≤ ySum f n := by
  induction n with
  | zero => exact Int.le_refl 0
  | succ n ih => have := h n; show 0 ≤ ySum f n + f n; omega
theorem ySum_0 {f : Nat → Int} (h : ∀ i, 0 ≤ f i) (n : Nat) (e : ySum f n = 0) : ∀ i, i < n → f i = 0 := by
  induction n with
  | zero => intro i hi; omega
  | succ n ih =>
    intro i hi
    have e' : ySum f n + f n = 0 := e
    have a := ySum_n h n
    have b := h n
    by_cases c : i = n
    · rw [c]; omega
    · exact ih (by omega) i (by omega)
/-! THE THIRD RELATION: class cells of s, reference's cells of t -/
def lgV (b v : Int32) : Int32 := if b = 0 then -2000000000 else v
/-- hole i, the object at p -/
def HX (s : SS) (p : Nat) (t : SS) (i : Nat) : Prop := zS s p 0 = zI t 63 i ∧ zS s p 1 = zI t 64 i ∧ zS s p 2 = zI t 65 i ∧ zS s p 3 = zI t 66 i ∧ zS s p 4 = zI t 67 i ∧ zS s p 5 = zI t 68 i ∧ zS s p 6 = (if 0 < (zI t 69 i).toInt then 1 else 0) ∧ zS s p 7 = zI t 104 i ∧ ∀ y, 1 ≤ y → y ≤ 60 → zI s (p + 1) y = zI t 70 (61 * i + y) ∧ zI s (p + 2) y = zI t 71 (61 * i + y) ∧ zI s (p + 3) y = lgV (zI t 72 (61 * i + y)) (zI t 73 (61 * i + y)) ∧ zI t 73 (61 * i + y) ≠ -2000000000
/-- no hole: nothing in the reference's rows -/
def HZ (t : SS) (i : Nat) : Prop := zI t 66 i = 0 ∧ zI t 67 i = 0 ∧ zI t 68 i = 0 ∧ zI t 69 i = 0 ∧ zI t 104 i = 0 ∧ ∀ y, 1 ≤ y → y ≤ 60 → zI t 70 (61 * i + y) = 0 ∧ zI t 71 (61 * i + y) = 0 ∧ zI t 72 (61 * i + y) = 0 ∧ zI t 73 (61 * i + y) ≠ -2000000000
def QHol (s t : SS) : Prop := (∀ i p, i < 120 → zR s 17 i = some p → HX s p t i) ∧ (∀ i, i < 120 → zR s 17 i = none → HZ t i) ∧ (∀ i j p, i < 120 → j < 120 → zR s 17 i = some p → zR s 17 j = some p → i = j) ∧ ∀ i, i < 120 → 0 ≤ (zI t 69 i).toInt ∧ (zI t 69 i).toInt ≤ 1700
def QMen (s t : SS) : Prop := (∀ i : Nat, i < 120 → zI s 7 i = zI t 74 i ∧ zI s 8 i = zI t 75 i ∧ zI s 10 i = zI t 77 i ∧ (zI s 10 i = 0 ∨ zI s 10 i = 1) ∧ (zI s 10 i = 1 → (i : Int) < (zS s 15 3).toInt ∧ zI s 16 i = 7)) ∧ (zS s 6 4).toInt = ySum (fun i => (zI s 10 i).toInt) 120
def QCnt (s t : SS) : Prop := (zS s 0 16).toInt = ySum (fun i => (zI t 67 i).toInt) 120 ∧ (zS s 0 17).toInt = ySum (fun i => if 0 < (zI t 69 i).toInt then 1 else 0) 120 ∧ (zS s 15 4).toInt = ySum (fun i => if zR s 17 i = none then 0 else 1) 120
def QFst (s t : SS) : Prop := ((zS s 0 18).toInt = 1700 ∧ ∀ i, i < 120 → ¬ 0 < (zI t 69 i).toInt) ∨ ((zS s 0 18).toInt ≤ (zS s 0 14).toInt ∧ (∀ i, i < 120 → 0 < (zI t 69 i).toInt → (zS s 0 18).toInt ≤ (zI t 69 i).toInt - 1) ∧ ∃ i, i < 120 ∧ 0 < (zI t 69 i).toInt ∧ (zS s 0 18).toInt = (zI t 69 i).toInt - 1)
def QStoH (h : Int) (s t : SS) : Prop := zS s 30 0 = zS t 59 54 ∧ zS s 30 1 = zS t 59 55 ∧ zS s 30 5 = zS t 59 62 ∧ (∀ i, zI s 31 i = zI t 105 i) ∧ ∀ i : Nat, i < 40 → (i : Int) < (zS s 30 5).toInt → zI s 32 i = zI t 102 i ∧ zI s 33 i = zI t 103 i ∧ h < (zI s 33 i).toInt
def QRef (s t : SS) : Prop := zS s 15 6 = zS t 59 22 ∧ zS s 15 7 = zS t 59 23 ∧ zS s 15 8 = zS t 59 24 ∧ zS s 15 9 = zS t 59 25 ∧ (0 ≤ (zS s 15 5).toInt → 1 ≤ (zS s 15 8).toInt)
def QBrk (s t : SS) : Prop := ∀ i, i < 3 → zS s (20 + i) 2 = zI t 80 i
def QLif (s t : SS) : Prop := (zS s 6 10 = 0 ∧ zS t 59 82 = -1) ∨ (1 ≤ (zS s 6 10).toInt ∧ zS s 6 10 = zS t 59 82 ∧ zS s 6 11 = zS t 59 83 ∧ (0 ≤ (zS s 6 11).toInt ∧ (zS s 6 11).toInt ≤ 1699) ∧ (1 ≤ (zS s 6 12).toInt ∧ (zS s 6 12).toInt ≤ 4) ∧ ∀ i : Nat, i < 120 → (i : Int) < (zS s 6 10).toInt → zI s 13 i = zI t 116 i ∧ (zI t 118 i).toInt = (zS s 6 11).toInt + ((i : Int) + 1) * (zS s 6 12).toInt)
/-- which machine is where: at holes, no two at one -/
def QSet (s t : SS) : Prop := (∀ i, i < 3 → (zI t 79 i).toInt = -1 ∨ (0 ≤ (zI t 79 i).toInt ∧ (zI t 79 i).toInt < (zS s 15 3).toInt ∧ zR s 17 (zI t 79 i).toInt.toNat ≠ none)) ∧ ∀ i j, i < 3 → j < 3 → i ≠ j → 0 ≤ (zI t 79 i).toInt → zI t 79 i ≠ zI t 79 j
/-- a map: its bits say what its list says -/
def MXb (s : SS) (p : Nat) (t : SS) (i : Nat) : Prop := ∀ x y : Nat, x < 32 → 1 ≤ y → y ≤ 60 → ((zI s (p + 1) y).toBitVec.getLsbD x = true ↔ ∃ k : Nat, (k : Int) < (zI t 84 i).toInt ∧ (zI t 85 (40 * i + k)).toInt = 100 * (x : Int) + y)
def MX (s : SS) (p : Nat) (t : SS) (i : Nat) : Prop := zS s p 0 = zI t 81 i ∧ zS s p 1 = zI t 82 i ∧ zS s p 2 = zI t 83 i ∧ zS s p 4 = zI t 84 i ∧ (0 ≤ (zS s p 0).toInt ∧ (zS s p 0).toInt ≤ (zS s p 1).toInt ∧ (zS s p 1).toInt ≤ 31) ∧ (1 ≤ (zS s p 2).toInt ∧ (zS s p 2).toInt ≤ 60) ∧ MXb s p t i
def QCha (s t : SS) : Prop := (∀ i : Nat, i < 8 → (i : Int) < (zS s 0 5).toInt → ∃ p, zR s 23 i = some p ∧ MX s p t i) ∧ (∀ i : Nat, i < 8 → ¬ (i : Int) < (zS s 0 5).toInt → zI t 84 i = 0) ∧ ∀ i j p, i < 8 → j < 8 → zR s 23 i = some p → zR s 23 j = some p → i = j
/-- a text: the class's codes, the reference's rows -/
def TXr (s : SS) (p : Nat) (t : SS) (i : Nat) : Prop := ∃ ls : List (Option (List Int32) × List Int32), zN s (p + 1) = (clL ls).length ∧ (clL ls).length ≤ 161 ∧ (mlL ls).length ≤ 160 ∧ (∀ (j : Nat) c, (clL ls)[j]? = some c → zI s (p + 1) j = c) ∧ (∀ (j : Nat) c, (mlL ls)[j]? = some c → zI t 93 (170 * i + j) = tkA c ∧ zI t 94 (170 * i + j) = tkW c) ∧ (zI t 90 i).toInt = ls.length ∧ ls.length ≤ 90 ∧ (∀ pr, pr ∈ ls → (∀ l, pr.1 = some l → Wo 46 l ∧ 1 ≤ l.length) ∧ Wo 46 pr.2 ∧ 1 ≤ pr.2.length) ∧ ∀ (k : Nat) pr, ls[k]? = some pr → (zI t 91 (90 * i + k)).toInt = (mlL (ls.take k)).length + (tst pr.1).length ∧ (zI t 92 (90 * i + k)).toInt = (mlL (ls.take (k + 1))).length
def TX (s : SS) (p : Nat) (t : SS) (i : Nat) : Prop := (0 ≤ (zI t 87 i).toInt ∧ (zI t 87 i).toInt ≤ 12 ∧ (zI t 87 i).toInt % 10 ≤ 2) ∧ (zS s p 0).toInt = (zI t 87 i).toInt / 10 ∧ (zS s p 1).toInt = (zI t 87 i).toInt % 10 ∧ zS s p 2 = zI t 88 i ∧ zS s p 3 = zI t 89 i ∧ TXr s p t i
def QTxt (s t : SS) : Prop := ∀ i : Nat, i < 16 → (i : Int) < (zS s 0 8).toInt → ∃ p, zR s 27 i = some p ∧ TX s p t i
/-- rows of floats and doubles hold small numbers -/
def QRow (t : SS) : Prop := (∀ j, zI t 123 j = 0 ∨ zI t 123 j = 1) ∧ ∀ i, i < 6 → (zI t 120 i = -5 ∨ zI t 120 i = -6) → ∀ j, j < 60 → zI t 123 (60 * i + j) = 0 → -9999 ≤ (zJ t 122 (60 * i + j)).toInt ∧ (zJ t 122 (60 * i + j)).toInt ≤ 9999
def QKep (h : Int) (t : SS) : Prop := ∀ i, i < 120 → 0 ≤ (zI t 68 i).toInt ∧ (zI t 68 i).toInt ≤ 60 * h
def Q4h (h : Int) (s t : SS) : Prop := QHol s t ∧ QMen s t ∧ QCnt s t ∧ QFst s t ∧ QStoH h s t ∧ QRef s t ∧ QBrk s t ∧ QLif s t ∧ QSet s t ∧ QCha s t ∧ QTxt s t ∧ QRow t ∧ QKep h t
def Q4 (s t : SS) : Prop := Q4h (zS s 0 14).toInt s t
