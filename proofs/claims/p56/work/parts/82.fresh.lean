/-! THE FRESH STATE -/
def hX : List aE := [.inr (11, [.ref 9, .ref 23, .ref 14, .ref 27, .ref 31, .int 0, .ref 32, .ref 35, .int 0, .ref 36, .ref 37, .ref 38, .ref 42, .ref 54, .int 0, .int 2, .int 0, .int 0, .int 1700]), .inr (5, [.ref 10, .ref 11, .ref 12, .ref 13, .int 0]), .inl (0, 1920, .inl (fun _ => 3)), .inl (0, 1920, .inl (fun _ => 0)), .inl (0, 60, .inl (fun _ => 0)), .inl (0, 60, .inl (fun _ => 0)), .inr (2, [.ref 15, .ref 16, .ref 17, .ref 18, .int 0, .ref 19, .ref 20, .int 0, .ref 21, .ref 22, .int 0, .int 0, .int 0]), .inl (0, 120, .inl (fun _ => 0)), .inl (0, 120, .inl (fun _ => 0)), .inl (0, 120, .inl (fun _ => 0)), .inl (0, 120, .inl (fun _ => 0)), .inl (0, 120, .inl (fun _ => 0)), .inl (0, 9, .inl (fun _ => 0)), .inl (0, 120, .inl (fun _ => 0)), .inl (0, 120, .inl (fun _ => 0)), .inr (0, [.ref 24, .ref 25, .ref 14, .int 0, .int 0, .int (-1), .int 0, .int 0, .int 0, .int 0, .ref 26, .int 0]), .inl (0, 120, .inl (fun _ => 0)), .inl (4, 120, .inr (.inr (.inr (.inr (fun _ => none))))), .inl (0, 24, .inl (fun _ => 0)), .inl (5, 3, .inr (.inr (.inr (.inr (va_up (va_up (va_up (fun _ => none) (0 : Int32).toNatClampNeg (some 28)) (1 : Int32).toNatClampNeg (some 29)) (2 : Int32).toNatClampNeg (some 30)))))), .inr (4, [.int 20, .int (-1), .int (-1)]), .inr (4, [.int 20, .int (-1), .int (-1)]), .inr (4, [.int 20, .int (-1), .int (-1)]), .inl (6, 8, .inr (.inr (.inr (.inr (fun _ => none))))), .inr (7, [.ref 33, .int 0, .ref 34, .int 0, .int 0, .int 0]), .inl (0, 160, .inl (fun _ => 0)), .inl (0, 161, .inl (fun _ => 0)), .inl (7, 16, .inr (.inr (.inr (.inr (fun _ => none))))), .inl (0, 8, .inl (fun _ => 0)), .inl (0, 64, .inl (fun _ => 0)), .inr (9, [.int 0, .int 0, .ref 39, .ref 40, .ref 41, .int 0]), .inl (0, 10, .inl (fun _ => 0)), .inl (0, 40, .inl (fun _ => 0)), .inl (0, 40, .inl (fun _ => 0)), .inr (6, [.ref 43, .ref 44, .ref 45, .int 0, .ref 46, .ref 47, .ref 48, .int 0, .ref 49, .int 0, .ref 50, .ref 51, .ref 52, .ref 53, .int 0]), .inl (0, 10, .inl (fun _ => 0)), .inl (0, 10, .inl (fun _ => 0)), .inl (0, 10, .inl (fun _ => 0)), .inl (0, 1024, .inl (fun _ => 0)), .inl (0, 1024, .inl (fun _ => 0)), .inl (0, 10, .inl (fun _ => 0)), .inl (0, 6, .inl (fun _ => 0)), .inl (0, 24, .inl (fun _ => 1)), .inl (0, 6, .inl (fun _ => 0)), .inl (0, 2, .inl (fun _ => 0)), .inl (0, 2, .inl (fun _ => 0)), .inl (8, 6, .inr (.inr (.inr (.inr (va_up (va_up (va_up (va_up (va_up (va_up (fun _ => none) (0 : Int32).toNatClampNeg (some 55)) (1 : Int32).toNatClampNeg (some 57)) (2 : Int32).toNatClampNeg (some 59)) (3 : Int32).toNatClampNeg (some 61)) (4 : Int32).toNatClampNeg (some 63)) (5 : Int32).toNatClampNeg (some 65)))))), .inr (8, [.int 0, .int 0, .int 0, .int 0, .ref 56]), .inl (3, 60, .inr (.inl (fun _ => 0))), .inr (8, [.int 0, .int 0, .int 0, .int 0, .ref 58]), .inl (3, 60, .inr (.inl (fun _ => 0))), .inr (8, [.int 0, .int 0, .int 0, .int 0, .ref 60]), .inl (3, 60, .inr (.inl (fun _ => 0))), .inr (8, [.int 0, .int 0, .int 0, .int 0, .ref 62]), .inl (3, 60, .inr (.inl (fun _ => 0))), .inr (8, [.int 0, .int 0, .int 0, .int 0, .ref 64]), .inl (3, 60, .inr (.inl (fun _ => 0))), .inr (8, [.int 0, .int 0, .int 0, .int 0, .ref 66]), .inl (3, 60, .inr (.inl (fun _ => 0)))]
def hM0 : List aE := [.inr (12, [.int 0, .int 0, .ref 68, .ref 69, .int 0, .ref 70, .ref 71, .ref 72, .ref 73, .ref 74, .ref 75, .ref 76, .ref 77, .ref 78, .ref 79, .ref 80, .ref 81, .ref 82, .ref 83, .ref 84, .ref 85, .int (-1), .int 0, .int 0, .int 0, .int 0, .ref 86, .ref 87, .ref 88, .int 2, .int 0, .ref 89, .ref 90, .ref 91, .ref 92, .ref 93, .ref 94, .int 0, .int 0, .ref 95, .ref 96, .ref 97, .ref 98, .ref 99, .ref 100, .ref 101, .ref 102, .int 0, .int 0, .int 0, .int 0, .int 0, .ref 103, .ref 104, .int 0, .int 0, .int 0, .ref 105, .ref 106, .ref 107, .ref 108, .ref 109, .int 0, .ref 110, .ref 111, .ref 112, .ref 113, .int 0, .ref 114, .ref 115, .ref 116, .ref 117, .int (-1), .ref 118, .int (-1), .ref 119, .int 0, .ref 120, .ref 121, .int 0, .ref 122, .ref 123, .int (-1), .int 0, .ref 124, .ref 125, .ref 126, .int 0, .ref 127, .ref 128, .ref 129, .ref 130, .ref 131, .ref 132, .ref 133]), .inl (0, 1952, .inl (fun _ => 0)), .inl (1, 1952, .inl (fun _ => 0)), .inl (0, 120, .inl (fun _ => 0)), .inl (0, 120, .inl (fun _ => 0)), .inl (0, 120, .inl (fun _ => 0)), .inl (0, 120, .inl (fun _ => 0)), .inl (0, 120, .inl (fun _ => 0)), .inl (0, 120, .inl (fun _ => 0)), .inl (0, 120, .inl (fun _ => 0)), .inl (0, 120, .inl (fun _ => 0)), .inl (0, 7320, .inl (fun _ => 0)), .inl (0, 7320, .inl (fun _ => 0)), .inl (1, 7320, .inl (fun _ => 0)), .inl (0, 7320, .inl (fun _ => 0)), .inl (0, 120, .inl (fun _ => 0)), .inl (0, 120, .inl (fun _ => 0)), .inl (0, 120, .inl (fun _ => 0)), .inl (1, 120, .inl (fun _ => 0)), .inl (0, 3, .inl (upd (upd (upd (fun _ => 0) (0 : Int32).toNatClampNeg 20) (1 : Int32).toNatClampNeg 20) (2 : Int32).toNatClampNeg 20)), .inl (0, 3, .inl (upd (upd (upd (fun _ => 0) (0 : Int32).toNatClampNeg (-1)) (1 : Int32).toNatClampNeg (-1)) (2 : Int32).toNatClampNeg (-1))), .inl (0, 3, .inl (upd (upd (upd (fun _ => 0) (0 : Int32).toNatClampNeg (-1)) (1 : Int32).toNatClampNeg (-1)) (2 : Int32).toNatClampNeg (-1))), .inl (0, 8, .inl (fun _ => 0)), .inl (0, 8, .inl (fun _ => 0)), .inl (0, 8, .inl (fun _ => 0)), .inl (0, 8, .inl (fun _ => 0)), .inl (0, 320, .inl (fun _ => 0)), .inl (2, 160, .inl (fun _ => 0)), .inl (0, 16, .inl (fun _ => 0)), .inl (0, 16, .inl (fun _ => 0)), .inl (0, 16, .inl (fun _ => 0)), .inl (0, 17, .inl (fun _ => 0)), .inl (0, 1530, .inl (fun _ => 0)), .inl (0, 1530, .inl (fun _ => 0)), .inl (0, 2890, .inl (fun _ => 0)), .inl (0, 2890, .inl (fun _ => 0)), .inl (0, 8, .inl (fun _ => 0)), .inl (0, 170, .inl (fun _ => 0)), .inl (0, 60, .inl (fun _ => 0)), .inl (0, 60, .inl (fun _ => 0)), .inl (1, 120, .inl (fun _ => 0)), .inl (0, 120, .inl (fun _ => 0)), .inl (0, 120, .inl (fun _ => 0)), .inl (0, 40, .inl (fun _ => 0)), .inl (0, 40, .inl (fun _ => 0)), .inl (0, 120, .inl (fun _ => 0)), .inl (0, 10, .inl (fun _ => 0)), .inl (0, 10, .inl (fun _ => 0)), .inl (0, 10, .inl (fun _ => 0)), .inl (0, 10, .inl (fun _ => 0)), .inl (0, 1024, .inl (fun _ => 0)), .inl (0, 10, .inl (fun _ => 0)), .inl (0, 9, .inl (fun _ => 0)), .inl (0, 6, .inl (fun _ => 0)), .inl (0, 24, .inl (upd (upd (upd (upd (upd (upd (upd (upd (upd (upd (upd (upd (upd (upd (upd (upd (upd (upd (upd (upd (upd (upd (upd (upd (fun _ => 0) (0 : Int32).toNatClampNeg 1) (1 : Int32).toNatClampNeg 1) (2 : Int32).toNatClampNeg 1) (3 : Int32).toNatClampNeg 1) (4 : Int32).toNatClampNeg 1) (5 : Int32).toNatClampNeg 1) (6 : Int32).toNatClampNeg 1) (7 : Int32).toNatClampNeg 1) (8 : Int32).toNatClampNeg 1) (9 : Int32).toNatClampNeg 1) (10 : Int32).toNatClampNeg 1) (11 : Int32).toNatClampNeg 1) (12 : Int32).toNatClampNeg 1) (13 : Int32).toNatClampNeg 1) (14 : Int32).toNatClampNeg 1) (15 : Int32).toNatClampNeg 1) (16 : Int32).toNatClampNeg 1) (17 : Int32).toNatClampNeg 1) (18 : Int32).toNatClampNeg 1) (19 : Int32).toNatClampNeg 1) (20 : Int32).toNatClampNeg 1) (21 : Int32).toNatClampNeg 1) (22 : Int32).toNatClampNeg 1) (23 : Int32).toNatClampNeg 1)), .inl (0, 2, .inl (fun _ => 0)), .inl (0, 2, .inl (fun _ => 0)), .inl (0, 120, .inl (fun _ => 0)), .inl (0, 120, .inl (fun _ => 0)), .inl (0, 120, .inl (fun _ => 0)), .inl (0, 24, .inl (fun _ => 0)), .inl (0, 6, .inl (upd (upd (upd (upd (upd (upd (fun _ => 0) (0 : Int32).toNatClampNeg (-1)) (1 : Int32).toNatClampNeg (-1)) (2 : Int32).toNatClampNeg (-1)) (3 : Int32).toNatClampNeg (-1)) (4 : Int32).toNatClampNeg (-1)) (5 : Int32).toNatClampNeg (-1))), .inl (0, 6, .inl (fun _ => 0)), .inl (3, 360, .inr (.inl (fun _ => 0))), .inl (1, 360, .inl (fun _ => 0)), .inl (3, 60, .inr (.inl (fun _ => 0))), .inl (1, 60, .inl (fun _ => 0))]
def hM : List aE := [.inr (12, [.int 0, .int 0, .ref 68, .ref 69, .int 0, .ref 70, .ref 71, .ref 72, .ref 73, .ref 74, .ref 75, .ref 76, .ref 77, .ref 78, .ref 79, .ref 80, .ref 81, .ref 82, .ref 83, .ref 84, .ref 85, .int (-1), .int 0, .int 0, .int 0, .int 0, .ref 86, .ref 87, .ref 88, .int 2, .int 0, .ref 89, .ref 90, .ref 91, .ref 92, .ref 93, .ref 94, .int 0, .int 0, .ref 95, .ref 96, .ref 97, .ref 98, .ref 99, .ref 100, .ref 101, .ref 102, .int 0, .int 0, .int 0, .int 0, .int 0, .ref 103, .ref 104, .int 0, .int 0, .int 0, .ref 105, .ref 106, .ref 107, .ref 108, .ref 109, .int 0, .ref 110, .ref 111, .ref 112, .ref 113, .int 0, .ref 114, .ref 115, .ref 116, .ref 117, .int (-1), .ref 118, .int (-1), .ref 119, .int 0, .ref 120, .ref 121, .int 0, .ref 122, .ref 123, .int (-1), .int 0, .ref 124, .ref 125, .ref 126, .int 0, .ref 127, .ref 128, .ref 129, .ref 130, .ref 131, .ref 132, .ref 133]), .inl (0, 1952, .inl (fun _ => 0)), .inl (1, 1952, .inl (fun _ => 0)), .inl (0, 120, .inl (fun _ => 0)), .inl (0, 120, .inl (fun _ => 0)), .inl (0, 120, .inl (fun _ => 0)), .inl (0, 120, .inl (fun _ => 0)), .inl (0, 120, .inl (fun _ => 0)), .inl (0, 120, .inl (fun _ => 0)), .inl (0, 120, .inl (fun _ => 0)), .inl (0, 120, .inl (fun _ => 0)), .inl (0, 7320, .inl (fun _ => 0)), .inl (0, 7320, .inl (fun _ => 0)), .inl (1, 7320, .inl (fun _ => 0)), .inl (0, 7320, .inl (fun _ => 0)), .inl (0, 120, .inl (fun _ => 0)), .inl (0, 120, .inl (fun _ => 0)), .inl (0, 120, .inl (fun _ => 0)), .inl (1, 120, .inl (fun _ => 0)), .inl (0, 3, .inl (fun _ => 20)), .inl (0, 3, .inl (fun _ => (-1))), .inl (0, 3, .inl (fun _ => (-1))), .inl (0, 8, .inl (fun _ => 0)), .inl (0, 8, .inl (fun _ => 0)), .inl (0, 8, .inl (fun _ => 0)), .inl (0, 8, .inl (fun _ => 0)), .inl (0, 320, .inl (fun _ => 0)), .inl (2, 160, .inl (fun _ => 0)), .inl (0, 16, .inl (fun _ => 0)), .inl (0, 16, .inl (fun _ => 0)), .inl (0, 16, .inl (fun _ => 0)), .inl (0, 17, .inl (fun _ => 0)), .inl (0, 1530, .inl (fun _ => 0)), .inl (0, 1530, .inl (fun _ => 0)), .inl (0, 2890, .inl (fun _ => 0)), .inl (0, 2890, .inl (fun _ => 0)), .inl (0, 8, .inl (fun _ => 0)), .inl (0, 170, .inl (fun _ => 0)), .inl (0, 60, .inl (fun _ => 0)), .inl (0, 60, .inl (fun _ => 0)), .inl (1, 120, .inl (fun _ => 0)), .inl (0, 120, .inl (fun _ => 0)), .inl (0, 120, .inl (fun _ => 0)), .inl (0, 40, .inl (fun _ => 0)), .inl (0, 40, .inl (fun _ => 0)), .inl (0, 120, .inl (fun _ => 0)), .inl (0, 10, .inl (fun _ => 0)), .inl (0, 10, .inl (fun _ => 0)), .inl (0, 10, .inl (fun _ => 0)), .inl (0, 10, .inl (fun _ => 0)), .inl (0, 1024, .inl (fun _ => 0)), .inl (0, 10, .inl (fun _ => 0)), .inl (0, 9, .inl (fun _ => 0)), .inl (0, 6, .inl (fun _ => 0)), .inl (0, 24, .inl (fun _ => 1)), .inl (0, 2, .inl (fun _ => 0)), .inl (0, 2, .inl (fun _ => 0)), .inl (0, 120, .inl (fun _ => 0)), .inl (0, 120, .inl (fun _ => 0)), .inl (0, 120, .inl (fun _ => 0)), .inl (0, 24, .inl (fun _ => 0)), .inl (0, 6, .inl (fun _ => (-1))), .inl (0, 6, .inl (fun _ => 0)), .inl (3, 360, .inr (.inl (fun _ => 0))), .inl (1, 360, .inl (fun _ => 0)), .inl (3, 60, .inr (.inl (fun _ => 0))), .inl (1, 60, .inl (fun _ => 0))]
def h0 : List aE := hX ++ hM
def sFr : SS := (fun q k => match q, k with
  | 0, 15 => 2
  | 0, 18 => 1700
  | 15, 5 => (-1)
  | 20, 0 => 20
  | 20, 1 => (-1)
  | 20, 2 => (-1)
  | 21, 0 => 20
  | 21, 1 => (-1)
  | 21, 2 => (-1)
  | 22, 0 => 20
  | 22, 1 => (-1)
  | 22, 2 => (-1)
  | 59, 21 => (-1)
  | 59, 29 => 2
  | 59, 72 => (-1)
  | 59, 74 => (-1)
  | 59, 82 => (-1)
  | _, _ => 0,
  fun q _ => match q with
  | 2 => 3
  | 42 => 1
  | 78 => 20
  | 79 => (-1)
  | 80 => (-1)
  | 113 => 1
  | 120 => (-1)
  | _ => 0,
  fun _ _ => 0,
  fun q j => match q with
  | 19 => if j < 3 then some (20 + j) else none
  | 46 => if j < 6 then some (47 + 2 * j) else none
  | _ => none,
  T0, N0, 126)
theorem fr19 : h0[19]? = some (cellS sFr 19) := by
  show some _ = some (Sum.inl (5, 3, Sum.inr (Sum.inr (Sum.inr (Sum.inr (fun j => (if j < 3 then some (20 + j) else none).map (· + 8)))))))
  congr 8
  funext j
  match j with
  | 0 => rfl
  | 1 => rfl
  | 2 => rfl
  | n + 3 =>
    rw [if_neg (by omega)]
    unfold va_up
    rw [if_neg (show ¬ n + 3 = (2 : Int32).toNatClampNeg from fun z => by have : (2 : Int32).toNatClampNeg = 2 := rfl; omega), if_neg (show ¬ n + 3 = (1 : Int32).toNatClampNeg from fun z => by have : (1 : Int32).toNatClampNeg = 1 := rfl; omega), if_neg (show ¬ n + 3 = (0 : Int32).toNatClampNeg from fun z => by have : (0 : Int32).toNatClampNeg = 0 := rfl; omega)]
    rfl
theorem fr46 : h0[46]? = some (cellS sFr 46) := by
  show some _ = some (Sum.inl (8, 6, Sum.inr (Sum.inr (Sum.inr (Sum.inr (fun j => (if j < 6 then some (47 + 2 * j) else none).map (· + 8)))))))
  congr 8
  funext j
  match j with
  | 0 => rfl
  | 1 => rfl
  | 2 => rfl
  | 3 => rfl
  | 4 => rfl
  | 5 => rfl
  | n + 6 =>
    rw [if_neg (by omega)]
    unfold va_up
    rw [if_neg (show ¬ n + 6 = (5 : Int32).toNatClampNeg from fun z => by have : (5 : Int32).toNatClampNeg = 5 := rfl; omega), if_neg (show ¬ n + 6 = (4 : Int32).toNatClampNeg from fun z => by have : (4 : Int32).toNatClampNeg = 4 := rfl; omega), if_neg (show ¬ n + 6 = (3 : Int32).toNatClampNeg from fun z => by have : (3 : Int32).toNatClampNeg = 3 := rfl; omega), if_neg (show ¬ n + 6 = (2 : Int32).toNatClampNeg from fun z => by have : (2 : Int32).toNatClampNeg = 2 := rfl; omega), if_neg (show ¬ n + 6 = (1 : Int32).toNatClampNeg from fun z => by have : (1 : Int32).toNatClampNeg = 1 := rfl; omega), if_neg (show ¬ n + 6 = (0 : Int32).toNatClampNeg from fun z => by have : (0 : Int32).toNatClampNeg = 0 := rfl; omega)]
    rfl
set_option maxRecDepth 10000 in
theorem HH_fr : HH sFr h0 := by
  refine ⟨rfl, fun q hq => ?_, Nat.le_refl _, fun q _ => ⟨rfl, rfl⟩, fun i p _ e => (by cases e), fun i hi => if_pos hi, fun i p _ e => (by cases e), fun i p _ e => (by cases e), fun i hi => if_pos hi⟩
  match q, hq with
  | 0, _ => exact rfl
  | 1, _ => exact rfl
  | 2, _ => exact rfl
  | 3, _ => exact rfl
  | 4, _ => exact rfl
  | 5, _ => exact rfl
  | 6, _ => exact rfl
  | 7, _ => exact rfl
  | 8, _ => exact rfl
  | 9, _ => exact rfl
  | 10, _ => exact rfl
  | 11, _ => exact rfl
  | 12, _ => exact rfl
  | 13, _ => exact rfl
  | 14, _ => exact rfl
  | 15, _ => exact rfl
  | 16, _ => exact rfl
  | 17, _ => exact rfl
  | 18, _ => exact rfl
  | 19, _ => exact fr19
  | 20, _ => exact rfl
  | 21, _ => exact rfl
  | 22, _ => exact rfl
  | 23, _ => exact rfl
  | 24, _ => exact rfl
  | 25, _ => exact rfl
  | 26, _ => exact rfl
  | 27, _ => exact rfl
  | 28, _ => exact rfl
  | 29, _ => exact rfl
  | 30, _ => exact rfl
  | 31, _ => exact rfl
  | 32, _ => exact rfl
  | 33, _ => exact rfl
  | 34, _ => exact rfl
  | 35, _ => exact rfl
  | 36, _ => exact rfl
  | 37, _ => exact rfl
  | 38, _ => exact rfl
  | 39, _ => exact rfl
  | 40, _ => exact rfl
  | 41, _ => exact rfl
  | 42, _ => exact rfl
  | 43, _ => exact rfl
  | 44, _ => exact rfl
  | 45, _ => exact rfl
  | 46, _ => exact fr46
  | 47, _ => exact rfl
  | 48, _ => exact rfl
  | 49, _ => exact rfl
  | 50, _ => exact rfl
  | 51, _ => exact rfl
  | 52, _ => exact rfl
  | 53, _ => exact rfl
  | 54, _ => exact rfl
  | 55, _ => exact rfl
  | 56, _ => exact rfl
  | 57, _ => exact rfl
  | 58, _ => exact rfl
  | 59, _ => exact rfl
  | 60, _ => exact rfl
  | 61, _ => exact rfl
  | 62, _ => exact rfl
  | 63, _ => exact rfl
  | 64, _ => exact rfl
  | 65, _ => exact rfl
  | 66, _ => exact rfl
  | 67, _ => exact rfl
  | 68, _ => exact rfl
  | 69, _ => exact rfl
  | 70, _ => exact rfl
  | 71, _ => exact rfl
  | 72, _ => exact rfl
  | 73, _ => exact rfl
  | 74, _ => exact rfl
  | 75, _ => exact rfl
  | 76, _ => exact rfl
  | 77, _ => exact rfl
  | 78, _ => exact rfl
  | 79, _ => exact rfl
  | 80, _ => exact rfl
  | 81, _ => exact rfl
  | 82, _ => exact rfl
  | 83, _ => exact rfl
  | 84, _ => exact rfl
  | 85, _ => exact rfl
  | 86, _ => exact rfl
  | 87, _ => exact rfl
  | 88, _ => exact rfl
  | 89, _ => exact rfl
  | 90, _ => exact rfl
  | 91, _ => exact rfl
  | 92, _ => exact rfl
  | 93, _ => exact rfl
  | 94, _ => exact rfl
  | 95, _ => exact rfl
  | 96, _ => exact rfl
  | 97, _ => exact rfl
  | 98, _ => exact rfl
  | 99, _ => exact rfl
  | 100, _ => exact rfl
  | 101, _ => exact rfl
  | 102, _ => exact rfl
  | 103, _ => exact rfl
  | 104, _ => exact rfl
  | 105, _ => exact rfl
  | 106, _ => exact rfl
  | 107, _ => exact rfl
  | 108, _ => exact rfl
  | 109, _ => exact rfl
  | 110, _ => exact rfl
  | 111, _ => exact rfl
  | 112, _ => exact rfl
  | 113, _ => exact rfl
  | 114, _ => exact rfl
  | 115, _ => exact rfl
  | 116, _ => exact rfl
  | 117, _ => exact rfl
  | 118, _ => exact rfl
  | 119, _ => exact rfl
  | 120, _ => exact rfl
  | 121, _ => exact rfl
  | 122, _ => exact rfl
  | 123, _ => exact rfl
  | 124, _ => exact rfl
  | 125, _ => exact rfl
  | n + 126, h => exact absurd h (by show ¬ n + 126 < 126; omega)
