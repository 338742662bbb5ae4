/-! THE FRESH WORLD: the class's cells 0 .. 58, the reference's 59 .. 125 -/
def oX (hr : Int32) : aE := .inr (11, [.ref 9, .ref 23, .ref 14, .ref 27, .ref 31, .int 0, .ref 32, .ref 35, .int 0, .ref 36, .ref 37, .ref 38, .ref 42, .ref 54, .int hr, .int 2, .int 0, .int 0, .int 1700])
def oM (hr : Int32) : aE := .inr (12, [.int 0, .int hr, .ref 68, .ref 69, .int 0, .ref 70, .ref 71, .ref 72, .ref 73, .ref 74, .ref 75, .ref 76, .ref 77, .ref 78, .ref 79, .ref 80, .ref 81, .ref 82, .ref 83, .ref 84, .ref 85, .int (-1), .int 0, .int 0, .int 0, .int 0, .ref 86, .ref 87, .ref 88, .int 2, .int 0, .ref 89, .ref 90, .ref 91, .ref 92, .ref 93, .ref 94, .int 0, .int 0, .ref 95, .ref 96, .ref 97, .ref 98, .ref 99, .ref 100, .ref 101, .ref 102, .int 0, .int 0, .int 0, .int 0, .int 0, .ref 103, .ref 104, .int 0, .int 0, .int 0, .ref 105, .ref 106, .ref 107, .ref 108, .ref 109, .int 0, .ref 110, .ref 111, .ref 112, .ref 113, .int 0, .ref 114, .ref 115, .ref 116, .ref 117, .int (-1), .ref 118, .int (-1), .ref 119, .int 0, .ref 120, .ref 121, .int 0, .ref 122, .ref 123, .int (-1), .int 0, .ref 124, .ref 125, .ref 126, .int 0, .ref 127, .ref 128, .ref 129, .ref 130, .ref 131, .ref 132, .ref 133])
def hX : List aE := [.inr (11, [.ref 9, .ref 23, .ref 14, .ref 27, .ref 31, .int 0, .ref 32, .ref 35, .int 0, .ref 36, .ref 37, .ref 38, .ref 42, .ref 54, .int 0, .int 2, .int 0, .int 0, .int 1700]), .inr (5, [.ref 10, .ref 11, .ref 12, .ref 13, .int 0]), .inl (0, 1920, .inl (fun _ => 3)), .inl (0, 1920, .inl (fun _ => 0)), .inl (0, 60, .inl (fun _ => 0)), .inl (0, 60, .inl (fun _ => 0)), .inr (2, [.ref 15, .ref 16, .ref 17, .ref 18, .int 0, .ref 19, .ref 20, .int 0, .ref 21, .ref 22, .int 0, .int 0, .int 0]), .inl (0, 120, .inl (fun _ => 0)), .inl (0, 120, .inl (fun _ => 0)), .inl (0, 120, .inl (fun _ => 0)), .inl (0, 120, .inl (fun _ => 0)), .inl (0, 120, .inl (fun _ => 0)), .inl (0, 9, .inl (fun _ => 0)), .inl (0, 120, .inl (fun _ => 0)), .inl (0, 120, .inl (fun _ => 0)), .inr (0, [.ref 24, .ref 25, .ref 14, .int 0, .int 0, .int (-1), .int 0, .int 0, .int 0, .int 0, .ref 26, .int 0]), .inl (0, 120, .inl (fun _ => 0)), .inl (4, 120, .inr (.inr (.inr (.inr (fun _ => none))))), .inl (0, 24, .inl (fun _ => 0)), .inl (5, 3, .inr (.inr (.inr (.inr (va_up (va_up (va_up (fun _ => none) (0 : Int32).toNatClampNeg (some 28)) (1 : Int32).toNatClampNeg (some 29)) (2 : Int32).toNatClampNeg (some 30)))))), .inr (4, [.int 20, .int (-1), .int (-1)]), .inr (4, [.int 20, .int (-1), .int (-1)]), .inr (4, [.int 20, .int (-1), .int (-1)]), .inl (6, 8, .inr (.inr (.inr (.inr (fun _ => none))))), .inr (7, [.ref 33, .int 0, .ref 34, .int 0, .int 0, .int 0]), .inl (0, 160, .inl (fun _ => 0)), .inl (0, 161, .inl (fun _ => 0)), .inl (7, 16, .inr (.inr (.inr (.inr (fun _ => none))))), .inl (0, 8, .inl (fun _ => 0)), .inl (0, 64, .inl (fun _ => 0)), .inr (9, [.int 0, .int 0, .ref 39, .ref 40, .ref 41, .int 0]), .inl (0, 10, .inl (fun _ => 0)), .inl (0, 40, .inl (fun _ => 0)), .inl (0, 40, .inl (fun _ => 0)), .inr (6, [.ref 43, .ref 44, .ref 45, .int 0, .ref 46, .ref 47, .ref 48, .int 0, .ref 49, .int 0, .ref 50, .ref 51, .ref 52, .ref 53, .int 0]), .inl (0, 10, .inl (fun _ => 0)), .inl (0, 10, .inl (fun _ => 0)), .inl (0, 10, .inl (fun _ => 0)), .inl (0, 1024, .inl (fun _ => 0)), .inl (0, 1024, .inl (fun _ => 0)), .inl (0, 10, .inl (fun _ => 0)), .inl (0, 6, .inl (fun _ => 0)), .inl (0, 24, .inl (fun _ => 1)), .inl (0, 6, .inl (fun _ => 0)), .inl (0, 2, .inl (fun _ => 0)), .inl (0, 2, .inl (fun _ => 0)), .inl (8, 6, .inr (.inr (.inr (.inr (va_up (va_up (va_up (va_up (va_up (va_up (fun _ => none) (0 : Int32).toNatClampNeg (some 55)) (1 : Int32).toNatClampNeg (some 57)) (2 : Int32).toNatClampNeg (some 59)) (3 : Int32).toNatClampNeg (some 61)) (4 : Int32).toNatClampNeg (some 63)) (5 : Int32).toNatClampNeg (some 65)))))), .inr (8, [.int 0, .int 0, .int 0, .int 0, .ref 56]), .inl (3, 60, .inr (.inl (fun _ => 0))), .inr (8, [.int 0, .int 0, .int 0, .int 0, .ref 58]), .inl (3, 60, .inr (.inl (fun _ => 0))), .inr (8, [.int 0, .int 0, .int 0, .int 0, .ref 60]), .inl (3, 60, .inr (.inl (fun _ => 0))), .inr (8, [.int 0, .int 0, .int 0, .int 0, .ref 62]), .inl (3, 60, .inr (.inl (fun _ => 0))), .inr (8, [.int 0, .int 0, .int 0, .int 0, .ref 64]), .inl (3, 60, .inr (.inl (fun _ => 0))), .inr (8, [.int 0, .int 0, .int 0, .int 0, .ref 66]), .inl (3, 60, .inr (.inl (fun _ => 0)))]
def hM : List aE := [.inr (12, [.int 0, .int 0, .ref 68, .ref 69, .int 0, .ref 70, .ref 71, .ref 72, .ref 73, .ref 74, .ref 75, .ref 76, .ref 77, .ref 78, .ref 79, .ref 80, .ref 81, .ref 82, .ref 83, .ref 84, .ref 85, .int (-1), .int 0, .int 0, .int 0, .int 0, .ref 86, .ref 87, .ref 88, .int 2, .int 0, .ref 89, .ref 90, .ref 91, .ref 92, .ref 93, .ref 94, .int 0, .int 0, .ref 95, .ref 96, .ref 97, .ref 98, .ref 99, .ref 100, .ref 101, .ref 102, .int 0, .int 0, .int 0, .int 0, .int 0, .ref 103, .ref 104, .int 0, .int 0, .int 0, .ref 105, .ref 106, .ref 107, .ref 108, .ref 109, .int 0, .ref 110, .ref 111, .ref 112, .ref 113, .int 0, .ref 114, .ref 115, .ref 116, .ref 117, .int (-1), .ref 118, .int (-1), .ref 119, .int 0, .ref 120, .ref 121, .int 0, .ref 122, .ref 123, .int (-1), .int 0, .ref 124, .ref 125, .ref 126, .int 0, .ref 127, .ref 128, .ref 129, .ref 130, .ref 131, .ref 132, .ref 133]), .inl (0, 1952, .inl (fun _ => 0)), .inl (1, 1952, .inl (fun _ => 0)), .inl (0, 120, .inl (fun _ => 0)), .inl (0, 120, .inl (fun _ => 0)), .inl (0, 120, .inl (fun _ => 0)), .inl (0, 120, .inl (fun _ => 0)), .inl (0, 120, .inl (fun _ => 0)), .inl (0, 120, .inl (fun _ => 0)), .inl (0, 120, .inl (fun _ => 0)), .inl (0, 120, .inl (fun _ => 0)), .inl (0, 7320, .inl (fun _ => 0)), .inl (0, 7320, .inl (fun _ => 0)), .inl (1, 7320, .inl (fun _ => 0)), .inl (0, 7320, .inl (fun _ => 0)), .inl (0, 120, .inl (fun _ => 0)), .inl (0, 120, .inl (fun _ => 0)), .inl (0, 120, .inl (fun _ => 0)), .inl (1, 120, .inl (fun _ => 0)), .inl (0, 3, .inl (fun _ => 20)), .inl (0, 3, .inl (fun _ => (-1))), .inl (0, 3, .inl (fun _ => (-1))), .inl (0, 8, .inl (fun _ => 0)), .inl (0, 8, .inl (fun _ => 0)), .inl (0, 8, .inl (fun _ => 0)), .inl (0, 8, .inl (fun _ => 0)), .inl (0, 320, .inl (fun _ => 0)), .inl (2, 160, .inl (fun _ => 0)), .inl (0, 16, .inl (fun _ => 0)), .inl (0, 16, .inl (fun _ => 0)), .inl (0, 16, .inl (fun _ => 0)), .inl (0, 17, .inl (fun _ => 0)), .inl (0, 1530, .inl (fun _ => 0)), .inl (0, 1530, .inl (fun _ => 0)), .inl (0, 2890, .inl (fun _ => 0)), .inl (0, 2890, .inl (fun _ => 0)), .inl (0, 8, .inl (fun _ => 0)), .inl (0, 170, .inl (fun _ => 0)), .inl (0, 60, .inl (fun _ => 0)), .inl (0, 60, .inl (fun _ => 0)), .inl (1, 120, .inl (fun _ => 0)), .inl (0, 120, .inl (fun _ => 0)), .inl (0, 120, .inl (fun _ => 0)), .inl (0, 40, .inl (fun _ => 0)), .inl (0, 40, .inl (fun _ => 0)), .inl (0, 120, .inl (fun _ => 0)), .inl (0, 10, .inl (fun _ => 0)), .inl (0, 10, .inl (fun _ => 0)), .inl (0, 10, .inl (fun _ => 0)), .inl (0, 10, .inl (fun _ => 0)), .inl (0, 1024, .inl (fun _ => 0)), .inl (0, 10, .inl (fun _ => 0)), .inl (0, 9, .inl (fun _ => 0)), .inl (0, 6, .inl (fun _ => 0)), .inl (0, 24, .inl (fun _ => 1)), .inl (0, 2, .inl (fun _ => 0)), .inl (0, 2, .inl (fun _ => 0)), .inl (0, 120, .inl (fun _ => 0)), .inl (0, 120, .inl (fun _ => 0)), .inl (0, 120, .inl (fun _ => 0)), .inl (0, 24, .inl (fun _ => 0)), .inl (0, 6, .inl (fun _ => (-1))), .inl (0, 6, .inl (fun _ => 0)), .inl (3, 360, .inr (.inl (fun _ => 0))), .inl (1, 360, .inl (fun _ => 0)), .inl (3, 60, .inr (.inl (fun _ => 0))), .inl (1, 60, .inl (fun _ => 0))]
def h0 : List aE := hX ++ hM
theorem h0_0 : h0[0]? = some (.inr (11, [.ref 9, .ref 23, .ref 14, .ref 27, .ref 31, .int 0, .ref 32, .ref 35, .int 0, .ref 36, .ref 37, .ref 38, .ref 42, .ref 54, .int 0, .int 2, .int 0, .int 0, .int 1700])) := rfl
theorem h0_1 : h0[1]? = some (.inr (5, [.ref 10, .ref 11, .ref 12, .ref 13, .int 0])) := rfl
theorem h0_2 : h0[2]? = some (.inl (0, 1920, .inl (fun _ => 3))) := rfl
theorem h0_3 : h0[3]? = some (.inl (0, 1920, .inl (fun _ => 0))) := rfl
theorem h0_4 : h0[4]? = some (.inl (0, 60, .inl (fun _ => 0))) := rfl
theorem h0_5 : h0[5]? = some (.inl (0, 60, .inl (fun _ => 0))) := rfl
theorem h0_6 : h0[6]? = some (.inr (2, [.ref 15, .ref 16, .ref 17, .ref 18, .int 0, .ref 19, .ref 20, .int 0, .ref 21, .ref 22, .int 0, .int 0, .int 0])) := rfl
theorem h0_7 : h0[7]? = some (.inl (0, 120, .inl (fun _ => 0))) := rfl
theorem h0_8 : h0[8]? = some (.inl (0, 120, .inl (fun _ => 0))) := rfl
theorem h0_9 : h0[9]? = some (.inl (0, 120, .inl (fun _ => 0))) := rfl
theorem h0_10 : h0[10]? = some (.inl (0, 120, .inl (fun _ => 0))) := rfl
theorem h0_11 : h0[11]? = some (.inl (0, 120, .inl (fun _ => 0))) := rfl
theorem h0_12 : h0[12]? = some (.inl (0, 9, .inl (fun _ => 0))) := rfl
theorem h0_13 : h0[13]? = some (.inl (0, 120, .inl (fun _ => 0))) := rfl
theorem h0_14 : h0[14]? = some (.inl (0, 120, .inl (fun _ => 0))) := rfl
theorem h0_15 : h0[15]? = some (.inr (0, [.ref 24, .ref 25, .ref 14, .int 0, .int 0, .int (-1), .int 0, .int 0, .int 0, .int 0, .ref 26, .int 0])) := rfl
theorem h0_16 : h0[16]? = some (.inl (0, 120, .inl (fun _ => 0))) := rfl
theorem h0_17 : h0[17]? = some (.inl (4, 120, .inr (.inr (.inr (.inr (fun _ => none)))))) := rfl
theorem h0_18 : h0[18]? = some (.inl (0, 24, .inl (fun _ => 0))) := rfl
theorem h0_19 : h0[19]? = some (.inl (5, 3, .inr (.inr (.inr (.inr (va_up (va_up (va_up (fun _ => none) (0 : Int32).toNatClampNeg (some 28)) (1 : Int32).toNatClampNeg (some 29)) (2 : Int32).toNatClampNeg (some 30))))))) := rfl
theorem h0_20 : h0[20]? = some (.inr (4, [.int 20, .int (-1), .int (-1)])) := rfl
theorem h0_21 : h0[21]? = some (.inr (4, [.int 20, .int (-1), .int (-1)])) := rfl
theorem h0_22 : h0[22]? = some (.inr (4, [.int 20, .int (-1), .int (-1)])) := rfl
theorem h0_23 : h0[23]? = some (.inl (6, 8, .inr (.inr (.inr (.inr (fun _ => none)))))) := rfl
theorem h0_24 : h0[24]? = some (.inr (7, [.ref 33, .int 0, .ref 34, .int 0, .int 0, .int 0])) := rfl
theorem h0_25 : h0[25]? = some (.inl (0, 160, .inl (fun _ => 0))) := rfl
theorem h0_26 : h0[26]? = some (.inl (0, 161, .inl (fun _ => 0))) := rfl
theorem h0_27 : h0[27]? = some (.inl (7, 16, .inr (.inr (.inr (.inr (fun _ => none)))))) := rfl
theorem h0_28 : h0[28]? = some (.inl (0, 8, .inl (fun _ => 0))) := rfl
theorem h0_29 : h0[29]? = some (.inl (0, 64, .inl (fun _ => 0))) := rfl
theorem h0_30 : h0[30]? = some (.inr (9, [.int 0, .int 0, .ref 39, .ref 40, .ref 41, .int 0])) := rfl
theorem h0_31 : h0[31]? = some (.inl (0, 10, .inl (fun _ => 0))) := rfl
theorem h0_32 : h0[32]? = some (.inl (0, 40, .inl (fun _ => 0))) := rfl
theorem h0_33 : h0[33]? = some (.inl (0, 40, .inl (fun _ => 0))) := rfl
theorem h0_34 : h0[34]? = some (.inr (6, [.ref 43, .ref 44, .ref 45, .int 0, .ref 46, .ref 47, .ref 48, .int 0, .ref 49, .int 0, .ref 50, .ref 51, .ref 52, .ref 53, .int 0])) := rfl
theorem h0_35 : h0[35]? = some (.inl (0, 10, .inl (fun _ => 0))) := rfl
theorem h0_36 : h0[36]? = some (.inl (0, 10, .inl (fun _ => 0))) := rfl
theorem h0_37 : h0[37]? = some (.inl (0, 10, .inl (fun _ => 0))) := rfl
theorem h0_38 : h0[38]? = some (.inl (0, 1024, .inl (fun _ => 0))) := rfl
theorem h0_39 : h0[39]? = some (.inl (0, 1024, .inl (fun _ => 0))) := rfl
theorem h0_40 : h0[40]? = some (.inl (0, 10, .inl (fun _ => 0))) := rfl
theorem h0_41 : h0[41]? = some (.inl (0, 6, .inl (fun _ => 0))) := rfl
theorem h0_42 : h0[42]? = some (.inl (0, 24, .inl (fun _ => 1))) := rfl
theorem h0_43 : h0[43]? = some (.inl (0, 6, .inl (fun _ => 0))) := rfl
theorem h0_44 : h0[44]? = some (.inl (0, 2, .inl (fun _ => 0))) := rfl
theorem h0_45 : h0[45]? = some (.inl (0, 2, .inl (fun _ => 0))) := rfl
theorem h0_46 : h0[46]? = some (.inl (8, 6, .inr (.inr (.inr (.inr (va_up (va_up (va_up (va_up (va_up (va_up (fun _ => none) (0 : Int32).toNatClampNeg (some 55)) (1 : Int32).toNatClampNeg (some 57)) (2 : Int32).toNatClampNeg (some 59)) (3 : Int32).toNatClampNeg (some 61)) (4 : Int32).toNatClampNeg (some 63)) (5 : Int32).toNatClampNeg (some 65))))))) := rfl
theorem h0_47 : h0[47]? = some (.inr (8, [.int 0, .int 0, .int 0, .int 0, .ref 56])) := rfl
theorem h0_48 : h0[48]? = some (.inl (3, 60, .inr (.inl (fun _ => 0)))) := rfl
theorem h0_49 : h0[49]? = some (.inr (8, [.int 0, .int 0, .int 0, .int 0, .ref 58])) := rfl
theorem h0_50 : h0[50]? = some (.inl (3, 60, .inr (.inl (fun _ => 0)))) := rfl
theorem h0_51 : h0[51]? = some (.inr (8, [.int 0, .int 0, .int 0, .int 0, .ref 60])) := rfl
theorem h0_52 : h0[52]? = some (.inl (3, 60, .inr (.inl (fun _ => 0)))) := rfl
theorem h0_53 : h0[53]? = some (.inr (8, [.int 0, .int 0, .int 0, .int 0, .ref 62])) := rfl
theorem h0_54 : h0[54]? = some (.inl (3, 60, .inr (.inl (fun _ => 0)))) := rfl
theorem h0_55 : h0[55]? = some (.inr (8, [.int 0, .int 0, .int 0, .int 0, .ref 64])) := rfl
theorem h0_56 : h0[56]? = some (.inl (3, 60, .inr (.inl (fun _ => 0)))) := rfl
theorem h0_57 : h0[57]? = some (.inr (8, [.int 0, .int 0, .int 0, .int 0, .ref 66])) := rfl
theorem h0_58 : h0[58]? = some (.inl (3, 60, .inr (.inl (fun _ => 0)))) := rfl
theorem h0_59 : h0[59]? = some (.inr (12, [.int 0, .int 0, .ref 68, .ref 69, .int 0, .ref 70, .ref 71, .ref 72, .ref 73, .ref 74, .ref 75, .ref 76, .ref 77, .ref 78, .ref 79, .ref 80, .ref 81, .ref 82, .ref 83, .ref 84, .ref 85, .int (-1), .int 0, .int 0, .int 0, .int 0, .ref 86, .ref 87, .ref 88, .int 2, .int 0, .ref 89, .ref 90, .ref 91, .ref 92, .ref 93, .ref 94, .int 0, .int 0, .ref 95, .ref 96, .ref 97, .ref 98, .ref 99, .ref 100, .ref 101, .ref 102, .int 0, .int 0, .int 0, .int 0, .int 0, .ref 103, .ref 104, .int 0, .int 0, .int 0, .ref 105, .ref 106, .ref 107, .ref 108, .ref 109, .int 0, .ref 110, .ref 111, .ref 112, .ref 113, .int 0, .ref 114, .ref 115, .ref 116, .ref 117, .int (-1), .ref 118, .int (-1), .ref 119, .int 0, .ref 120, .ref 121, .int 0, .ref 122, .ref 123, .int (-1), .int 0, .ref 124, .ref 125, .ref 126, .int 0, .ref 127, .ref 128, .ref 129, .ref 130, .ref 131, .ref 132, .ref 133])) := rfl
theorem h0_60 : h0[60]? = some (.inl (0, 1952, .inl (fun _ => 0))) := rfl
theorem h0_61 : h0[61]? = some (.inl (1, 1952, .inl (fun _ => 0))) := rfl
theorem h0_62 : h0[62]? = some (.inl (0, 120, .inl (fun _ => 0))) := rfl
theorem h0_63 : h0[63]? = some (.inl (0, 120, .inl (fun _ => 0))) := rfl
theorem h0_64 : h0[64]? = some (.inl (0, 120, .inl (fun _ => 0))) := rfl
theorem h0_65 : h0[65]? = some (.inl (0, 120, .inl (fun _ => 0))) := rfl
theorem h0_66 : h0[66]? = some (.inl (0, 120, .inl (fun _ => 0))) := rfl
theorem h0_67 : h0[67]? = some (.inl (0, 120, .inl (fun _ => 0))) := rfl
theorem h0_68 : h0[68]? = some (.inl (0, 120, .inl (fun _ => 0))) := rfl
theorem h0_69 : h0[69]? = some (.inl (0, 120, .inl (fun _ => 0))) := rfl
theorem h0_70 : h0[70]? = some (.inl (0, 7320, .inl (fun _ => 0))) := rfl
theorem h0_71 : h0[71]? = some (.inl (0, 7320, .inl (fun _ => 0))) := rfl
theorem h0_72 : h0[72]? = some (.inl (1, 7320, .inl (fun _ => 0))) := rfl
theorem h0_73 : h0[73]? = some (.inl (0, 7320, .inl (fun _ => 0))) := rfl
theorem h0_74 : h0[74]? = some (.inl (0, 120, .inl (fun _ => 0))) := rfl
theorem h0_75 : h0[75]? = some (.inl (0, 120, .inl (fun _ => 0))) := rfl
theorem h0_76 : h0[76]? = some (.inl (0, 120, .inl (fun _ => 0))) := rfl
theorem h0_77 : h0[77]? = some (.inl (1, 120, .inl (fun _ => 0))) := rfl
theorem h0_78 : h0[78]? = some (.inl (0, 3, .inl (fun _ => 20))) := rfl
theorem h0_79 : h0[79]? = some (.inl (0, 3, .inl (fun _ => (-1)))) := rfl
theorem h0_80 : h0[80]? = some (.inl (0, 3, .inl (fun _ => (-1)))) := rfl
theorem h0_81 : h0[81]? = some (.inl (0, 8, .inl (fun _ => 0))) := rfl
theorem h0_82 : h0[82]? = some (.inl (0, 8, .inl (fun _ => 0))) := rfl
theorem h0_83 : h0[83]? = some (.inl (0, 8, .inl (fun _ => 0))) := rfl
theorem h0_84 : h0[84]? = some (.inl (0, 8, .inl (fun _ => 0))) := rfl
theorem h0_85 : h0[85]? = some (.inl (0, 320, .inl (fun _ => 0))) := rfl
theorem h0_86 : h0[86]? = some (.inl (2, 160, .inl (fun _ => 0))) := rfl
theorem h0_87 : h0[87]? = some (.inl (0, 16, .inl (fun _ => 0))) := rfl
theorem h0_88 : h0[88]? = some (.inl (0, 16, .inl (fun _ => 0))) := rfl
theorem h0_89 : h0[89]? = some (.inl (0, 16, .inl (fun _ => 0))) := rfl
theorem h0_90 : h0[90]? = some (.inl (0, 17, .inl (fun _ => 0))) := rfl
theorem h0_91 : h0[91]? = some (.inl (0, 1530, .inl (fun _ => 0))) := rfl
theorem h0_92 : h0[92]? = some (.inl (0, 1530, .inl (fun _ => 0))) := rfl
theorem h0_93 : h0[93]? = some (.inl (0, 2890, .inl (fun _ => 0))) := rfl
theorem h0_94 : h0[94]? = some (.inl (0, 2890, .inl (fun _ => 0))) := rfl
theorem h0_95 : h0[95]? = some (.inl (0, 8, .inl (fun _ => 0))) := rfl
theorem h0_96 : h0[96]? = some (.inl (0, 170, .inl (fun _ => 0))) := rfl
theorem h0_97 : h0[97]? = some (.inl (0, 60, .inl (fun _ => 0))) := rfl
theorem h0_98 : h0[98]? = some (.inl (0, 60, .inl (fun _ => 0))) := rfl
theorem h0_99 : h0[99]? = some (.inl (1, 120, .inl (fun _ => 0))) := rfl
theorem h0_100 : h0[100]? = some (.inl (0, 120, .inl (fun _ => 0))) := rfl
theorem h0_101 : h0[101]? = some (.inl (0, 120, .inl (fun _ => 0))) := rfl
theorem h0_102 : h0[102]? = some (.inl (0, 40, .inl (fun _ => 0))) := rfl
theorem h0_103 : h0[103]? = some (.inl (0, 40, .inl (fun _ => 0))) := rfl
theorem h0_104 : h0[104]? = some (.inl (0, 120, .inl (fun _ => 0))) := rfl
theorem h0_105 : h0[105]? = some (.inl (0, 10, .inl (fun _ => 0))) := rfl
theorem h0_106 : h0[106]? = some (.inl (0, 10, .inl (fun _ => 0))) := rfl
theorem h0_107 : h0[107]? = some (.inl (0, 10, .inl (fun _ => 0))) := rfl
theorem h0_108 : h0[108]? = some (.inl (0, 10, .inl (fun _ => 0))) := rfl
theorem h0_109 : h0[109]? = some (.inl (0, 1024, .inl (fun _ => 0))) := rfl
theorem h0_110 : h0[110]? = some (.inl (0, 10, .inl (fun _ => 0))) := rfl
theorem h0_111 : h0[111]? = some (.inl (0, 9, .inl (fun _ => 0))) := rfl
theorem h0_112 : h0[112]? = some (.inl (0, 6, .inl (fun _ => 0))) := rfl
theorem h0_113 : h0[113]? = some (.inl (0, 24, .inl (fun _ => 1))) := rfl
theorem h0_114 : h0[114]? = some (.inl (0, 2, .inl (fun _ => 0))) := rfl
theorem h0_115 : h0[115]? = some (.inl (0, 2, .inl (fun _ => 0))) := rfl
theorem h0_116 : h0[116]? = some (.inl (0, 120, .inl (fun _ => 0))) := rfl
theorem h0_117 : h0[117]? = some (.inl (0, 120, .inl (fun _ => 0))) := rfl
theorem h0_118 : h0[118]? = some (.inl (0, 120, .inl (fun _ => 0))) := rfl
theorem h0_119 : h0[119]? = some (.inl (0, 24, .inl (fun _ => 0))) := rfl
theorem h0_120 : h0[120]? = some (.inl (0, 6, .inl (fun _ => (-1)))) := rfl
theorem h0_121 : h0[121]? = some (.inl (0, 6, .inl (fun _ => 0))) := rfl
theorem h0_122 : h0[122]? = some (.inl (3, 360, .inr (.inl (fun _ => 0)))) := rfl
theorem h0_123 : h0[123]? = some (.inl (1, 360, .inl (fun _ => 0))) := rfl
theorem h0_124 : h0[124]? = some (.inl (3, 60, .inr (.inl (fun _ => 0)))) := rfl
theorem h0_125 : h0[125]? = some (.inl (1, 60, .inl (fun _ => 0))) := rfl
def Fx (hr : Int32) (h : List aE) : Prop := h[0]? = some (oX hr) ∧ ∀ k, 1 ≤ k → k < 59 → h[k]? = h0[k]?
def Fm (hr : Int32) (h : List aE) : Prop := h[59]? = some (oM hr) ∧ ∀ k, 60 ≤ k → k < 126 → h[k]? = h0[k]?
/-- the reference's cells are as they were -/
def Sm (h h' : List aE) : Prop := ∀ k, 59 ≤ k → k < 126 → h'[k]? = h[k]?
theorem sm_rf {h : List aE} : Sm h h := fun _ _ _ => rfl
theorem sm_set {h h1 h2 : List aE} {q : Nat} {e : aE} (e1 : h1.set q e = h2) (hq : q < 59) (hm : Sm h h1) : Sm h h2 := by
  intro k h3 h4
  rw [← e1, List.getElem?_set_ne (by omega)]
  exact hm k h3 h4
theorem sm_push {h h1 h2 : List aE} {n : Nat} {e : aE} (e1 : h1 ++ [e] = h2) (hl : h1.length = n) (hn : 126 ≤ n) (hm : Sm h h1) : Sm h h2 := by
  intro k h3 h4
  rw [← e1, List.getElem?_append_left (by omega)]
  exact hm k h3 h4
theorem sm_fm {h h' : List aE} {hr : Int32} (hm : Fm hr h) (hs : Sm h h') : Fm hr h' := ⟨(hs 59 (by omega) (by omega)).trans hm.1, fun k h1 h2 => (hs k (by omega) h2).trans (hm.2 k h1 h2)⟩
def inR (v lo hi : Int32) : Prop := ¬ v < lo ∧ ¬ hi < v
def okC (c : Int32) : Prop := ¬ c < 0 ∧ c / 100 < 32 ∧ inR (c % 100) 1 60
def okS (s : Int32) : Prop := ¬ s < 0 ∧ ¬ s % 100 < s / 100 ∧ s % 100 < 32
def okW (w : Int32) : Prop := ¬ w < 0 ∧ ¬ 1 < w / 10 ∧ ¬ 2 < w % 10
def okN (w : Int32) : Prop := (¬ w < 100 ∧ ¬ 999 < w) ∧ ¬ w % 100 = 0
noncomputable def cnd (p : Prop) (a b : Int32) : Int32 := @ite Int32 p (Classical.propDecidable p) a b
theorem okW_iff {w : Int32} : okW w ↔ (inR w 0 12 ∧ ¬ 2 < w % 10) := ow_
theorem okN_iff {w : Int32} : okN w ↔ ((¬ w < 0 ∧ inR (w / 100) 1 9) ∧ ¬ w % 100 = 0) := and_congr nw_ Iff.rfl
theorem sm_set2 {h h1 h2 : List aE} {q : Nat} {e : aE} (e1 : h1.set q e = h2) (hq : 126 ≤ q) (hm : Sm h h1) : Sm h h2 := by
  intro k h3 h4
  rw [← e1, List.getElem?_set_ne (by omega)]
  exact hm k h3 h4
noncomputable def sp_hard (c : Int32) (v : Int32) : Int32 := cnd (okC c ∧ inR v 1 9) (3) (-1)
noncomputable def sp_open (c : Int32) (v : Int32) : Int32 := cnd (okC c ∧ inR v 0 1) (0) (-1)
noncomputable def sp_ofCell (c : Int32) (v : Int32) : Int32 := cnd (okC c ∧ inR v 0 1) (cnd (v = 0) 3 0) (-1)
noncomputable def sp_body (k : Int32) : Int32 := cnd (k = 0 ∨ k = 1) (0) (-1)
noncomputable def sp_hole (k : Int32) (w : Int32) : Int32 := cnd ((inR k 2 5 ∧ ¬ w < 0) ∧ w / 100 < 32 ∧ ¬ w % 100 = 0) (0) (-1)
noncomputable def sp_shelter (s : Int32) (y : Int32) : Int32 := cnd (okS s ∧ inR y 1 60) (0) (-1)
noncomputable def sp_man (s : Int32) (w : Int32) : Int32 := cnd (inR s 0 999 ∧ inR w 0 99) (0) (-1)
noncomputable def sp_ofBody (b : Int32) (w : Int32) : Int32 := -2000000000
noncomputable def sp_ill (m : Int32) (v : Int32) : Int32 := -1
noncomputable def sp_speed (m : Int32) (v : Int32) : Int32 := cnd (inR m 0 2 ∧ inR v 10 60) (20) (-1)
noncomputable def sp_set (m : Int32) (x : Int32) : Int32 := cnd (inR m 0 2 ∧ x = -1) (-1) (-2000000000)
noncomputable def sp_breaks (m : Int32) (t : Int32) : Int32 := cnd (inR m 0 2 ∧ inR t 0 1699) (1) (-1)
noncomputable def sp_yard (b : Int32) (v : Int32) : Int32 := -1
noncomputable def sp_met (b : Int32) (v : Int32) : Int32 := -1
noncomputable def sp_log (b : Int32) (s : Int32) (i : Int32) (y : Int32) (n : Int32) : Int32 := -1
noncomputable def sp_spread (v : Int32) : Int32 := cnd (inR v 0 8) (2) (-1)
noncomputable def sp_canBe (b : Int32) (y : Int32) (w : Int32) : Int32 := -1
noncomputable def sp_map (s : Int32) (y : Int32) : Int32 := cnd (okS s ∧ inR y 1 60) (0) (-1)
noncomputable def sp_old (m : Int32) (c : Int32) : Int32 := -1
noncomputable def sp_wrong (m : Int32) : Int32 := -1
noncomputable def sp_known (w : Int32) : Int32 := cnd (inR w 0 5) (-2) (-1)
noncomputable def sp_feed (n : Int32) (v : Int32) : Int32 := cnd (inR n 1 4) (n) (-1)
noncomputable def sp_text (w : Int32) (t : Int32) : Int32 := cnd (okW w ∧ inR t 0 1699) (-100) (-1)
noncomputable def sp_inForce (w : Int32) (t : Int32) (k : Int32) : Int32 := cnd (okW w ∧ inR t 0 1699 ∧ inR k 0 1699) (-2) (-1)
noncomputable def sp_says (w : Int32) (m : Int32) : Int32 := cnd (okW w ∧ w % 10 = 2 ∧ m = -1) (0) (-2000000000)
noncomputable def sp_hours (n : Int32) : Int32 := cnd (inR n 1 48) (n) (-1)
noncomputable def sp_spoons (v : Int32) : Int32 := cnd (inR v 0 9999) (0) (-1)
noncomputable def sp_move (c : Int32) (t : Int32) : Int32 := cnd (okC c ∧ 0 < t ∧ ¬ 1699 < t) (1) (-1)
noncomputable def sp_last (s : Int32) (n : Int32) : Int32 := cnd (inR s 0 999 ∧ inR n 0 9) (-2) (-1)
noncomputable def sp_best (s : Int32) : Int32 := cnd (inR s 0 999) (-2) (-1)
noncomputable def sp_down (b : Int32) (w : Int32) (t : Int32) : Int32 := -1
noncomputable def sp_below (s : Int32) : Int32 := cnd (inR s 0 9) (0) (-1)
noncomputable def sp_need (w : Int32) (n : Int32) : Int32 := cnd (okN w ∧ inR n 0 99) (1) (-1)
noncomputable def sp_order : Int32 := -1
noncomputable def sp_ordered (i : Int32) : Int32 := -1
noncomputable def sp_watch (p : Int32) (i : Int32) : Int32 := cnd (inR p 1 3 ∧ inR i 0 9) (0) (-1)
noncomputable def sp_watched (s : Int32) (p : Int32) : Int32 := -1
noncomputable def sp_aim (c : Int32) (m : Int32) : Int32 := cnd (inR c 0 31 ∧ inR m 0 9) (1) (-1)
noncomputable def sp_rock (r_ : Int32) (i : Int32) (v : Int32) : Int32 := cnd (inR r_ 0 3 ∧ inR i 0 5 ∧ inR v 1 9) (1) (-1)
noncomputable def sp_aimed (r_ : Int32) (y : Int32) (m : Int32) : Int32 := -1
noncomputable def sp_aimedAt (i : Int32) (w : Int32) : Int32 := -1
noncomputable def sp_race (m : Int32) (y : Int32) (v : Int32) : Int32 := cnd (inR m 0 2 ∧ inR y 1 60 ∧ inR v 1 9) (-2) (-1)
noncomputable def sp_capsule (b : Int32) : Int32 := -1
noncomputable def sp_up (i : Int32) (w : Int32) : Int32 := -1
noncomputable def sp_raise (n : Int32) : Int32 := cnd (inR n 0 199) (-2) (-1)
noncomputable def sp_act (b : Int32) (a : Int32) (v : Int32) : Int32 := 0
noncomputable def sp_trace (i : Int32) : Int32 := -1
noncomputable def sp_keep (s : Int32) (b : Int32) : Int32 := cnd (inR s 0 5 ∧ b = -1) (1) (-1)
noncomputable def sp_row (s : Int32) (t : Int32) (n : Int32) : Int32 := cnd (inR s 0 5 ∧ inR t 0 4 ∧ ¬ 60 < n) (cnd (n < 0) (-14) 1) (-1)
noncomputable def sp_put (s : Int32) (i : Int32) : Int32 := cnd (inR s 0 5) (-11) (-1)
noncomputable def sp_blank (s : Int32) (i : Int32) : Int32 := cnd (inR s 0 5) (-11) (-1)
noncomputable def sp_element (s : Int32) (i : Int32) : Int64 := -9223372036854775808
noncomputable def sp_shift (s : Int32) (i : Int32) (t : Int32) (j : Int32) (n : Int32) : Int32 := cnd (inR s 0 5 ∧ inR t 0 5) (-11) (-1)
noncomputable def sp_taken (s : Int32) (k : Int32) : Int32 := cnd (inR s 0 5 ∧ inR k 0 7) (-11) (-1)
noncomputable def sp_count (w : Int32) : Int32 := cnd (w = 0 ∨ w = 1 ∨ w = 2 ∨ w = 3 ∨ w = 4 ∨ w = 5 ∨ w = 6 ∨ w = 7 ∨ w = 8 ∨ w = 9 ∨ w = 10 ∨ w = 11) (0) (-1)
