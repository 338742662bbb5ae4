/-! THE STEPS over G5, printed -/
theorem s5_hard {s : SS} {c : Nat} (W : G5 c s) (hc : c ≤ 512) (a0 : Int32) (a1 : Int32) : ∃ (rx : Int32) (s1 : SS) (rm : Int32) (s2 : SS), f_X11_hard s a0 a1 = some (rx, s1) ∧ f_X12_hard s1 a0 a1 = some (rm, s2) ∧ G5 (c + 1) s2 ∧ rx = rm := by
  obtain ⟨rx, s1, rm, s2, ex, em, W2, eq⟩ := s4_hard W.1 hc a0 a1
  have F1 : Frm [] [2, 60] [] s s1 := v_X11_hard W.1.1.sh rfl Frm.rf _ ex
  have F2 : Frm [] [2, 60] [] s s2 := v_X12_hard rfl F1 _ em
  exact ⟨rx, s1, rm, s2, ex, em, ⟨W2, W.2.f F2 rfl rfl⟩, eq⟩
theorem s5_open {s : SS} {c : Nat} (W : G5 c s) (hc : c ≤ 512) (a0 : Int32) (a1 : Int32) : ∃ (rx : Int32) (s1 : SS) (rm : Int32) (s2 : SS), f_X11_open s a0 a1 = some (rx, s1) ∧ f_X12_open s1 a0 a1 = some (rm, s2) ∧ G5 (c + 1) s2 ∧ rx = rm := by
  obtain ⟨rx, s1, rm, s2, ex, em, W2, eq⟩ := s4_open W.1 hc a0 a1
  have F1 : Frm [] [3, 61] [] s s1 := v_X11_open W.1.1.sh rfl Frm.rf _ ex
  have F2 : Frm [] [3, 61] [] s s2 := v_X12_open rfl F1 _ em
  exact ⟨rx, s1, rm, s2, ex, em, ⟨W2, W.2.f F2 rfl rfl⟩, eq⟩
theorem s5_ofCell {s : SS} {c : Nat} (W : G5 c s) (hc : c ≤ 512) (a0 : Int32) (a1 : Int32) : ∃ (rx : Int32) (s1 : SS) (rm : Int32) (s2 : SS), f_X11_ofCell s a0 a1 = some rx ∧ f_X12_ofCell s a0 a1 = some rm ∧ G5 (c + 1) s ∧ rx = rm := by
  obtain ⟨rx, s1, rm, s2, ex, em, W2, eq⟩ := s4_ofCell W.1 hc a0 a1
  exact ⟨rx, s1, rm, s2, ex, em, ⟨W2, W.2⟩, eq⟩
theorem s5_body {s : SS} {c : Nat} (W : G5 c s) (hc : c ≤ 512) (a0 : Int32) : ∃ (rx : Int32) (s1 : SS) (rm : Int32) (s2 : SS), f_X11_body s a0 = some (rx, s1) ∧ f_X12_body s1 a0 = some (rm, s2) ∧ G5 (c + 1) s2 ∧ rx = rm := by
  obtain ⟨rx, s1, rm, s2, ex, em, W2, eq⟩ := s4_body W.1 hc a0
  have F1 : Frm [(15, 3), (59, 4)] [16, 62] [] s s1 := v_X11_body W.1.1.sh rfl rfl Frm.rf _ ex
  have F2 : Frm [(15, 3), (59, 4)] [16, 62] [] s s2 := v_X12_body rfl rfl F1 _ em
  exact ⟨rx, s1, rm, s2, ex, em, ⟨W2, W.2.f F2 rfl rfl⟩, eq⟩
theorem s5_hole {s : SS} {c : Nat} (W : G5 c s) (hc : c ≤ 512) (a0 : Int32) (a1 : Int32) : ∃ (rx : Int32) (s1 : SS) (rm : Int32) (s2 : SS), f_X11_hole s a0 a1 = some (rx, s1) ∧ f_X12_hole s1 a0 a1 = some (rm, s2) ∧ G5 (c + 1) s2 ∧ rx = rm := by
  obtain ⟨rx, s1, rm, s2, ex, em, W2, eq⟩ := s4_hole W.1 hc a0 a1
  have m := (K_hole W.1.1.sh a0 a1 _ ex).1
  have h : cZ s s1 := Z_hole W.1.1.sh a0 a1 _ ex
  have F2 : Frm [(59, 4)] [62, 63, 64, 65] [] s1 s2 := v_X12_hole rfl rfl rfl rfl rfl Frm.rf _ em
  exact ⟨rx, s1, rm, s2, ex, em, ⟨W2, (W.2.e h m.mZ).f F2 rfl rfl⟩, eq⟩
theorem s5_shelter {s : SS} {c : Nat} (W : G5 c s) (hc : c ≤ 512) (a0 : Int32) (a1 : Int32) : ∃ (rx : Int32) (s1 : SS) (rm : Int32) (s2 : SS), f_X11_shelter s a0 a1 = some (rx, s1) ∧ f_X12_shelter s1 a0 a1 = some (rm, s2) ∧ G5 (c + 1) s2 ∧ rx = rm := by
  obtain ⟨rx, s1, rm, s2, ex, em, W2, eq⟩ := s4_shelter W.1 hc a0 a1
  have F1 : Frm [(15, 3), (15, 5), (15, 6), (15, 7), (15, 8), (59, 4), (59, 21), (59, 22), (59, 23), (59, 24)] [16, 62] [] s s1 := v_X11_shelter W.1.1.sh rfl rfl rfl rfl rfl rfl Frm.rf _ ex
  have F2 : Frm [(15, 3), (15, 5), (15, 6), (15, 7), (15, 8), (59, 4), (59, 21), (59, 22), (59, 23), (59, 24)] [16, 62] [] s s2 := v_X12_shelter rfl rfl rfl rfl rfl rfl F1 _ em
  exact ⟨rx, s1, rm, s2, ex, em, ⟨W2, W.2.f F2 rfl rfl⟩, eq⟩
theorem s5_man {s : SS} {c : Nat} (W : G5 c s) (hc : c ≤ 512) (a0 : Int32) (a1 : Int32) : ∃ (rx : Int32) (s1 : SS) (rm : Int32) (s2 : SS), f_X11_man s a0 a1 = some (rx, s1) ∧ f_X12_man s1 a0 a1 = some (rm, s2) ∧ G5 (c + 1) s2 ∧ rx = rm := by
  obtain ⟨rx, s1, rm, s2, ex, em, W2, eq⟩ := s4_man W.1 hc a0 a1
  have F1 : Frm [(6, 4), (15, 3), (59, 4)] [7, 8, 9, 10, 16, 62, 74, 75, 76, 77] [] s s1 := v_X11_man W.1.1.sh rfl rfl rfl rfl rfl rfl rfl Frm.rf _ ex
  have F2 : Frm [(6, 4), (15, 3), (59, 4)] [7, 8, 9, 10, 16, 62, 74, 75, 76, 77] [] s s2 := v_X12_man rfl rfl rfl rfl rfl rfl F1 _ em
  exact ⟨rx, s1, rm, s2, ex, em, ⟨W2, W.2.f F2 rfl rfl⟩, eq⟩
theorem s5_ofBody {s : SS} {c : Nat} (W : G5 c s) (hc : c ≤ 512) (a0 : Int32) (a1 : Int32) : ∃ (rx : Int32) (s1 : SS) (rm : Int32) (s2 : SS), f_X11_ofBody s a0 a1 = some rx ∧ f_X12_ofBody s a0 a1 = some rm ∧ G5 (c + 1) s ∧ rx = rm := by
  obtain ⟨rx, s1, rm, s2, ex, em, W2, eq⟩ := s4_ofBody W.1 hc a0 a1
  exact ⟨rx, s1, rm, s2, ex, em, ⟨W2, W.2⟩, eq⟩
theorem s5_ill {s : SS} {c : Nat} (W : G5 c s) (hc : c ≤ 512) (a0 : Int32) (a1 : Int32) : ∃ (rx : Int32) (s1 : SS) (rm : Int32) (s2 : SS), f_X11_ill s a0 a1 = some (rx, s1) ∧ f_X12_ill s1 a0 a1 = some (rm, s2) ∧ G5 (c + 1) s2 ∧ rx = rm := by
  obtain ⟨rx, s1, rm, s2, ex, em, W2, eq⟩ := s4_ill W.1 hc a0 a1
  have F1 : Frm [] [9, 76] [] s s1 := v_X11_ill W.1.1.sh rfl Frm.rf _ ex
  have F2 : Frm [] [9, 76] [] s s2 := v_X12_ill rfl F1 _ em
  exact ⟨rx, s1, rm, s2, ex, em, ⟨W2, W.2.f F2 rfl rfl⟩, eq⟩
theorem s5_speed {s : SS} {c : Nat} (W : G5 c s) (hc : c ≤ 512) (a0 : Int32) (a1 : Int32) : ∃ (rx : Int32) (s1 : SS) (rm : Int32) (s2 : SS), f_X11_speed s a0 a1 = some (rx, s1) ∧ f_X12_speed s1 a0 a1 = some (rm, s2) ∧ G5 (c + 1) s2 ∧ rx = rm := by
  obtain ⟨rx, s1, rm, s2, ex, em, W2, eq⟩ := s4_speed W.1 hc a0 a1
  have F1 : Frm [(20, 0), (21, 0), (22, 0)] [78] [] s s1 := v_X11_speed W.1.1.sh (fun p h => by rcases h with rfl | rfl | rfl <;> rfl) Frm.rf _ ex
  have F2 : Frm [(20, 0), (21, 0), (22, 0)] [78] [] s s2 := v_X12_speed rfl F1 _ em
  exact ⟨rx, s1, rm, s2, ex, em, ⟨W2, W.2.f F2 rfl rfl⟩, eq⟩
theorem s5_set {s : SS} {c : Nat} (W : G5 c s) (hc : c ≤ 512) (a0 : Int32) (a1 : Int32) : ∃ (rx : Int32) (s1 : SS) (rm : Int32) (s2 : SS), f_X11_set s a0 a1 = some (rx, s1) ∧ f_X12_set s1 a0 a1 = some (rm, s2) ∧ G5 (c + 1) s2 ∧ rx = rm := by
  obtain ⟨rx, s1, rm, s2, ex, em, W2, eq⟩ := s4_set W.1 hc a0 a1
  have F1 : Frm [(20, 1), (21, 1), (22, 1)] [79] [] s s1 := v_X11_set W.1.1.sh (fun p h => by rcases h with rfl | rfl | rfl <;> rfl) Frm.rf _ ex
  have F2 : Frm [(20, 1), (21, 1), (22, 1)] [79] [] s s2 := v_X12_set rfl F1 _ em
  exact ⟨rx, s1, rm, s2, ex, em, ⟨W2, W.2.f F2 rfl rfl⟩, eq⟩
theorem s5_breaks {s : SS} {c : Nat} (W : G5 c s) (hc : c ≤ 512) (a0 : Int32) (a1 : Int32) : ∃ (rx : Int32) (s1 : SS) (rm : Int32) (s2 : SS), f_X11_breaks s a0 a1 = some (rx, s1) ∧ f_X12_breaks s1 a0 a1 = some (rm, s2) ∧ G5 (c + 1) s2 ∧ rx = rm := by
  obtain ⟨rx, s1, rm, s2, ex, em, W2, eq⟩ := s4_breaks W.1 hc a0 a1
  have F1 : Frm [(20, 2), (21, 2), (22, 2)] [80] [] s s1 := v_X11_breaks W.1.1.sh (fun p h => by rcases h with rfl | rfl | rfl <;> rfl) Frm.rf _ ex
  have F2 : Frm [(20, 2), (21, 2), (22, 2)] [80] [] s s2 := v_X12_breaks rfl F1 _ em
  exact ⟨rx, s1, rm, s2, ex, em, ⟨W2, W.2.f F2 rfl rfl⟩, eq⟩
theorem s5_yard {s : SS} {c : Nat} (W : G5 c s) (hc : c ≤ 512) (a0 : Int32) (a1 : Int32) : ∃ (rx : Int32) (s1 : SS) (rm : Int32) (s2 : SS), f_X11_yard s a0 a1 = some (rx, s1) ∧ f_X12_yard s1 a0 a1 = some (rm, s2) ∧ G5 (c + 1) s2 ∧ rx = rm := by
  obtain ⟨rx, s1, rm, s2, ex, em, W2, eq⟩ := s4_yard W.1 hc a0 a1
  have m := (K_yard W.1.1.sh a0 a1 _ ex).1
  have h : cZ s s1 := (Z_yard W.1.1.sh a0 a1 _ ex).1
  have F2 : Frm [] [66, 70] [] s1 s2 := v_X12_yard rfl rfl Frm.rf _ em
  exact ⟨rx, s1, rm, s2, ex, em, ⟨W2, (W.2.e h m.mZ).f F2 rfl rfl⟩, eq⟩
theorem s5_met {s : SS} {c : Nat} (W : G5 c s) (hc : c ≤ 512) (a0 : Int32) (a1 : Int32) : ∃ (rx : Int32) (s1 : SS) (rm : Int32) (s2 : SS), f_X11_met s a0 a1 = some rx ∧ f_X12_met s a0 a1 = some rm ∧ G5 (c + 1) s ∧ rx = rm := by
  obtain ⟨rx, s1, rm, s2, ex, em, W2, eq⟩ := s4_met W.1 hc a0 a1
  exact ⟨rx, s1, rm, s2, ex, em, ⟨W2, W.2⟩, eq⟩
theorem s5_log {s : SS} {c : Nat} (W : G5 c s) (hc : c ≤ 512) (a0 : Int32) (a1 : Int32) (a2 : Int32) (a3 : Int32) (a4 : Int32) : ∃ (rx : Int32) (s1 : SS) (rm : Int32) (s2 : SS), f_X11_log s a0 a1 a2 a3 a4 = some (rx, s1) ∧ f_X12_log s1 a0 a1 a2 a3 a4 = some (rm, s2) ∧ G5 (c + 1) s2 ∧ rx = rm := by
  obtain ⟨rx, s1, rm, s2, ex, em, W2, eq⟩ := s4_log W.1 hc a0 a1 a2 a3 a4
  have m := (K_log W.1.1.sh a0 a1 a2 a3 a4 _ ex).1
  have h : cZ s s1 := (Z_log W.1.1.sh a0 a1 a2 a3 a4 _ ex).1
  have F2 : Frm [] [72, 73] [] s1 s2 := v_X12_log rfl rfl Frm.rf _ em
  exact ⟨rx, s1, rm, s2, ex, em, ⟨W2, (W.2.e h m.mZ).f F2 rfl rfl⟩, eq⟩
theorem s5_spread {s : SS} {c : Nat} (W : G5 c s) (hc : c ≤ 512) (a0 : Int32) : ∃ (rx : Int32) (s1 : SS) (rm : Int32) (s2 : SS), f_X11_spread s a0 = some (rx, s1) ∧ f_X12_spread s1 a0 = some (rm, s2) ∧ G5 (c + 1) s2 ∧ rx = rm := by
  obtain ⟨rx, s1, rm, s2, ex, em, W2, eq⟩ := s4_spread W.1 hc a0
  have F1 : Frm [(0, 15), (59, 29)] [] [] s s1 := v_X11_spread W.1.1.sh rfl Frm.rf _ ex
  have F2 : Frm [(0, 15), (59, 29)] [] [] s s2 := v_X12_spread rfl F1 _ em
  exact ⟨rx, s1, rm, s2, ex, em, ⟨W2, W.2.f F2 rfl rfl⟩, eq⟩
theorem s5_canBe {s : SS} {c : Nat} (W : G5 c s) (hc : c ≤ 512) (a0 : Int32) (a1 : Int32) (a2 : Int32) : ∃ (rx : Int32) (s1 : SS) (rm : Int32) (s2 : SS), f_X11_canBe s a0 a1 a2 = some rx ∧ f_X12_canBe s a0 a1 a2 = some rm ∧ G5 (c + 1) s ∧ rx = rm := by
  obtain ⟨rx, s1, rm, s2, ex, em, W2, eq⟩ := s4_canBe W.1 hc a0 a1 a2
  exact ⟨rx, s1, rm, s2, ex, em, ⟨W2, W.2⟩, eq⟩
theorem s5_map {s : SS} {c : Nat} (W : G5 c s) (hc : c ≤ 512) (a0 : Int32) (a1 : Int32) : ∃ (rx : Int32) (s1 : SS) (rm : Int32) (s2 : SS), f_X11_map s a0 a1 = some (rx, s1) ∧ f_X12_map s1 a0 a1 = some (rm, s2) ∧ G5 (c + 1) s2 ∧ rx = rm := by
  obtain ⟨rx, s1, rm, s2, ex, em, W2, eq⟩ := s4_map W.1 hc a0 a1
  have m := (K_map W.1.1.sh a0 a1 _ ex).1
  have h : cZ s s1 := Z_map W.1.1.sh a0 a1 _ ex
  have F2 : Frm [(59, 30)] [81, 82, 83] [] s1 s2 := v_X12_map rfl rfl rfl rfl Frm.rf _ em
  exact ⟨rx, s1, rm, s2, ex, em, ⟨W2, (W.2.e h m.mZ).f F2 rfl rfl⟩, eq⟩
theorem s5_old {s : SS} {c : Nat} (W : G5 c s) (hc : c ≤ 512) (a0 : Int32) (a1 : Int32) : ∃ (rx : Int32) (s1 : SS) (rm : Int32) (s2 : SS), f_X11_old s a0 a1 = some (rx, s1) ∧ f_X12_old s1 a0 a1 = some (rm, s2) ∧ G5 (c + 1) s2 ∧ rx = rm := by
  obtain ⟨rx, s1, rm, s2, ex, em, W2, eq⟩ := s4_old W.1 hc a0 a1
  have m := (K_old W.1.1.sh a0 a1 _ ex).1
  have h : cZ s s1 := (Z_old W.1.1.sh a0 a1 _ ex).1
  have F2 : Frm [] [84, 85] [] s1 s2 := v_X12_old rfl rfl Frm.rf _ em
  exact ⟨rx, s1, rm, s2, ex, em, ⟨W2, (W.2.e h m.mZ).f F2 rfl rfl⟩, eq⟩
theorem s5_wrong {s : SS} {c : Nat} (W : G5 c s) (hc : c ≤ 512) (a0 : Int32) : ∃ (rx : Int32) (s1 : SS) (rm : Int32) (s2 : SS), f_X11_wrong s a0 = some rx ∧ f_X12_wrong s a0 = some rm ∧ G5 (c + 1) s ∧ rx = rm := by
  obtain ⟨rx, s1, rm, s2, ex, em, W2, eq⟩ := s4_wrong W.1 hc a0
  exact ⟨rx, s1, rm, s2, ex, em, ⟨W2, W.2⟩, eq⟩
theorem s5_known {s : SS} {c : Nat} (W : G5 c s) (hc : c ≤ 512) (a0 : Int32) : ∃ (rx : Int32) (s1 : SS) (rm : Int32) (s2 : SS), f_X11_known s a0 = some rx ∧ f_X12_known s a0 = some rm ∧ G5 (c + 1) s ∧ rx = rm := by
  obtain ⟨rx, s1, rm, s2, ex, em, W2, eq⟩ := s4_known W.1 hc a0
  exact ⟨rx, s1, rm, s2, ex, em, ⟨W2, W.2⟩, eq⟩
theorem s5_feed {s : SS} {c : Nat} (W : G5 c s) (hc : c ≤ 512) (a0 : Int32) (a1 : Int32) : ∃ (rx : Int32) (s1 : SS) (rm : Int32) (s2 : SS), f_X11_feed s a0 a1 = some (rx, s1) ∧ f_X12_feed s1 a0 a1 = some (rm, s2) ∧ G5 (c + 1) s2 ∧ rx = rm := by
  obtain ⟨rx, s1, rm, s2, ex, em, W2, eq⟩ := s4_feed W.1 hc a0 a1
  have F1 : Frm [(24, 1), (59, 37)] [25, 86] [] s s1 := v_X11_feed W.1.1.sh rfl rfl Frm.rf _ ex
  have F2 : Frm [(24, 1), (59, 37)] [25, 86] [] s s2 := v_X12_feed rfl rfl F1 _ em
  exact ⟨rx, s1, rm, s2, ex, em, ⟨W2, W.2.f F2 rfl rfl⟩, eq⟩
theorem s5_text {s : SS} {c : Nat} (W : G5 c s) (hc : c ≤ 512) (a0 : Int32) (a1 : Int32) : ∃ (rx : Int32) (s1 : SS) (rm : Int32) (s2 : SS), f_X11_text s a0 a1 = some (rx, s1) ∧ f_X12_text s1 a0 a1 = some (rm, s2) ∧ G5 (c + 1) s2 ∧ rx = rm := by
  obtain ⟨rx, s1, rm, s2, ex, em, W2, eq⟩ := s4_text W.1 hc a0 a1
  obtain ⟨T, e8⟩ := W.1.1.1.2.2.2.2
  have b38 : 0 ≤ (zS s 59 38).toInt ∧ (zS s 59 38).toInt ≤ 16 := W.1.1.1.1.1.f (q := 59) (k := 38) rfl
  have m := (K_textX W.1.1.sh T b38 e8 a0 a1 (rx, s1) ex).1
  have h : cZ s s1 := Z_textX W.1.1.sh T b38 e8 a0 a1 (rx, s1) ex
  obtain ⟨k1, k2, -⟩ := K_textM a0 a1 (rm, s2) em
  have k1 : ∀ q k, ¬ (q = 59 ∧ (k = 37 ∨ k = 38 ∨ (47 ≤ k ∧ k ≤ 51))) → zS s2 q k = zS s1 q k := k1
  have k2 : ∀ q i, q < 87 ∨ 94 < q → zI s2 q i = zI s1 q i := k2
  exact ⟨rx, s1, rm, s2, ex, em, ⟨W2, (W.2.e h m.mZ).e ⟨⟨k1 6 7 (by omega), fun k => k1 34 k (by omega)⟩, fun q j g => k2 q j (by omega)⟩ ⟨fun k g => k1 59 k (by omega), fun q j g => k2 q j (by omega)⟩⟩, eq⟩
theorem s5_inForce {s : SS} {c : Nat} (W : G5 c s) (hc : c ≤ 512) (a0 : Int32) (a1 : Int32) (a2 : Int32) : ∃ (rx : Int32) (s1 : SS) (rm : Int32) (s2 : SS), f_X11_inForce s a0 a1 a2 = some rx ∧ f_X12_inForce s a0 a1 a2 = some rm ∧ G5 (c + 1) s ∧ rx = rm := by
  obtain ⟨rx, s1, rm, s2, ex, em, W2, eq⟩ := s4_inForce W.1 hc a0 a1 a2
  exact ⟨rx, s1, rm, s2, ex, em, ⟨W2, W.2⟩, eq⟩
theorem s5_says {s : SS} {c : Nat} (W : G5 c s) (hc : c ≤ 512) (a0 : Int32) (a1 : Int32) : ∃ (rx : Int32) (s1 : SS) (rm : Int32) (s2 : SS), f_X11_says s a0 a1 = some (rx, s1) ∧ f_X12_says s1 a0 a1 = some (rm, s2) ∧ G5 (c + 1) s2 ∧ rx = rm := by
  obtain ⟨rx, s1, rm, s2, ex, em, W2, eq⟩ := s4_says W.1 hc a0 a1
  have F1 : Frm [] [28, 29, 95, 96] [] s s1 := v_X11_says W.1.1.sh rfl rfl Frm.rf _ ex
  have F2 : Frm [] [28, 29, 95, 96] [] s s2 := v_X12_says rfl rfl F1 _ em
  exact ⟨rx, s1, rm, s2, ex, em, ⟨W2, W.2.f F2 rfl rfl⟩, eq⟩
theorem s5_hours {s : SS} {c : Nat} (W : G5 c s) (hc : c ≤ 512) (a0 : Int32) : ∃ (rx : Int32) (s1 : SS) (rm : Int32) (s2 : SS), f_X11_hours s a0 = some (rx, s1) ∧ f_X12_hours s1 a0 = some (rm, s2) ∧ G5 (c + 1) s2 ∧ rx = rm := by
  obtain ⟨rx, s1, rm, s2, ex, em, W2, eq⟩ := s4_hours W.1 hc a0
  have m := (K_hours W.1.1.sh a0 _ ex).1
  have h : cZ s s1 := (Z_hours W.1.1.sh a0 _ ex).1
  have F2 : Frm [(59, 1), (59, 25), (59, 54), (59, 55), (59, 62)] [60, 61, 65, 67, 68, 69, 71, 74, 95, 96, 99, 100, 102, 103, 105] [] s1 s2 := v_X12_hours rfl rfl rfl rfl rfl rfl rfl rfl rfl rfl rfl rfl rfl rfl rfl rfl rfl rfl rfl rfl Frm.rf _ em
  exact ⟨rx, s1, rm, s2, ex, em, ⟨W2, (W.2.e h m.mZ).f F2 rfl rfl⟩, eq⟩
theorem s5_spoons {s : SS} {c : Nat} (W : G5 c s) (hc : c ≤ 512) (a0 : Int32) : ∃ (rx : Int32) (s1 : SS) (rm : Int32) (s2 : SS), f_X11_spoons s a0 = some (rx, s1) ∧ f_X12_spoons s1 a0 = some (rm, s2) ∧ G5 (c + 1) s2 ∧ rx = rm := by
  obtain ⟨rx, s1, rm, s2, ex, em, W2, eq⟩ := s4_spoons W.1 hc a0
  have F1 : Frm [(30, 0), (59, 54)] [] [] s s1 := v_X11_spoons W.1.1.sh rfl Frm.rf _ ex
  have F2 : Frm [(30, 0), (59, 54)] [] [] s s2 := v_X12_spoons rfl F1 _ em
  exact ⟨rx, s1, rm, s2, ex, em, ⟨W2, W.2.f F2 rfl rfl⟩, eq⟩
theorem s5_move {s : SS} {c : Nat} (W : G5 c s) (hc : c ≤ 512) (a0 : Int32) (a1 : Int32) : ∃ (rx : Int32) (s1 : SS) (rm : Int32) (s2 : SS), f_X11_move s a0 a1 = some (rx, s1) ∧ f_X12_move s1 a0 a1 = some (rm, s2) ∧ G5 (c + 1) s2 ∧ rx = rm := by
  obtain ⟨rx, s1, rm, s2, ex, em, W2, eq⟩ := s4_move W.1 hc a0 a1
  have F1 : Frm [(1, 4), (59, 56)] [4, 5, 97, 98] [] s s1 := v_X11_move W.1.1.sh rfl rfl rfl Frm.rf _ ex
  have F2 : Frm [(1, 4), (59, 56)] [4, 5, 97, 98] [] s s2 := v_X12_move rfl rfl rfl F1 _ em
  exact ⟨rx, s1, rm, s2, ex, em, ⟨W2, W.2.f F2 rfl rfl⟩, eq⟩
theorem s5_last {s : SS} {c : Nat} (W : G5 c s) (hc : c ≤ 512) (a0 : Int32) (a1 : Int32) : ∃ (rx : Int32) (s1 : SS) (rm : Int32) (s2 : SS), f_X11_last s a0 a1 = some (rx, s1) ∧ f_X12_last s1 a0 a1 = some (rm, s2) ∧ G5 (c + 1) s2 ∧ True := by
  obtain ⟨rx, s1, rm, s2, ex, em, W2, eq⟩ := s4_last W.1 hc a0 a1
  have F1 : Frm [] [11, 101] [] s s1 := v_X11_last W.1.1.sh rfl Frm.rf _ ex
  have F2 : Frm [] [11, 101] [] s s2 := v_X12_last rfl F1 _ em
  exact ⟨rx, s1, rm, s2, ex, em, ⟨W2, W.2.f F2 rfl rfl⟩, eq⟩
theorem s5_best {s : SS} {c : Nat} (W : G5 c s) (hc : c ≤ 512) (a0 : Int32) : ∃ (rx : Int32) (s1 : SS) (rm : Int32) (s2 : SS), f_X11_best s a0 = some (rx, s1) ∧ f_X12_best s1 a0 = some (rm, s2) ∧ G5 (c + 1) s2 ∧ True := by
  obtain ⟨rx, s1, rm, s2, ex, em, W2, eq⟩ := s4_best W.1 hc a0
  have F1 : Frm [] [11, 101] [] s s1 := v_X11_best W.1.1.sh rfl Frm.rf _ ex
  have F2 : Frm [] [11, 101] [] s s2 := v_X12_best rfl F1 _ em
  exact ⟨rx, s1, rm, s2, ex, em, ⟨W2, W.2.f F2 rfl rfl⟩, eq⟩
theorem s5_down {s : SS} {c : Nat} (W : G5 c s) (hc : c ≤ 512) (a0 : Int32) (a1 : Int32) (a2 : Int32) : ∃ (rx : Int32) (s1 : SS) (rm : Int32) (s2 : SS), f_X11_down s a0 a1 a2 = some (rx, s1) ∧ f_X12_down s1 a0 a1 a2 = some (rm, s2) ∧ G5 (c + 1) s2 ∧ rx = rm := by
  obtain ⟨rx, s1, rm, s2, ex, em, W2, eq⟩ := s4_down W.1 hc a0 a1 a2
  have m := (K_down W.1.1.sh a0 a1 a2 _ ex).1
  have h : cZ s s1 := (Z_down W.1.1.sh a0 a1 a2 _ ex).1
  have F2 : Frm [(59, 62)] [102, 103, 104] [] s1 s2 := v_X12_down rfl rfl rfl rfl Frm.rf _ em
  exact ⟨rx, s1, rm, s2, ex, em, ⟨W2, (W.2.e h m.mZ).f F2 rfl rfl⟩, eq⟩
theorem s5_below {s : SS} {c : Nat} (W : G5 c s) (hc : c ≤ 512) (a0 : Int32) : ∃ (rx : Int32) (s1 : SS) (rm : Int32) (s2 : SS), f_X11_below s a0 = some rx ∧ f_X12_below s a0 = some rm ∧ G5 (c + 1) s ∧ rx = rm := by
  obtain ⟨rx, s1, rm, s2, ex, em, W2, eq⟩ := s4_below W.1 hc a0
  exact ⟨rx, s1, rm, s2, ex, em, ⟨W2, W.2⟩, eq⟩
theorem s5_need {s : SS} {c : Nat} (W : G5 c s) (hc : c ≤ 512) (a0 : Int32) (a1 : Int32) : ∃ (rx : Int32) (s1 : SS) (rm : Int32) (s2 : SS), f_X11_need s a0 a1 = some (rx, s1) ∧ f_X12_need s1 a0 a1 = some (rm, s2) ∧ G5 (c + 1) s2 ∧ rx = rm := by
  obtain ⟨rx, s1, rm, s2, ex, em, W2, eq⟩ := s4_need W.1 hc a0 a1
  have F1 : Frm [(34, 3), (59, 67)] [35, 36, 37, 106, 107, 108] [] s s1 := v_X11_need W.1.1.sh rfl rfl rfl rfl Frm.rf _ ex
  have F2 : Frm [(34, 3), (59, 67)] [35, 36, 37, 106, 107, 108] [] s s2 := v_X12_need rfl rfl rfl rfl F1 _ em
  have m := (show Frm [(34, 3)] [35, 36, 37] [] s s1 from v_X11_need W.1.1.sh rfl rfl rfl rfl Frm.rf _ ex).ms rfl
  have k := (show Frm [(59, 67)] [106, 107, 108] [] s1 s2 from v_X12_need rfl rfl rfl rfl Frm.rf _ em).cs rfl
  obtain ⟨e, hN⟩ := L_need (W.2.2.2.1.m m) a0 a1 (rx, s1) ex (rm, s2) em
  exact ⟨rx, s1, rm, s2, ex, em, ⟨W2, W.2.1.f F2 rfl rfl, W.2.2.1.f F2 rfl rfl, hN.k k, W.2.2.2.2.f F2 rfl rfl⟩, e⟩
theorem s5_order {s : SS} {c : Nat} (W : G5 c s) (hc : c ≤ 512) : ∃ (rx : Int32) (s1 : SS) (rm : Int32) (s2 : SS), f_X11_order s = some (rx, s1) ∧ f_X12_order s1 = some (rm, s2) ∧ G5 (c + 1) s2 ∧ rx = rm := by
  obtain ⟨rx, s1, rm, s2, ex, em, W2, -⟩ := s4_order W.1 hc
  have F1 : Frm [(34, 3), (34, 7), (59, 67), (59, 72)] [38, 39, 40, 109, 110] [] s s1 := v_X11_order W.1.1.sh rfl rfl rfl rfl rfl Frm.rf _ ex
  have F2 : Frm [(34, 3), (34, 7), (59, 67), (59, 72)] [38, 39, 40, 109, 110] [] s s2 := v_X12_order rfl rfl rfl rfl F1 _ em
  have m := (show Frm [(34, 3), (34, 7)] [38, 39, 40] [] s s1 from v_X11_order W.1.1.sh rfl rfl rfl rfl rfl Frm.rf _ ex).ms rfl
  have k := (show Frm [(59, 67), (59, 72)] [109, 110] [] s1 s2 from v_X12_order rfl rfl rfl rfl Frm.rf _ em).cs rfl
  obtain ⟨e, hN, hO⟩ := L_order ((m.2.1 109 0 (by omega) (by omega)).trans W.1.1.1.1.1.2.2) (W.2.2.2.1.m m) (W.2.2.2.2.m m) (rx, s1) ex (rm, s2) em
  exact ⟨rx, s1, rm, s2, ex, em, ⟨W2, W.2.1.f F2 rfl rfl, W.2.2.1.f F2 rfl rfl, hN.k k, hO.k k⟩, e⟩
theorem s5_ordered {s : SS} {c : Nat} (W : G5 c s) (hc : c ≤ 512) (a0 : Int32) : ∃ (rx : Int32) (s1 : SS) (rm : Int32) (s2 : SS), f_X11_ordered s a0 = some rx ∧ f_X12_ordered s a0 = some rm ∧ G5 (c + 1) s ∧ rx = rm := by
  obtain ⟨rx, s1, rm, s2, ex, em, W2, -⟩ := s4_ordered W.1 hc a0
  exact ⟨rx, s1, rm, s2, ex, em, ⟨W2, W.2⟩, V_ordered W.2.2.2.2 a0 rx ex rm em⟩
theorem s5_watch {s : SS} {c : Nat} (W : G5 c s) (hc : c ≤ 512) (a0 : Int32) (a1 : Int32) : ∃ (rx : Int32) (s1 : SS) (rm : Int32) (s2 : SS), f_X11_watch s a0 a1 = some (rx, s1) ∧ f_X12_watch s1 a0 a1 = some (rm, s2) ∧ G5 (c + 1) s2 ∧ rx = rm := by
  obtain ⟨rx, s1, rm, s2, ex, em, W2, -⟩ := s4_watch W.1 hc a0 a1
  have F1 : Frm [(6, 7), (59, 74)] [12, 111] [] s s1 := v_X11_watch W.1.1.sh rfl rfl Frm.rf _ ex
  have F2 : Frm [(6, 7), (59, 74)] [12, 111] [] s s2 := v_X12_watch rfl rfl F1 _ em
  have m := (show Frm [(6, 7)] [12] [] s s1 from v_X11_watch W.1.1.sh rfl rfl Frm.rf _ ex).ms rfl
  have k := (show Frm [(59, 74)] [111] [] s1 s2 from v_X12_watch rfl rfl Frm.rf _ em).cs rfl
  obtain ⟨e, hW⟩ := L_watch (W.1.b1 m) (W.1.q4 m).2.1 (W.2.1.m m) a0 a1 (rx, s1) ex (rm, s2) em
  exact ⟨rx, s1, rm, s2, ex, em, ⟨W2, hW.k k, W.2.2.1.f F2 rfl rfl, W.2.2.2.1.f F2 rfl rfl, W.2.2.2.2.f F2 rfl rfl⟩, e⟩
theorem s5_watched {s : SS} {c : Nat} (W : G5 c s) (hc : c ≤ 512) (a0 : Int32) (a1 : Int32) : ∃ (rx : Int32) (s1 : SS) (rm : Int32) (s2 : SS), f_X11_watched s a0 a1 = some rx ∧ f_X12_watched s a0 a1 = some rm ∧ G5 (c + 1) s ∧ rx = rm := by
  obtain ⟨rx, s1, rm, s2, ex, em, W2, -⟩ := s4_watched W.1 hc a0 a1
  exact ⟨rx, s1, rm, s2, ex, em, ⟨W2, W.2⟩, V_watched W.2.1 a0 a1 rx ex rm em⟩
theorem s5_aim {s : SS} {c : Nat} (W : G5 c s) (hc : c ≤ 512) (a0 : Int32) (a1 : Int32) : ∃ (rx : Int32) (s1 : SS) (rm : Int32) (s2 : SS), f_X11_aim s a0 a1 = some (rx, s1) ∧ f_X12_aim s1 a0 a1 = some (rm, s2) ∧ G5 (c + 1) s2 ∧ rx = rm := by
  obtain ⟨rx, s1, rm, s2, ex, em, W2, eq⟩ := s4_aim W.1 hc a0 a1
  have F1 : Frm [(34, 9), (59, 76)] [41, 112] [] s s1 := v_X11_aim W.1.1.sh rfl rfl Frm.rf _ ex
  have F2 : Frm [(34, 9), (59, 76)] [41, 112] [] s s2 := v_X12_aim rfl rfl F1 _ em
  have m := (show Frm [(34, 9)] [41] [] s s1 from v_X11_aim W.1.1.sh rfl rfl Frm.rf _ ex).ms rfl
  have k := (show Frm [(59, 76)] [112] [] s1 s2 from v_X12_aim rfl rfl Frm.rf _ em).cs rfl
  obtain ⟨e, hA⟩ := L_aim (W.2.2.1.m m) a0 a1 (rx, s1) ex (rm, s2) em
  exact ⟨rx, s1, rm, s2, ex, em, ⟨W2, W.2.1.f F2 rfl rfl, hA.k k, W.2.2.2.1.f F2 rfl rfl, W.2.2.2.2.f F2 rfl rfl⟩, e⟩
theorem s5_rock {s : SS} {c : Nat} (W : G5 c s) (hc : c ≤ 512) (a0 : Int32) (a1 : Int32) (a2 : Int32) : ∃ (rx : Int32) (s1 : SS) (rm : Int32) (s2 : SS), f_X11_rock s a0 a1 a2 = some (rx, s1) ∧ f_X12_rock s1 a0 a1 a2 = some (rm, s2) ∧ G5 (c + 1) s2 ∧ rx = rm := by
  obtain ⟨rx, s1, rm, s2, ex, em, W2, eq⟩ := s4_rock W.1 hc a0 a1 a2
  have F1 : Frm [] [42, 113] [] s s1 := v_X11_rock W.1.1.sh rfl Frm.rf _ ex
  have F2 : Frm [] [42, 113] [] s s2 := v_X12_rock rfl F1 _ em
  have m := (show Frm [] [42] [] s s1 from v_X11_rock W.1.1.sh rfl Frm.rf _ ex).ms rfl
  have k := (show Frm [] [113] [] s1 s2 from v_X12_rock rfl Frm.rf _ em).cs rfl
  obtain ⟨e, hA⟩ := L_rock (W.2.2.1.m m) a0 a1 a2 (rx, s1) ex (rm, s2) em
  exact ⟨rx, s1, rm, s2, ex, em, ⟨W2, W.2.1.f F2 rfl rfl, hA.k k, W.2.2.2.1.f F2 rfl rfl, W.2.2.2.2.f F2 rfl rfl⟩, e⟩
theorem s5_aimed {s : SS} {c : Nat} (W : G5 c s) (hc : c ≤ 512) (a0 : Int32) (a1 : Int32) (a2 : Int32) : ∃ (rx : Int32) (s1 : SS) (rm : Int32) (s2 : SS), f_X11_aimed s a0 a1 a2 = some (rx, s1) ∧ f_X12_aimed s1 a0 a1 a2 = some (rm, s2) ∧ G5 (c + 1) s2 ∧ rx = rm := by
  obtain ⟨rx, s1, rm, s2, ex, em, W2, -⟩ := s4_aimed W.1 hc a0 a1 a2
  have F1 : Frm [(34, 9), (34, 14), (59, 76), (59, 79)] [43, 44, 45, 114, 115] [] s s1 := v_X11_aimed W.1.1.sh rfl rfl rfl rfl rfl Frm.rf _ ex
  have F2 : Frm [(34, 9), (34, 14), (59, 76), (59, 79)] [43, 44, 45, 114, 115] [] s s2 := v_X12_aimed rfl rfl rfl rfl F1 _ em
  have m := (show Frm [(34, 9), (34, 14)] [43, 44, 45] [] s s1 from v_X11_aimed W.1.1.sh rfl rfl rfl rfl rfl Frm.rf _ ex).ms rfl
  have k := (show Frm [(59, 76), (59, 79)] [114, 115] [] s1 s2 from v_X12_aimed rfl rfl rfl rfl Frm.rf _ em).cs rfl
  obtain ⟨e, hA⟩ := L_aimed W.1.1.sh (fun i hi => ((W.1.b1 m).1.2.2.2.1 i hi).1) (fun i hi => by rw [m.2.1 78 i (by omega) (by omega)]; exact W.1.2.1.1.1 i hi) (W.2.2.1.m m) a0 a1 a2 (rx, s1) ex (rm, s2) em
  exact ⟨rx, s1, rm, s2, ex, em, ⟨W2, W.2.1.f F2 rfl rfl, hA.k k, W.2.2.2.1.f F2 rfl rfl, W.2.2.2.2.f F2 rfl rfl⟩, e⟩
theorem s5_aimedAt {s : SS} {c : Nat} (W : G5 c s) (hc : c ≤ 512) (a0 : Int32) (a1 : Int32) : ∃ (rx : Int32) (s1 : SS) (rm : Int32) (s2 : SS), f_X11_aimedAt s a0 a1 = some rx ∧ f_X12_aimedAt s a0 a1 = some rm ∧ G5 (c + 1) s ∧ rx = rm := by
  obtain ⟨rx, s1, rm, s2, ex, em, W2, -⟩ := s4_aimedAt W.1 hc a0 a1
  exact ⟨rx, s1, rm, s2, ex, em, ⟨W2, W.2⟩, V_aimedAt W.2.2.1 a0 a1 rx ex rm em⟩
theorem s5_race {s : SS} {c : Nat} (W : G5 c s) (hc : c ≤ 512) (a0 : Int32) (a1 : Int32) (a2 : Int32) : ∃ (rx : Int32) (s1 : SS) (rm : Int32) (s2 : SS), f_X11_race s a0 a1 a2 = some rx ∧ f_X12_race s a0 a1 a2 = some rm ∧ G5 (c + 1) s ∧ rx = rm := by
  obtain ⟨rx, s1, rm, s2, ex, em, W2, eq⟩ := s4_race W.1 hc a0 a1 a2
  exact ⟨rx, s1, rm, s2, ex, em, ⟨W2, W.2⟩, eq⟩
theorem s5_capsule {s : SS} {c : Nat} (W : G5 c s) (hc : c ≤ 512) (a0 : Int32) : ∃ (rx : Int32) (s1 : SS) (rm : Int32) (s2 : SS), f_X11_capsule s a0 = some (rx, s1) ∧ f_X12_capsule s1 a0 = some (rm, s2) ∧ G5 (c + 1) s2 ∧ rx = rm := by
  obtain ⟨rx, s1, rm, s2, ex, em, W2, eq⟩ := s4_capsule W.1 hc a0
  have F1 : Frm [(6, 10), (6, 11), (6, 12), (59, 82), (59, 83)] [13, 14, 28, 29, 95, 96, 116, 117, 118] [] s s1 := v_X11_capsule W.1.1.sh rfl rfl rfl rfl rfl rfl rfl Frm.rf _ ex
  have F2 : Frm [(6, 10), (6, 11), (6, 12), (59, 82), (59, 83)] [13, 14, 28, 29, 95, 96, 116, 117, 118] [] s s2 := v_X12_capsule rfl rfl rfl rfl rfl rfl rfl F1 _ em
  exact ⟨rx, s1, rm, s2, ex, em, ⟨W2, W.2.f F2 rfl rfl⟩, eq⟩
theorem s5_up {s : SS} {c : Nat} (W : G5 c s) (hc : c ≤ 512) (a0 : Int32) (a1 : Int32) : ∃ (rx : Int32) (s1 : SS) (rm : Int32) (s2 : SS), f_X11_up s a0 a1 = some rx ∧ f_X12_up s a0 a1 = some rm ∧ G5 (c + 1) s ∧ rx = rm := by
  obtain ⟨rx, s1, rm, s2, ex, em, W2, eq⟩ := s4_up W.1 hc a0 a1
  exact ⟨rx, s1, rm, s2, ex, em, ⟨W2, W.2⟩, eq⟩
theorem s5_raise {s : SS} {c : Nat} (W : G5 c s) (hc : c ≤ 512) (a0 : Int32) : ∃ (rx : Int32) (s1 : SS) (rm : Int32) (s2 : SS), f_X11_raise s a0 = some (rx, s1) ∧ f_X12_raise s1 a0 = some (rm, s2) ∧ G5 (c + 1) s2 ∧ rx = rm := by
  obtain ⟨rx, s1, rm, s2, ex, em, W2, eq⟩ := s4_raise W.1 hc a0
  have F1 : Frm [(6, 4)] [10, 77] [] s s1 := v_X11_raise W.1.1.sh rfl rfl Frm.rf _ ex
  have F2 : Frm [(6, 4)] [10, 77] [] s s2 := v_X12_raise rfl F1 _ em
  exact ⟨rx, s1, rm, s2, ex, em, ⟨W2, W.2.f F2 rfl rfl⟩, eq⟩
theorem s5_act {s : SS} {c : Nat} (W : G5 c s) (hc : c ≤ 512) (a0 : Int32) (a1 : Int32) (a2 : Int32) : ∃ (rx : Int32) (s1 : SS) (rm : Int32) (s2 : SS), f_X11_act s a0 a1 a2 = some (rx, s1) ∧ f_X12_act s1 a0 a1 a2 = some (rm, s2) ∧ G5 (c + 1) s2 ∧ rx = rm := by
  obtain ⟨rx, s1, rm, s2, ex, em, W2, eq⟩ := s4_act W.1 hc a0 a1 a2
  have F1 : Frm [(15, 11), (59, 87)] [18, 119] [] s s1 := v_X11_act W.1.1.sh rfl rfl Frm.rf _ ex
  have F2 : Frm [(15, 11), (59, 87)] [18, 119] [] s s2 := v_X12_act rfl rfl F1 _ em
  exact ⟨rx, s1, rm, s2, ex, em, ⟨W2, W.2.f F2 rfl rfl⟩, eq⟩
theorem s5_trace {s : SS} {c : Nat} (W : G5 c s) (hc : c ≤ 512) (a0 : Int32) : ∃ (rx : Int32) (s1 : SS) (rm : Int32) (s2 : SS), f_X11_trace s a0 = some rx ∧ f_X12_trace s a0 = some rm ∧ G5 (c + 1) s ∧ rx = rm := by
  obtain ⟨rx, s1, rm, s2, ex, em, W2, eq⟩ := s4_trace W.1 hc a0
  exact ⟨rx, s1, rm, s2, ex, em, ⟨W2, W.2⟩, eq⟩
theorem s5_keep {s : SS} {c : Nat} (W : G5 c s) (hc : c ≤ 512) (a0 : Int32) (a1 : Int32) : ∃ (rx : Int32) (s1 : SS) (rm : Int32) (s2 : SS), f_X11_keep s a0 a1 = some (rx, s1) ∧ f_X12_keep s1 a0 a1 = some (rm, s2) ∧ G5 (c + 1) s2 ∧ rx = rm := by
  obtain ⟨rx, s1, rm, s2, ex, em, W2, eq⟩ := s4_keep W.1 hc a0 a1
  have F1 : Frm [(47, 0), (49, 0), (51, 0), (53, 0), (55, 0), (57, 0), (47, 1), (49, 1), (51, 1), (53, 1), (55, 1), (57, 1)] [120] [] s s1 := v_X11_keep W.1.1.sh (fun p h => by rcases h with rfl | rfl | rfl | rfl | rfl | rfl <;> rfl) (fun p h => by rcases h with rfl | rfl | rfl | rfl | rfl | rfl <;> rfl) Frm.rf _ ex
  have F2 : Frm [(47, 0), (49, 0), (51, 0), (53, 0), (55, 0), (57, 0), (47, 1), (49, 1), (51, 1), (53, 1), (55, 1), (57, 1)] [120] [] s s2 := v_X12_keep rfl F1 _ em
  exact ⟨rx, s1, rm, s2, ex, em, ⟨W2, W.2.f F2 rfl rfl⟩, eq⟩
theorem s5_row {s : SS} {c : Nat} (W : G5 c s) (hc : c ≤ 512) (a0 : Int32) (a1 : Int32) (a2 : Int32) : ∃ (rx : Int32) (s1 : SS) (rm : Int32) (s2 : SS), f_X11_row s a0 a1 a2 = some (rx, s1) ∧ f_X12_row s1 a0 a1 a2 = some (rm, s2) ∧ G5 (c + 1) s2 ∧ rx = rm := by
  obtain ⟨rx, s1, rm, s2, ex, em, W2, eq⟩ := s4_row W.1 hc a0 a1 a2
  have F1 : Frm [(47, 0), (49, 0), (51, 0), (53, 0), (55, 0), (57, 0), (47, 2), (49, 2), (51, 2), (53, 2), (55, 2), (57, 2), (47, 3), (49, 3), (51, 3), (53, 3), (55, 3), (57, 3)] [120, 121, 123] [48, 50, 52, 54, 56, 58, 122] s s1 := v_X11_row W.1.1.sh (fun p h => by rcases h with rfl | rfl | rfl | rfl | rfl | rfl <;> rfl) (fun p h => by rcases h with rfl | rfl | rfl | rfl | rfl | rfl <;> rfl) (fun p h => by rcases h with rfl | rfl | rfl | rfl | rfl | rfl <;> rfl) (fun p h => by rcases h with rfl | rfl | rfl | rfl | rfl | rfl <;> rfl) Frm.rf _ ex
  have F2 : Frm [(47, 0), (49, 0), (51, 0), (53, 0), (55, 0), (57, 0), (47, 2), (49, 2), (51, 2), (53, 2), (55, 2), (57, 2), (47, 3), (49, 3), (51, 3), (53, 3), (55, 3), (57, 3)] [120, 121, 123] [48, 50, 52, 54, 56, 58, 122] s s2 := v_X12_row rfl rfl rfl rfl F1 _ em
  exact ⟨rx, s1, rm, s2, ex, em, ⟨W2, W.2.f F2 rfl rfl⟩, eq⟩
theorem s5_put {s : SS} {c : Nat} (W : G5 c s) (hc : c ≤ 512) (a0 : Int32) (a1 : Int32) (a2 : Int64) : ∃ (rx : Int32) (s1 : SS) (rm : Int32) (s2 : SS), f_X11_put s a0 a1 a2 = some (rx, s1) ∧ f_X12_put s1 a0 a1 a2 = some (rm, s2) ∧ G5 (c + 1) s2 ∧ rx = rm := by
  obtain ⟨rx, s1, rm, s2, ex, em, W2, eq⟩ := s4_put W.1 hc a0 a1 a2
  have F1 : Frm [] [123] [48, 50, 52, 54, 56, 58, 122] s s1 := v_X11_put W.1.1.sh (fun p h => by rcases h with rfl | rfl | rfl | rfl | rfl | rfl <;> rfl) Frm.rf _ ex
  have F2 : Frm [] [123] [48, 50, 52, 54, 56, 58, 122] s s2 := v_X12_put rfl rfl F1 _ em
  exact ⟨rx, s1, rm, s2, ex, em, ⟨W2, W.2.f F2 rfl rfl⟩, eq⟩
theorem s5_blank {s : SS} {c : Nat} (W : G5 c s) (hc : c ≤ 512) (a0 : Int32) (a1 : Int32) : ∃ (rx : Int32) (s1 : SS) (rm : Int32) (s2 : SS), f_X11_blank s a0 a1 = some (rx, s1) ∧ f_X12_blank s1 a0 a1 = some (rm, s2) ∧ G5 (c + 1) s2 ∧ rx = rm := by
  obtain ⟨rx, s1, rm, s2, ex, em, W2, eq⟩ := s4_blank W.1 hc a0 a1
  have F1 : Frm [] [123] [48, 50, 52, 54, 56, 58] s s1 := v_X11_blank W.1.1.sh (fun p h => by rcases h with rfl | rfl | rfl | rfl | rfl | rfl <;> rfl) Frm.rf _ ex
  have F2 : Frm [] [123] [48, 50, 52, 54, 56, 58] s s2 := v_X12_blank rfl F1 _ em
  exact ⟨rx, s1, rm, s2, ex, em, ⟨W2, W.2.f F2 rfl rfl⟩, eq⟩
theorem s5_element {s : SS} {c : Nat} (W : G5 c s) (hc : c ≤ 512) (a0 : Int32) (a1 : Int32) : ∃ (rx : Int64) (s1 : SS) (rm : Int64) (s2 : SS), f_X11_element s a0 a1 = some rx ∧ f_X12_element s a0 a1 = some rm ∧ G5 (c + 1) s ∧ rx = rm := by
  obtain ⟨rx, s1, rm, s2, ex, em, W2, eq⟩ := s4_element W.1 hc a0 a1
  exact ⟨rx, s1, rm, s2, ex, em, ⟨W2, W.2⟩, eq⟩
theorem s5_shift {s : SS} {c : Nat} (W : G5 c s) (hc : c ≤ 512) (a0 : Int32) (a1 : Int32) (a2 : Int32) (a3 : Int32) (a4 : Int32) : ∃ (rx : Int32) (s1 : SS) (rm : Int32) (s2 : SS), f_X11_shift s a0 a1 a2 a3 a4 = some (rx, s1) ∧ f_X12_shift s1 a0 a1 a2 a3 a4 = some (rm, s2) ∧ G5 (c + 1) s2 ∧ rx = rm := by
  obtain ⟨rx, s1, rm, s2, ex, em, W2, eq⟩ := s4_shift W.1 hc a0 a1 a2 a3 a4
  have F1 : Frm [] [123, 125] [48, 50, 52, 54, 56, 58, 122, 124] s s1 := v_X11_shift W.1.1.sh (fun p h => by rcases h with rfl | rfl | rfl | rfl | rfl | rfl <;> rfl) Frm.rf _ ex
  have F2 : Frm [] [123, 125] [48, 50, 52, 54, 56, 58, 122, 124] s s2 := v_X12_shift rfl rfl rfl rfl F1 _ em
  exact ⟨rx, s1, rm, s2, ex, em, ⟨W2, W.2.f F2 rfl rfl⟩, eq⟩
theorem s5_taken {s : SS} {c : Nat} (W : G5 c s) (hc : c ≤ 512) (a0 : Int32) (a1 : Int32) : ∃ (rx : Int32) (s1 : SS) (rm : Int32) (s2 : SS), f_X11_taken s a0 a1 = some rx ∧ f_X12_taken s a0 a1 = some rm ∧ G5 (c + 1) s ∧ rx = rm := by
  obtain ⟨rx, s1, rm, s2, ex, em, W2, eq⟩ := s4_taken W.1 hc a0 a1
  exact ⟨rx, s1, rm, s2, ex, em, ⟨W2, W.2⟩, eq⟩
theorem s5_count {s : SS} {c : Nat} (W : G5 c s) (hc : c ≤ 512) (a0 : Int32) : ∃ (rx : Int32) (s1 : SS) (rm : Int32) (s2 : SS), f_X11_count s a0 = some rx ∧ f_X12_count s a0 = some rm ∧ G5 (c + 1) s ∧ rx = rm := by
  obtain ⟨rx, s1, rm, s2, ex, em, W2, eq⟩ := s4_count W.1 hc a0
  exact ⟨rx, s1, rm, s2, ex, em, ⟨W2, W.2⟩, eq⟩
