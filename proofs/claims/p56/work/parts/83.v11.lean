/-! THE STEPS, printed -/
theorem s4_hard {s : SS} {c : Nat} (W : GW c s) (hc : c ≤ 512) (a0 : Int32) (a1 : Int32) : ∃ (rx : Int32) (s1 : SS) (rm : Int32) (s2 : SS), f_X11_hard s a0 a1 = some (rx, s1) ∧ f_X12_hard s1 a0 a1 = some (rm, s2) ∧ GW (c + 1) s2 ∧ rx = rm := by
  obtain ⟨rx, s1, rm, s2, ex, em, G2, eq⟩ := st_hard W.1.1 a0 a1
  have F1 : Frm [] [2, 60] [] s s1 := v_X11_hard W.1.sh rfl Frm.rf _ ex
  have Fm : Frm [] [2, 60] [] s s2 := v_X12_hard rfl F1 _ em
  have F2 : Frm [] [60] [] s1 s2 := v_X12_hard rfl Frm.rf _ em
  have F0 : Frm [] [2] [] s s1 := v_X11_hard W.1.sh rfl Frm.rf _ ex
  have m := F0.ms rfl
  have N2 : ∀ j, 0 ≤ (zI s1 2 j).toInt ∧ (zI s1 2 j).toInt ≤ 9 := N_hard W.2.1.1.2 a0 a1 (rx, s1) ex
  exact ⟨rx, s1, rm, s2, ex, em, ⟨W.1.go G2 Fm rfl rfl rfl, ⟨⟨(fun i hi => by rw [Fm.2.1 78 i rfl]; exact W.2.1.1.1 i hi), (fun j => by rw [F2.2.1 2 j rfl]; exact N2 j)⟩, ⟨fun j => by rw [Fm.2.1 73 j rfl]; exact W.2.1.2.1.1 j, (by rw [Fm.1 59 29 rfl]; exact W.2.1.2.1.2.1), fun n => by rw [Fm.2.1 63 n rfl]; exact W.2.1.2.1.2.2 n⟩, fun i hi => by rw [Fm.2.1 80 i rfl]; exact W.2.1.2.2.1 i hi, W.2.1.2.2.2.f Fm rfl⟩, W.2.2.u (fun j => Fm.2.1 104 j rfl)⟩, eq⟩
theorem s4_open {s : SS} {c : Nat} (W : GW c s) (hc : c ≤ 512) (a0 : Int32) (a1 : Int32) : ∃ (rx : Int32) (s1 : SS) (rm : Int32) (s2 : SS), f_X11_open s a0 a1 = some (rx, s1) ∧ f_X12_open s1 a0 a1 = some (rm, s2) ∧ GW (c + 1) s2 ∧ rx = rm := by
  obtain ⟨rx, s1, rm, s2, ex, em, G2, eq⟩ := st_open W.1.1 a0 a1
  have F1 : Frm [] [3, 61] [] s s1 := v_X11_open W.1.sh rfl Frm.rf _ ex
  have F2 : Frm [] [3, 61] [] s s2 := v_X12_open rfl F1 _ em
  exact ⟨rx, s1, rm, s2, ex, em, W.go G2 F2 rfl rfl rfl rfl rfl, eq⟩
theorem s4_ofCell {s : SS} {c : Nat} (W : GW c s) (hc : c ≤ 512) (a0 : Int32) (a1 : Int32) : ∃ (rx : Int32) (s1 : SS) (rm : Int32) (s2 : SS), f_X11_ofCell s a0 a1 = some rx ∧ f_X12_ofCell s a0 a1 = some rm ∧ GW (c + 1) s ∧ rx = rm := by
  obtain ⟨rx, s1, rm, s2, ex, em, G2, eq⟩ := st_ofCell W.1.1 a0 a1
  exact ⟨rx, s1, rm, s2, ex, em, W.rd, eq⟩
theorem s4_body {s : SS} {c : Nat} (W : GW c s) (hc : c ≤ 512) (a0 : Int32) : ∃ (rx : Int32) (s1 : SS) (rm : Int32) (s2 : SS), f_X11_body s a0 = some (rx, s1) ∧ f_X12_body s1 a0 = some (rm, s2) ∧ GW (c + 1) s2 ∧ rx = rm := by
  obtain ⟨rx, s1, rm, s2, ex, em, G2, -⟩ := st_body W.1.1 a0
  have F1 : Frm [(15, 3)] [16] [] s s1 := v_X11_body W.1.sh rfl rfl Frm.rf _ ex
  have F2 : Frm [(59, 4)] [62] [] s1 s2 := v_X12_body rfl rfl Frm.rf _ em
  have m := F1.ms rfl
  obtain ⟨eq, h⟩ := L_body (W.b1 m) (W.q4 m) a0 (rx, s1) ex (rm, s2) em
  exact ⟨rx, s1, rm, s2, ex, em, W.two m (fun j => F1.2.1 2 j rfl) F2 rfl G2 h rfl rfl, eq⟩
theorem s4_hole {s : SS} {c : Nat} (W : GW c s) (hc : c ≤ 512) (a0 : Int32) (a1 : Int32) : ∃ (rx : Int32) (s1 : SS) (rm : Int32) (s2 : SS), f_X11_hole s a0 a1 = some (rx, s1) ∧ f_X12_hole s1 a0 a1 = some (rm, s2) ∧ GW (c + 1) s2 ∧ rx = rm := by
  obtain ⟨rx, s1, rm, s2, ex, em, G2, -⟩ := st_hole W.1.1 a0 a1
  obtain ⟨m, e2⟩ := K_hole W.1.sh a0 a1 _ ex
  have F2 : Frm [(59, 4)] [62, 63, 64, 65] [] s1 s2 := v_X12_hole rfl rfl rfl rfl rfl Frm.rf _ em
  obtain ⟨eq, h⟩ := L_hole (W.b1 m) (W.q4 m) a0 a1 (rx, s1) ex (rm, s2) em
  have X1 : GX s1 := W.2.1.e e2 (fun j => m.2.1 63 j (by omega) (by omega)) (fun j => m.2.1 73 j (by omega) (by omega)) (fun j => m.2.1 78 j (by omega) (by omega)) (fun j => m.2.1 80 j (by omega) (by omega)) (m.1 59 25 (by omega) (by omega)) (m.1 59 29 (by omega) (by omega))
  have N63 : ∀ n, 0 ≤ (zI s2 63 n).toInt ∧ (zI s2 63 n).toInt ≤ 31 := N_hole X1.2.1.2.2 a0 a1 (rm, s2) em
  exact ⟨rx, s1, rm, s2, ex, em, ⟨GQ.fin G2 h (F2.cs rfl) G2.1.1.1.1, ⟨⟨fun i hi => by rw [F2.2.1 78 i rfl]; exact X1.1.1 i hi, fun j => by rw [F2.2.1 2 j rfl]; exact X1.1.2 j⟩, ⟨fun j => by rw [F2.2.1 73 j rfl]; exact X1.2.1.1 j, by rw [F2.1 59 29 rfl]; exact X1.2.1.2.1, N63⟩, fun i hi => by rw [F2.2.1 80 i rfl]; exact X1.2.2.1 i hi, X1.2.2.2.f F2 rfl⟩, W.2.2.u (fun j => (F2.2.1 104 j rfl).trans (m.2.1 104 j (by omega) (by omega)))⟩, eq⟩
theorem s4_shelter {s : SS} {c : Nat} (W : GW c s) (hc : c ≤ 512) (a0 : Int32) (a1 : Int32) : ∃ (rx : Int32) (s1 : SS) (rm : Int32) (s2 : SS), f_X11_shelter s a0 a1 = some (rx, s1) ∧ f_X12_shelter s1 a0 a1 = some (rm, s2) ∧ GW (c + 1) s2 ∧ rx = rm := by
  obtain ⟨rx, s1, rm, s2, ex, em, G2, -⟩ := st_shelter W.1.1 a0 a1
  have F1 : Frm [(15, 3), (15, 5), (15, 6), (15, 7), (15, 8)] [16] [] s s1 := v_X11_shelter W.1.sh rfl rfl rfl rfl rfl rfl Frm.rf _ ex
  have F2 : Frm [(59, 4), (59, 21), (59, 22), (59, 23), (59, 24)] [62] [] s1 s2 := v_X12_shelter rfl rfl rfl rfl rfl rfl Frm.rf _ em
  have m := F1.ms rfl
  obtain ⟨eq, h⟩ := L_shelter (W.b1 m) (W.q4 m) a0 a1 (rx, s1) ex (rm, s2) em
  exact ⟨rx, s1, rm, s2, ex, em, W.two m (fun j => F1.2.1 2 j rfl) F2 rfl G2 h rfl rfl, eq⟩
theorem s4_man {s : SS} {c : Nat} (W : GW c s) (hc : c ≤ 512) (a0 : Int32) (a1 : Int32) : ∃ (rx : Int32) (s1 : SS) (rm : Int32) (s2 : SS), f_X11_man s a0 a1 = some (rx, s1) ∧ f_X12_man s1 a0 a1 = some (rm, s2) ∧ GW (c + 1) s2 ∧ rx = rm := by
  obtain ⟨rx, s1, rm, s2, ex, em, G2, -⟩ := st_man W.1.1 a0 a1
  have F1 : Frm [(6, 4), (15, 3)] [7, 8, 9, 10, 16] [] s s1 := v_X11_man W.1.sh rfl rfl rfl rfl rfl rfl rfl Frm.rf _ ex
  have F2 : Frm [(59, 4)] [62, 74, 75, 76, 77] [] s1 s2 := v_X12_man rfl rfl rfl rfl rfl rfl Frm.rf _ em
  have m := F1.ms rfl
  obtain ⟨eq, h⟩ := L_man (W.b1 m) (W.q4 m) a0 a1 (rx, s1) ex (rm, s2) em
  exact ⟨rx, s1, rm, s2, ex, em, W.two m (fun j => F1.2.1 2 j rfl) F2 rfl G2 h rfl rfl, eq⟩
theorem s4_ofBody {s : SS} {c : Nat} (W : GW c s) (hc : c ≤ 512) (a0 : Int32) (a1 : Int32) : ∃ (rx : Int32) (s1 : SS) (rm : Int32) (s2 : SS), f_X11_ofBody s a0 a1 = some rx ∧ f_X12_ofBody s a0 a1 = some rm ∧ GW (c + 1) s ∧ rx = rm := by
  obtain ⟨rx, s1, rm, s2, ex, em, G2, -⟩ := st_ofBody W.1.1 a0 a1
  exact ⟨rx, s1, rm, s2, ex, em, W.rd, V_ofBody W.1.1.1.1 W.1.1.B1 W.1.2 W.2.1.2.2.2 a0 a1 rx ex rm em⟩
theorem s4_ill {s : SS} {c : Nat} (W : GW c s) (hc : c ≤ 512) (a0 : Int32) (a1 : Int32) : ∃ (rx : Int32) (s1 : SS) (rm : Int32) (s2 : SS), f_X11_ill s a0 a1 = some (rx, s1) ∧ f_X12_ill s1 a0 a1 = some (rm, s2) ∧ GW (c + 1) s2 ∧ rx = rm := by
  obtain ⟨rx, s1, rm, s2, ex, em, G2, eq⟩ := st_ill W.1.1 a0 a1
  have F1 : Frm [] [9, 76] [] s s1 := v_X11_ill W.1.sh rfl Frm.rf _ ex
  have F2 : Frm [] [9, 76] [] s s2 := v_X12_ill rfl F1 _ em
  exact ⟨rx, s1, rm, s2, ex, em, W.go G2 F2 rfl rfl rfl rfl rfl, eq⟩
theorem s4_speed {s : SS} {c : Nat} (W : GW c s) (hc : c ≤ 512) (a0 : Int32) (a1 : Int32) : ∃ (rx : Int32) (s1 : SS) (rm : Int32) (s2 : SS), f_X11_speed s a0 a1 = some (rx, s1) ∧ f_X12_speed s1 a0 a1 = some (rm, s2) ∧ GW (c + 1) s2 ∧ rx = rm := by
  obtain ⟨rx, s1, rm, s2, ex, em, G2, eq⟩ := st_speed W.1.1 a0 a1
  have F1 : Frm [(20, 0), (21, 0), (22, 0)] [78] [] s s1 := v_X11_speed W.1.sh (fun p h => by rcases h with rfl | rfl | rfl <;> rfl) Frm.rf _ ex
  have Fm : Frm [(20, 0), (21, 0), (22, 0)] [78] [] s s2 := v_X12_speed rfl F1 _ em
  have F2 : Frm [] [78] [] s1 s2 := v_X12_speed rfl Frm.rf _ em
  have F0 : Frm [(20, 0), (21, 0), (22, 0)] [] [] s s1 := v_X11_speed W.1.sh (fun p h => by rcases h with rfl | rfl | rfl <;> rfl) Frm.rf _ ex
  have m := F0.ms rfl
  have N78 : ∀ i, i < 3 → 0 ≤ (zI s2 78 i).toInt ∧ (zI s2 78 i).toInt ≤ 60 := N_speed (fun i hi => by rw [m.2.1 78 i (by omega) (by omega)]; exact W.2.1.1.1 i hi) a0 a1 (rm, s2) em
  exact ⟨rx, s1, rm, s2, ex, em, ⟨W.1.go G2 Fm rfl rfl rfl, ⟨⟨N78, (fun j => by rw [Fm.2.1 2 j rfl]; exact W.2.1.1.2 j)⟩, ⟨fun j => by rw [Fm.2.1 73 j rfl]; exact W.2.1.2.1.1 j, (by rw [Fm.1 59 29 rfl]; exact W.2.1.2.1.2.1), fun n => by rw [Fm.2.1 63 n rfl]; exact W.2.1.2.1.2.2 n⟩, fun i hi => by rw [Fm.2.1 80 i rfl]; exact W.2.1.2.2.1 i hi, W.2.1.2.2.2.f Fm rfl⟩, W.2.2.u (fun j => Fm.2.1 104 j rfl)⟩, eq⟩
theorem s4_set {s : SS} {c : Nat} (W : GW c s) (hc : c ≤ 512) (a0 : Int32) (a1 : Int32) : ∃ (rx : Int32) (s1 : SS) (rm : Int32) (s2 : SS), f_X11_set s a0 a1 = some (rx, s1) ∧ f_X12_set s1 a0 a1 = some (rm, s2) ∧ GW (c + 1) s2 ∧ rx = rm := by
  obtain ⟨rx, s1, rm, s2, ex, em, G2, eq⟩ := st_set W.1.1 a0 a1
  have F1 : Frm [(20, 1), (21, 1), (22, 1)] [] [] s s1 := v_X11_set W.1.sh (fun p h => by rcases h with rfl | rfl | rfl <;> rfl) Frm.rf _ ex
  have F2 : Frm [] [79] [] s1 s2 := v_X12_set rfl Frm.rf _ em
  have m := F1.ms rfl
  have Q := W.q4 m
  have S10 : QSet s s2 := R_set (W.b1 m) Q.2.2.2.2.2.2.2.2.1 a0 a1 (rm, s2) em
  have R13 : QRow s2 := Q.2.2.2.2.2.2.2.2.2.2.2.1.c (fun q i h => F2.2.1 q i (by rcases h with rfl | rfl <;> rfl)) (fun i => F2.2.2.1 122 i rfl)
  exact ⟨rx, s1, rm, s2, ex, em, W.rm F1 F2 rfl rfl G2 S10 R13 rfl rfl rfl rfl rfl rfl rfl, eq⟩
theorem s4_breaks {s : SS} {c : Nat} (W : GW c s) (hc : c ≤ 512) (a0 : Int32) (a1 : Int32) : ∃ (rx : Int32) (s1 : SS) (rm : Int32) (s2 : SS), f_X11_breaks s a0 a1 = some (rx, s1) ∧ f_X12_breaks s1 a0 a1 = some (rm, s2) ∧ GW (c + 1) s2 ∧ rx = rm := by
  obtain ⟨rx, s1, rm, s2, ex, em, G2, -⟩ := st_breaks W.1.1 a0 a1
  have F1 : Frm [(20, 2), (21, 2), (22, 2)] [] [] s s1 := v_X11_breaks W.1.sh (fun p h => by rcases h with rfl | rfl | rfl <;> rfl) Frm.rf _ ex
  have F2 : Frm [] [80] [] s1 s2 := v_X12_breaks rfl Frm.rf _ em
  have m := F1.ms rfl
  have e2 : ∀ j, zI s1 2 j = zI s 2 j := fun j => F1.2.1 2 j rfl
  obtain ⟨eq, h⟩ := L_breaks (W.b1 m) (W.q4 m) a0 a1 (rx, s1) ex (rm, s2) em
  have X1 : GX s1 := W.2.1.e e2 (fun j => m.2.1 63 j (by omega) (by omega)) (fun j => m.2.1 73 j (by omega) (by omega)) (fun j => m.2.1 78 j (by omega) (by omega)) (fun j => m.2.1 80 j (by omega) (by omega)) (m.1 59 25 (by omega) (by omega)) (m.1 59 29 (by omega) (by omega))
  have N80 : ∀ i, i < 3 → (zI s2 80 i).toInt ≤ 1699 := N_breaks X1.2.2.1 a0 a1 (rm, s2) em
  exact ⟨rx, s1, rm, s2, ex, em, ⟨GQ.fin G2 h (F2.cs rfl) G2.1.1.1.1, ⟨⟨fun i hi => by rw [F2.2.1 78 i rfl]; exact X1.1.1 i hi, fun j => by rw [F2.2.1 2 j rfl]; exact X1.1.2 j⟩, ⟨fun j => by rw [F2.2.1 73 j rfl]; exact X1.2.1.1 j, by rw [F2.1 59 29 rfl]; exact X1.2.1.2.1, fun n => by rw [F2.2.1 63 n rfl]; exact X1.2.1.2.2 n⟩, N80, X1.2.2.2.f F2 rfl⟩, W.2.2.u (fun j => (F2.2.1 104 j rfl).trans (m.2.1 104 j (by omega) (by omega)))⟩, eq⟩
theorem s4_yard {s : SS} {c : Nat} (W : GW c s) (hc : c ≤ 512) (a0 : Int32) (a1 : Int32) : ∃ (rx : Int32) (s1 : SS) (rm : Int32) (s2 : SS), f_X11_yard s a0 a1 = some (rx, s1) ∧ f_X12_yard s1 a0 a1 = some (rm, s2) ∧ GW (c + 1) s2 ∧ rx = rm := by
  obtain ⟨rx, s1, rm, s2, ex, em, G2, -⟩ := st_yard W.1.1 a0 a1
  have m := (K_yard W.1.sh a0 a1 _ ex).1
  have e2 : ∀ j, zI s1 2 j = zI s 2 j := fun j => ((w_X11_yard (Lk.rf W.1.1.1.1)).at ex).2.2.2.1 2 j rfl
  have F2 : Frm [] [66, 70] [] s1 s2 := v_X12_yard rfl rfl Frm.rf _ em
  obtain ⟨eq, h⟩ := L_yard (W.b1 m) (W.q4 m) a0 a1 (rx, s1) ex (rm, s2) em
  exact ⟨rx, s1, rm, s2, ex, em, W.two m e2 F2 rfl G2 h rfl rfl, eq⟩
theorem s4_met {s : SS} {c : Nat} (W : GW c s) (hc : c ≤ 512) (a0 : Int32) (a1 : Int32) : ∃ (rx : Int32) (s1 : SS) (rm : Int32) (s2 : SS), f_X11_met s a0 a1 = some rx ∧ f_X12_met s a0 a1 = some rm ∧ GW (c + 1) s ∧ rx = rm := by
  obtain ⟨rx, s1, rm, s2, ex, em, G2, -⟩ := st_met W.1.1 a0 a1
  exact ⟨rx, s1, rm, s2, ex, em, W.rd, V_met W.1.1.B1 W.1.2 a0 a1 rx ex rm em⟩
theorem s4_log {s : SS} {c : Nat} (W : GW c s) (hc : c ≤ 512) (a0 : Int32) (a1 : Int32) (a2 : Int32) (a3 : Int32) (a4 : Int32) : ∃ (rx : Int32) (s1 : SS) (rm : Int32) (s2 : SS), f_X11_log s a0 a1 a2 a3 a4 = some (rx, s1) ∧ f_X12_log s1 a0 a1 a2 a3 a4 = some (rm, s2) ∧ GW (c + 1) s2 ∧ rx = rm := by
  obtain ⟨rx, s1, rm, s2, ex, em, G2, eq⟩ := st_log W.1.1 a0 a1 a2 a3 a4
  have m := (K_log W.1.sh a0 a1 a2 a3 a4 _ ex).1
  have e2 : ∀ j, zI s1 2 j = zI s 2 j := fun j => ((w_X11_log (Lk.rf W.1.1.1.1)).at ex).2.2.2.1 2 j rfl
  have F2 : Frm [] [72, 73] [] s1 s2 := v_X12_log rfl rfl Frm.rf _ em
  have X1 : GX s1 := W.2.1.e e2 (fun j => m.2.1 63 j (by omega) (by omega)) (fun j => m.2.1 73 j (by omega) (by omega)) (fun j => m.2.1 78 j (by omega) (by omega)) (fun j => m.2.1 80 j (by omega) (by omega)) (m.1 59 25 (by omega) (by omega)) (m.1 59 29 (by omega) (by omega))
  obtain ⟨h, N73⟩ := L_log W.1.1 m (W.b1 m) (W.q4 m) X1.2.1.1 a0 a1 a2 a3 a4 (rx, s1) ex (rm, s2) em
  exact ⟨rx, s1, rm, s2, ex, em, ⟨GQ.fin G2 h (F2.cs rfl) G2.1.1.1.1, ⟨⟨fun i hi => by rw [F2.2.1 78 i rfl]; exact X1.1.1 i hi, fun j => by rw [F2.2.1 2 j rfl]; exact X1.1.2 j⟩, ⟨N73, by rw [F2.1 59 29 rfl]; exact X1.2.1.2.1, fun n => by rw [F2.2.1 63 n rfl]; exact X1.2.1.2.2 n⟩, fun i hi => by rw [F2.2.1 80 i rfl]; exact X1.2.2.1 i hi, X1.2.2.2.f F2 rfl⟩, W.2.2.u (fun j => (F2.2.1 104 j rfl).trans (m.2.1 104 j (by omega) (by omega)))⟩, eq⟩
theorem s4_spread {s : SS} {c : Nat} (W : GW c s) (hc : c ≤ 512) (a0 : Int32) : ∃ (rx : Int32) (s1 : SS) (rm : Int32) (s2 : SS), f_X11_spread s a0 = some (rx, s1) ∧ f_X12_spread s1 a0 = some (rm, s2) ∧ GW (c + 1) s2 ∧ rx = rm := by
  obtain ⟨rx, s1, rm, s2, ex, em, G2, eq⟩ := st_spread W.1.1 a0
  have F1 : Frm [(0, 15), (59, 29)] [] [] s s1 := v_X11_spread W.1.sh rfl Frm.rf _ ex
  have Fm : Frm [(0, 15), (59, 29)] [] [] s s2 := v_X12_spread rfl F1 _ em
  have F2 : Frm [(59, 29)] [] [] s1 s2 := v_X12_spread rfl Frm.rf _ em
  have F0 : Frm [(0, 15)] [] [] s s1 := v_X11_spread W.1.sh rfl Frm.rf _ ex
  have m := F0.ms rfl
  have N29 : 0 ≤ (zS s2 59 29).toInt ∧ (zS s2 59 29).toInt ≤ 8 := N_spread (by rw [m.1 59 29 (by omega) (by omega)]; exact W.2.1.2.1.2.1) a0 (rm, s2) em
  exact ⟨rx, s1, rm, s2, ex, em, ⟨W.1.go G2 Fm rfl rfl rfl, ⟨⟨(fun i hi => by rw [Fm.2.1 78 i rfl]; exact W.2.1.1.1 i hi), (fun j => by rw [Fm.2.1 2 j rfl]; exact W.2.1.1.2 j)⟩, ⟨fun j => by rw [Fm.2.1 73 j rfl]; exact W.2.1.2.1.1 j, N29, fun n => by rw [Fm.2.1 63 n rfl]; exact W.2.1.2.1.2.2 n⟩, fun i hi => by rw [Fm.2.1 80 i rfl]; exact W.2.1.2.2.1 i hi, W.2.1.2.2.2.f Fm rfl⟩, W.2.2.u (fun j => Fm.2.1 104 j rfl)⟩, eq⟩
theorem s4_canBe {s : SS} {c : Nat} (W : GW c s) (hc : c ≤ 512) (a0 : Int32) (a1 : Int32) (a2 : Int32) : ∃ (rx : Int32) (s1 : SS) (rm : Int32) (s2 : SS), f_X11_canBe s a0 a1 a2 = some rx ∧ f_X12_canBe s a0 a1 a2 = some rm ∧ GW (c + 1) s ∧ rx = rm := by
  obtain ⟨rx, s1, rm, s2, ex, em, G2, -⟩ := st_canBe W.1.1 a0 a1 a2
  exact ⟨rx, s1, rm, s2, ex, em, W.rd, V_canBe W.1.1.B1 W.1.2 W.2.1.2.1 a0 a1 a2 rx ex rm em⟩
theorem s4_map {s : SS} {c : Nat} (W : GW c s) (hc : c ≤ 512) (a0 : Int32) (a1 : Int32) : ∃ (rx : Int32) (s1 : SS) (rm : Int32) (s2 : SS), f_X11_map s a0 a1 = some (rx, s1) ∧ f_X12_map s1 a0 a1 = some (rm, s2) ∧ GW (c + 1) s2 ∧ rx = rm := by
  obtain ⟨rx, s1, rm, s2, ex, em, G2, -⟩ := st_map W.1.1 a0 a1
  obtain ⟨m, e2⟩ := K_map W.1.sh a0 a1 _ ex
  have F2 : Frm [(59, 30)] [81, 82, 83] [] s1 s2 := v_X12_map rfl rfl rfl rfl Frm.rf _ em
  obtain ⟨eq, h⟩ := L_map (W.b1 m) (W.q4 m) a0 a1 (rx, s1) ex (rm, s2) em
  exact ⟨rx, s1, rm, s2, ex, em, W.two m e2 F2 rfl G2 h rfl rfl, eq⟩
theorem s4_old {s : SS} {c : Nat} (W : GW c s) (hc : c ≤ 512) (a0 : Int32) (a1 : Int32) : ∃ (rx : Int32) (s1 : SS) (rm : Int32) (s2 : SS), f_X11_old s a0 a1 = some (rx, s1) ∧ f_X12_old s1 a0 a1 = some (rm, s2) ∧ GW (c + 1) s2 ∧ rx = rm := by
  obtain ⟨rx, s1, rm, s2, ex, em, G2, -⟩ := st_old W.1.1 a0 a1
  have m := (K_old W.1.sh a0 a1 _ ex).1
  have e2 : ∀ j, zI s1 2 j = zI s 2 j := fun j => ((w_X11_old (Lk.rf W.1.1.1.1)).at ex).2.2.2.1 2 j rfl
  have F2 : Frm [] [84, 85] [] s1 s2 := v_X12_old rfl rfl Frm.rf _ em
  obtain ⟨eq, h⟩ := L_old ((w_X11_old (Lk.rf W.1.1.1.1)).at ex).1 (W.b1 m) (W.q4 m) a0 a1 (rx, s1) ex (rm, s2) em
  exact ⟨rx, s1, rm, s2, ex, em, W.two m e2 F2 rfl G2 h rfl rfl, eq⟩
theorem s4_wrong {s : SS} {c : Nat} (W : GW c s) (hc : c ≤ 512) (a0 : Int32) : ∃ (rx : Int32) (s1 : SS) (rm : Int32) (s2 : SS), f_X11_wrong s a0 = some rx ∧ f_X12_wrong s a0 = some rm ∧ GW (c + 1) s ∧ rx = rm := by
  obtain ⟨rx, s1, rm, s2, ex, em, G2, -⟩ := st_wrong W.1.1 a0
  exact ⟨rx, s1, rm, s2, ex, em, W.rd, V_wrong W.1.1.1.1 W.2.1.2.1 W.1.1.B1 W.1.2 a0 rx ex rm em⟩
theorem s4_known {s : SS} {c : Nat} (W : GW c s) (hc : c ≤ 512) (a0 : Int32) : ∃ (rx : Int32) (s1 : SS) (rm : Int32) (s2 : SS), f_X11_known s a0 = some rx ∧ f_X12_known s a0 = some rm ∧ GW (c + 1) s ∧ rx = rm := by
  obtain ⟨rx, s1, rm, s2, ex, em, G2, -⟩ := st_known W.1.1 a0
  exact ⟨rx, s1, rm, s2, ex, em, W.rd, V_known W.1.1.1.1 W.1.1.1.1 W.2.1.2.1 W.1.1.B1 W.1.2 a0 rx ex rm em⟩
theorem s4_feed {s : SS} {c : Nat} (W : GW c s) (hc : c ≤ 512) (a0 : Int32) (a1 : Int32) : ∃ (rx : Int32) (s1 : SS) (rm : Int32) (s2 : SS), f_X11_feed s a0 a1 = some (rx, s1) ∧ f_X12_feed s1 a0 a1 = some (rm, s2) ∧ GW (c + 1) s2 ∧ rx = rm := by
  obtain ⟨rx, s1, rm, s2, ex, em, G2, eq⟩ := st_feed W.1.1 a0 a1
  have F1 : Frm [(24, 1), (59, 37)] [25, 86] [] s s1 := v_X11_feed W.1.sh rfl rfl Frm.rf _ ex
  have F2 : Frm [(24, 1), (59, 37)] [25, 86] [] s s2 := v_X12_feed rfl rfl F1 _ em
  exact ⟨rx, s1, rm, s2, ex, em, W.go G2 F2 rfl rfl rfl rfl rfl, eq⟩
theorem s4_text {s : SS} {c : Nat} (W : GW c s) (hc : c ≤ 512) (a0 : Int32) (a1 : Int32) : ∃ (rx : Int32) (s1 : SS) (rm : Int32) (s2 : SS), f_X11_text s a0 a1 = some (rx, s1) ∧ f_X12_text s1 a0 a1 = some (rm, s2) ∧ GW (c + 1) s2 ∧ rx = rm := by
  obtain ⟨rx, s1, rm, s2, ex, em, G2, eq⟩ := st_text W.1.1 a0 a1
  obtain ⟨T, e8⟩ := W.1.1.2.2.2.2
  have b38 : 0 ≤ (zS s 59 38).toInt ∧ (zS s 59 38).toInt ≤ 16 := W.1.1.1.1.f (q := 59) (k := 38) rfl
  obtain ⟨m, e2⟩ := K_textX W.1.sh T b38 e8 a0 a1 (rx, s1) ex
  have T1 : TP s s1 := ⟨by rw [m.1 59 37 (by omega) (by omega)]; exact T.1, T.2.1, fun i hi => by rw [m.2.1 86 i (by omega) (by omega)]; exact T.2.2 i hi⟩
  have h := L_text T1 (W.b1 m) (W.q4 m) a0 a1 (rx, s1) ex (rm, s2) em
  obtain ⟨k1, k2, k3⟩ := K_textM a0 a1 (rm, s2) em
  have k1 : ∀ q k, ¬ (q = 59 ∧ (k = 37 ∨ k = 38 ∨ (47 ≤ k ∧ k ≤ 51))) → zS s2 q k = zS s1 q k := k1
  have k2 : ∀ q i, q < 87 ∨ 94 < q → zI s2 q i = zI s1 q i := k2
  have k3 : s2.2.2 = s1.2.2 := k3
  have cs : cSm s1 s2 := ⟨fun q k hq => k1 q k (by omega), fun q i hq => k2 q i (by omega), congrArg Prod.snd k3⟩
  have X1 : GX s1 := W.2.1.e e2 (fun j => m.2.1 63 j (by omega) (by omega)) (fun j => m.2.1 73 j (by omega) (by omega)) (fun j => m.2.1 78 j (by omega) (by omega)) (fun j => m.2.1 80 j (by omega) (by omega)) (m.1 59 25 (by omega) (by omega)) (m.1 59 29 (by omega) (by omega))
  exact ⟨rx, s1, rm, s2, ex, em, ⟨GQ.fin G2 h cs G2.1.1.1.1, X1.e (fun j => k2 2 j (by omega)) (fun j => k2 63 j (by omega)) (fun j => k2 73 j (by omega)) (fun j => k2 78 j (by omega)) (fun j => k2 80 j (by omega)) (k1 59 25 (by omega)) (k1 59 29 (by omega)), W.2.2.u (fun j => (k2 104 j (by omega)).trans (m.2.1 104 j (by omega) (by omega)))⟩, eq⟩
theorem s4_inForce {s : SS} {c : Nat} (W : GW c s) (hc : c ≤ 512) (a0 : Int32) (a1 : Int32) (a2 : Int32) : ∃ (rx : Int32) (s1 : SS) (rm : Int32) (s2 : SS), f_X11_inForce s a0 a1 a2 = some rx ∧ f_X12_inForce s a0 a1 a2 = some rm ∧ GW (c + 1) s ∧ rx = rm := by
  obtain ⟨rx, s1, rm, s2, ex, em, G2, -⟩ := st_inForce W.1.1 a0 a1 a2
  exact ⟨rx, s1, rm, s2, ex, em, W.rd, V_inForce W.1.1.B1 W.1.2 a0 a1 a2 rx ex rm em⟩
theorem s4_says {s : SS} {c : Nat} (W : GW c s) (hc : c ≤ 512) (a0 : Int32) (a1 : Int32) : ∃ (rx : Int32) (s1 : SS) (rm : Int32) (s2 : SS), f_X11_says s a0 a1 = some (rx, s1) ∧ f_X12_says s1 a0 a1 = some (rm, s2) ∧ GW (c + 1) s2 ∧ rx = rm := by
  obtain ⟨rx, s1, rm, s2, ex, em, G2, -⟩ := st_says W.1.1 a0 a1
  have F1 : Frm [] [28, 29, 95, 96] [] s s1 := v_X11_says W.1.sh rfl rfl Frm.rf _ ex
  have F2 : Frm [] [28, 29, 95, 96] [] s s2 := v_X12_says rfl rfl F1 _ em
  have F0 : Frm [] [28, 29] [] s s1 := v_X11_says W.1.sh rfl rfl Frm.rf _ ex
  have m := F0.ms rfl
  have eq := V_says ((w_X11_says (Lk.rf W.1.1.1.1)).at ex).1 (W.b1 m) (W.q4 m) a0 a1 (rx, s1) ex (rm, s2) em
  exact ⟨rx, s1, rm, s2, ex, em, W.go G2 F2 rfl rfl rfl rfl rfl, eq⟩
theorem s4_hours {s : SS} {c : Nat} (W : GW c s) (hc : c ≤ 512) (a0 : Int32) : ∃ (rx : Int32) (s1 : SS) (rm : Int32) (s2 : SS), f_X11_hours s a0 = some (rx, s1) ∧ f_X12_hours s1 a0 = some (rm, s2) ∧ GW (c + 1) s2 ∧ rx = rm := by
  obtain ⟨rx, s1, rm, s2, ex, em, G2, -⟩ := st_hours W.1.1 a0
  have m := (K_hours W.1.sh a0 _ ex).1
  have I1 : Iv s1 := K_hoursI W.1.1.1.1 a0 (rx, s1) ex
  have F2 : Frm [(59, 1), (59, 25), (59, 54), (59, 55), (59, 62)] [60, 61, 65, 67, 68, 69, 71, 74, 95, 96, 99, 100, 102, 103, 105] [] s1 s2 := v_X12_hours rfl rfl rfl rfl rfl rfl rfl rfl rfl rfl rfl rfl rfl rfl rfl rfl rfl rfl rfl rfl Frm.rf _ em
  have N1 : QRng s s1 := ⟨fun i hi => by rw [m.2.1 78 i (by omega) (by omega)]; exact W.2.1.1.1 i hi, W.2.1.1.2⟩
  obtain ⟨eq, h', K⟩ := hrs_p (h := (zS s 0 14).toInt) ⟨W.q4 m, W.b1 m, N1, W.1.1.1.1, I1, rfl⟩ (rx, s1) ex (rm, s2) em
  have cs := F2.cs rfl
  have h : Q4 s1 s2 := by
    have := K.1
    rw [← K.2.2.2.2.2] at this
    exact this
  have N2 : QRng s1 s2 := K.2.2.1
  have H2 : H25 s2 := K_h25 (by unfold H25; rw [m.1 59 25 (by omega) (by omega)]; exact W.2.1.2.2.2) a0 (rm, s2) em
  exact ⟨rx, s1, rm, s2, ex, em, ⟨GQ.fin G2 h cs G2.1.1.1.1, ⟨⟨N2.1, fun j => by rw [cs.2.1 2 j (by omega)]; exact N2.2 j⟩, ⟨fun j => by rw [F2.2.1 73 j rfl, m.2.1 73 j (by omega) (by omega)]; exact W.2.1.2.1.1 j, by rw [F2.1 59 29 rfl, m.1 59 29 (by omega) (by omega)]; exact W.2.1.2.1.2.1, fun n => by rw [F2.2.1 63 n rfl, m.2.1 63 n (by omega) (by omega)]; exact W.2.1.2.1.2.2 n⟩, fun i hi => by rw [F2.2.1 80 i rfl, m.2.1 80 i (by omega) (by omega)]; exact W.2.1.2.2.1 i hi, H2⟩, W.2.2.u (fun j => (F2.2.1 104 j rfl).trans (m.2.1 104 j (by omega) (by omega)))⟩, eq.symm⟩
theorem s4_spoons {s : SS} {c : Nat} (W : GW c s) (hc : c ≤ 512) (a0 : Int32) : ∃ (rx : Int32) (s1 : SS) (rm : Int32) (s2 : SS), f_X11_spoons s a0 = some (rx, s1) ∧ f_X12_spoons s1 a0 = some (rm, s2) ∧ GW (c + 1) s2 ∧ rx = rm := by
  obtain ⟨rx, s1, rm, s2, ex, em, G2, -⟩ := st_spoons W.1.1 a0
  have F1 : Frm [(30, 0)] [] [] s s1 := v_X11_spoons W.1.sh rfl Frm.rf _ ex
  have F2 : Frm [(59, 54)] [] [] s1 s2 := v_X12_spoons rfl Frm.rf _ em
  have m := F1.ms rfl
  obtain ⟨eq, h⟩ := L_spoons (W.b1 m) (W.q4 m) a0 (rx, s1) ex (rm, s2) em
  exact ⟨rx, s1, rm, s2, ex, em, W.two m (fun j => F1.2.1 2 j rfl) F2 rfl G2 h rfl rfl, eq⟩
theorem s4_move {s : SS} {c : Nat} (W : GW c s) (hc : c ≤ 512) (a0 : Int32) (a1 : Int32) : ∃ (rx : Int32) (s1 : SS) (rm : Int32) (s2 : SS), f_X11_move s a0 a1 = some (rx, s1) ∧ f_X12_move s1 a0 a1 = some (rm, s2) ∧ GW (c + 1) s2 ∧ rx = rm := by
  obtain ⟨rx, s1, rm, s2, ex, em, G2, eq⟩ := st_move W.1.1 a0 a1
  have F1 : Frm [(1, 4), (59, 56)] [4, 5, 97, 98] [] s s1 := v_X11_move W.1.sh rfl rfl rfl Frm.rf _ ex
  have F2 : Frm [(1, 4), (59, 56)] [4, 5, 97, 98] [] s s2 := v_X12_move rfl rfl rfl F1 _ em
  exact ⟨rx, s1, rm, s2, ex, em, W.go G2 F2 rfl rfl rfl rfl rfl, eq⟩
theorem s4_last {s : SS} {c : Nat} (W : GW c s) (hc : c ≤ 512) (a0 : Int32) (a1 : Int32) : ∃ (rx : Int32) (s1 : SS) (rm : Int32) (s2 : SS), f_X11_last s a0 a1 = some (rx, s1) ∧ f_X12_last s1 a0 a1 = some (rm, s2) ∧ GW (c + 1) s2 ∧ True := by
  obtain ⟨rx, s1, rm, s2, ex, em, G2, -⟩ := st_last W.1.1 a0 a1
  have F1 : Frm [] [11, 101] [] s s1 := v_X11_last W.1.sh rfl Frm.rf _ ex
  have F2 : Frm [] [11, 101] [] s s2 := v_X12_last rfl F1 _ em
  exact ⟨rx, s1, rm, s2, ex, em, W.go G2 F2 rfl rfl rfl rfl rfl, trivial⟩
theorem s4_best {s : SS} {c : Nat} (W : GW c s) (hc : c ≤ 512) (a0 : Int32) : ∃ (rx : Int32) (s1 : SS) (rm : Int32) (s2 : SS), f_X11_best s a0 = some (rx, s1) ∧ f_X12_best s1 a0 = some (rm, s2) ∧ GW (c + 1) s2 ∧ True := by
  obtain ⟨rx, s1, rm, s2, ex, em, G2, -⟩ := st_best W.1.1 a0
  have F1 : Frm [] [11, 101] [] s s1 := v_X11_best W.1.sh rfl Frm.rf _ ex
  have F2 : Frm [] [11, 101] [] s s2 := v_X12_best rfl F1 _ em
  exact ⟨rx, s1, rm, s2, ex, em, W.go G2 F2 rfl rfl rfl rfl rfl, trivial⟩
theorem s4_down {s : SS} {c : Nat} (W : GW c s) (hc : c ≤ 512) (a0 : Int32) (a1 : Int32) (a2 : Int32) : ∃ (rx : Int32) (s1 : SS) (rm : Int32) (s2 : SS), f_X11_down s a0 a1 a2 = some (rx, s1) ∧ f_X12_down s1 a0 a1 a2 = some (rm, s2) ∧ GW (c + 1) s2 ∧ rx = rm := by
  obtain ⟨rx, s1, rm, s2, ex, em, G2, -⟩ := st_down W.1.1 a0 a1 a2
  have m := (K_down W.1.sh a0 a1 a2 _ ex).1
  have e2 : ∀ j, zI s1 2 j = zI s 2 j := fun j => ((w_X11_down (Lk.rf W.1.1.1.1)).at ex).2.2.2.1 2 j rfl
  have F2 : Frm [(59, 62)] [102, 103, 104] [] s1 s2 := v_X12_down rfl rfl rfl rfl Frm.rf _ em
  have U1 : QTub s1 (1699 + 9 * (c : Int)) := fun i hi => by rw [m.2.1 104 i (by omega) (by omega)]; exact W.2.2 i hi
  have T1 : QTub s1 7000 := fun i hi => by have := U1 i hi; omega
  obtain ⟨⟨eq, h⟩, u⟩ := L_down (W.b1 m) (W.q4 m) T1 a0 a1 a2 (rx, s1) ex (rm, s2) em
  have U2 := u (1699 + 9 * (c : Int)) (by omega) U1
  have X1 : GX s1 := W.2.1.e e2 (fun j => m.2.1 63 j (by omega) (by omega)) (fun j => m.2.1 73 j (by omega) (by omega)) (fun j => m.2.1 78 j (by omega) (by omega)) (fun j => m.2.1 80 j (by omega) (by omega)) (m.1 59 25 (by omega) (by omega)) (m.1 59 29 (by omega) (by omega))
  refine ⟨rx, s1, rm, s2, ex, em, ⟨GQ.fin G2 h (F2.cs rfl) G2.1.1.1.1, X1.e (fun j => F2.2.1 2 j rfl) (fun j => F2.2.1 63 j rfl) (fun j => F2.2.1 73 j rfl) (fun j => F2.2.1 78 j rfl) (fun j => F2.2.1 80 j rfl) (F2.1 59 25 rfl) (F2.1 59 29 rfl), fun i hi => ?_⟩, eq⟩
  have := U2 i hi
  have e : (rm, s2).2 = s2 := rfl
  rw [e] at this
  omega
theorem s4_below {s : SS} {c : Nat} (W : GW c s) (hc : c ≤ 512) (a0 : Int32) : ∃ (rx : Int32) (s1 : SS) (rm : Int32) (s2 : SS), f_X11_below s a0 = some rx ∧ f_X12_below s a0 = some rm ∧ GW (c + 1) s ∧ rx = rm := by
  obtain ⟨rx, s1, rm, s2, ex, em, G2, -⟩ := st_below W.1.1 a0
  exact ⟨rx, s1, rm, s2, ex, em, W.rd, V_below W.1.2 a0 rx ex rm em⟩
theorem s4_need {s : SS} {c : Nat} (W : GW c s) (hc : c ≤ 512) (a0 : Int32) (a1 : Int32) : ∃ (rx : Int32) (s1 : SS) (rm : Int32) (s2 : SS), f_X11_need s a0 a1 = some (rx, s1) ∧ f_X12_need s1 a0 a1 = some (rm, s2) ∧ GW (c + 1) s2 ∧ rx = rm := by
  obtain ⟨rx, s1, rm, s2, ex, em, G2, eq⟩ := st_need W.1.1 a0 a1
  have F1 : Frm [(34, 3), (59, 67)] [35, 36, 37, 106, 107, 108] [] s s1 := v_X11_need W.1.sh rfl rfl rfl rfl Frm.rf _ ex
  have F2 : Frm [(34, 3), (59, 67)] [35, 36, 37, 106, 107, 108] [] s s2 := v_X12_need rfl rfl rfl rfl F1 _ em
  exact ⟨rx, s1, rm, s2, ex, em, W.go G2 F2 rfl rfl rfl rfl rfl, eq⟩
theorem s4_order {s : SS} {c : Nat} (W : GW c s) (hc : c ≤ 512) : ∃ (rx : Int32) (s1 : SS) (rm : Int32) (s2 : SS), f_X11_order s = some (rx, s1) ∧ f_X12_order s1 = some (rm, s2) ∧ GW (c + 1) s2 ∧ True := by
  obtain ⟨rx, s1, rm, s2, ex, em, G2, -⟩ := st_order W.1.1
  have F1 : Frm [(34, 3), (34, 7), (59, 67), (59, 72)] [38, 39, 40, 109, 110] [] s s1 := v_X11_order W.1.sh rfl rfl rfl rfl rfl Frm.rf _ ex
  have F2 : Frm [(34, 3), (34, 7), (59, 67), (59, 72)] [38, 39, 40, 109, 110] [] s s2 := v_X12_order rfl rfl rfl rfl F1 _ em
  exact ⟨rx, s1, rm, s2, ex, em, W.go G2 F2 rfl rfl rfl rfl rfl, trivial⟩
theorem s4_ordered {s : SS} {c : Nat} (W : GW c s) (hc : c ≤ 512) (a0 : Int32) : ∃ (rx : Int32) (s1 : SS) (rm : Int32) (s2 : SS), f_X11_ordered s a0 = some rx ∧ f_X12_ordered s a0 = some rm ∧ GW (c + 1) s ∧ True := by
  obtain ⟨rx, s1, rm, s2, ex, em, G2, -⟩ := st_ordered W.1.1 a0
  exact ⟨rx, s1, rm, s2, ex, em, W.rd, trivial⟩
theorem s4_watch {s : SS} {c : Nat} (W : GW c s) (hc : c ≤ 512) (a0 : Int32) (a1 : Int32) : ∃ (rx : Int32) (s1 : SS) (rm : Int32) (s2 : SS), f_X11_watch s a0 a1 = some (rx, s1) ∧ f_X12_watch s1 a0 a1 = some (rm, s2) ∧ GW (c + 1) s2 ∧ True := by
  obtain ⟨rx, s1, rm, s2, ex, em, G2, -⟩ := st_watch W.1.1 a0 a1
  have F1 : Frm [(6, 7), (59, 74)] [12, 111] [] s s1 := v_X11_watch W.1.sh rfl rfl Frm.rf _ ex
  have F2 : Frm [(6, 7), (59, 74)] [12, 111] [] s s2 := v_X12_watch rfl rfl F1 _ em
  exact ⟨rx, s1, rm, s2, ex, em, W.go G2 F2 rfl rfl rfl rfl rfl, trivial⟩
theorem s4_watched {s : SS} {c : Nat} (W : GW c s) (hc : c ≤ 512) (a0 : Int32) (a1 : Int32) : ∃ (rx : Int32) (s1 : SS) (rm : Int32) (s2 : SS), f_X11_watched s a0 a1 = some rx ∧ f_X12_watched s a0 a1 = some rm ∧ GW (c + 1) s ∧ True := by
  obtain ⟨rx, s1, rm, s2, ex, em, G2, -⟩ := st_watched W.1.1 a0 a1
  exact ⟨rx, s1, rm, s2, ex, em, W.rd, trivial⟩
theorem s4_aim {s : SS} {c : Nat} (W : GW c s) (hc : c ≤ 512) (a0 : Int32) (a1 : Int32) : ∃ (rx : Int32) (s1 : SS) (rm : Int32) (s2 : SS), f_X11_aim s a0 a1 = some (rx, s1) ∧ f_X12_aim s1 a0 a1 = some (rm, s2) ∧ GW (c + 1) s2 ∧ rx = rm := by
  obtain ⟨rx, s1, rm, s2, ex, em, G2, eq⟩ := st_aim W.1.1 a0 a1
  have F1 : Frm [(34, 9), (59, 76)] [41, 112] [] s s1 := v_X11_aim W.1.sh rfl rfl Frm.rf _ ex
  have F2 : Frm [(34, 9), (59, 76)] [41, 112] [] s s2 := v_X12_aim rfl rfl F1 _ em
  exact ⟨rx, s1, rm, s2, ex, em, W.go G2 F2 rfl rfl rfl rfl rfl, eq⟩
theorem s4_rock {s : SS} {c : Nat} (W : GW c s) (hc : c ≤ 512) (a0 : Int32) (a1 : Int32) (a2 : Int32) : ∃ (rx : Int32) (s1 : SS) (rm : Int32) (s2 : SS), f_X11_rock s a0 a1 a2 = some (rx, s1) ∧ f_X12_rock s1 a0 a1 a2 = some (rm, s2) ∧ GW (c + 1) s2 ∧ rx = rm := by
  obtain ⟨rx, s1, rm, s2, ex, em, G2, eq⟩ := st_rock W.1.1 a0 a1 a2
  have F1 : Frm [] [42, 113] [] s s1 := v_X11_rock W.1.sh rfl Frm.rf _ ex
  have F2 : Frm [] [42, 113] [] s s2 := v_X12_rock rfl F1 _ em
  exact ⟨rx, s1, rm, s2, ex, em, W.go G2 F2 rfl rfl rfl rfl rfl, eq⟩
theorem s4_aimed {s : SS} {c : Nat} (W : GW c s) (hc : c ≤ 512) (a0 : Int32) (a1 : Int32) (a2 : Int32) : ∃ (rx : Int32) (s1 : SS) (rm : Int32) (s2 : SS), f_X11_aimed s a0 a1 a2 = some (rx, s1) ∧ f_X12_aimed s1 a0 a1 a2 = some (rm, s2) ∧ GW (c + 1) s2 ∧ True := by
  obtain ⟨rx, s1, rm, s2, ex, em, G2, -⟩ := st_aimed W.1.1 a0 a1 a2
  have F1 : Frm [(34, 9), (34, 14), (59, 76), (59, 79)] [43, 44, 45, 114, 115] [] s s1 := v_X11_aimed W.1.sh rfl rfl rfl rfl rfl Frm.rf _ ex
  have F2 : Frm [(34, 9), (34, 14), (59, 76), (59, 79)] [43, 44, 45, 114, 115] [] s s2 := v_X12_aimed rfl rfl rfl rfl F1 _ em
  exact ⟨rx, s1, rm, s2, ex, em, W.go G2 F2 rfl rfl rfl rfl rfl, trivial⟩
theorem s4_aimedAt {s : SS} {c : Nat} (W : GW c s) (hc : c ≤ 512) (a0 : Int32) (a1 : Int32) : ∃ (rx : Int32) (s1 : SS) (rm : Int32) (s2 : SS), f_X11_aimedAt s a0 a1 = some rx ∧ f_X12_aimedAt s a0 a1 = some rm ∧ GW (c + 1) s ∧ True := by
  obtain ⟨rx, s1, rm, s2, ex, em, G2, -⟩ := st_aimedAt W.1.1 a0 a1
  exact ⟨rx, s1, rm, s2, ex, em, W.rd, trivial⟩
theorem s4_race {s : SS} {c : Nat} (W : GW c s) (hc : c ≤ 512) (a0 : Int32) (a1 : Int32) (a2 : Int32) : ∃ (rx : Int32) (s1 : SS) (rm : Int32) (s2 : SS), f_X11_race s a0 a1 a2 = some rx ∧ f_X12_race s a0 a1 a2 = some rm ∧ GW (c + 1) s ∧ rx = rm := by
  obtain ⟨rx, s1, rm, s2, ex, em, G2, -⟩ := st_race W.1.1 a0 a1 a2
  exact ⟨rx, s1, rm, s2, ex, em, W.rd, V_race W.1.1.B1 W.1.2 W.2.1.1 W.2.1.2.2.1 a0 a1 a2 rx ex rm em⟩
theorem s4_capsule {s : SS} {c : Nat} (W : GW c s) (hc : c ≤ 512) (a0 : Int32) : ∃ (rx : Int32) (s1 : SS) (rm : Int32) (s2 : SS), f_X11_capsule s a0 = some (rx, s1) ∧ f_X12_capsule s1 a0 = some (rm, s2) ∧ GW (c + 1) s2 ∧ rx = rm := by
  obtain ⟨rx, s1, rm, s2, ex, em, G2, -⟩ := st_capsule W.1.1 a0
  have F1 : Frm [(6, 10), (6, 11), (6, 12)] [13, 14, 28, 29] [] s s1 := v_X11_capsule W.1.sh rfl rfl rfl rfl rfl rfl rfl Frm.rf _ ex
  have F2 : Frm [(59, 82), (59, 83)] [95, 96, 116, 117, 118] [] s1 s2 := v_X12_capsule rfl rfl rfl rfl rfl rfl rfl Frm.rf _ em
  have m := F1.ms rfl
  obtain ⟨eq, h⟩ := L_capsule W.1.1.1.1 ((w_X11_capsule (Lk.rf W.1.1.1.1)).at ex).1 (W.b1 m) (W.q4 m) a0 (rx, s1) ex (rm, s2) em
  exact ⟨rx, s1, rm, s2, ex, em, W.two m (fun j => F1.2.1 2 j rfl) F2 rfl G2 h rfl rfl, eq⟩
theorem s4_up {s : SS} {c : Nat} (W : GW c s) (hc : c ≤ 512) (a0 : Int32) (a1 : Int32) : ∃ (rx : Int32) (s1 : SS) (rm : Int32) (s2 : SS), f_X11_up s a0 a1 = some rx ∧ f_X12_up s a0 a1 = some rm ∧ GW (c + 1) s ∧ rx = rm := by
  obtain ⟨rx, s1, rm, s2, ex, em, G2, -⟩ := st_up W.1.1 a0 a1
  exact ⟨rx, s1, rm, s2, ex, em, W.rd, V_up W.1.1.B1 W.1.2 a0 a1 rx ex rm em⟩
theorem s4_raise {s : SS} {c : Nat} (W : GW c s) (hc : c ≤ 512) (a0 : Int32) : ∃ (rx : Int32) (s1 : SS) (rm : Int32) (s2 : SS), f_X11_raise s a0 = some (rx, s1) ∧ f_X12_raise s1 a0 = some (rm, s2) ∧ GW (c + 1) s2 ∧ rx = rm := by
  obtain ⟨rx, s1, rm, s2, ex, em, G2, -⟩ := st_raise W.1.1 a0
  have F1 : Frm [(6, 4)] [10] [] s s1 := v_X11_raise W.1.sh rfl rfl Frm.rf _ ex
  have F2 : Frm [] [77] [] s1 s2 := v_X12_raise rfl Frm.rf _ em
  have m := F1.ms rfl
  obtain ⟨eq, h⟩ := L_raise (W.b1 m) (W.q4 m) a0 (rx, s1) ex (rm, s2) em
  exact ⟨rx, s1, rm, s2, ex, em, W.two m (fun j => F1.2.1 2 j rfl) F2 rfl G2 h rfl rfl, eq⟩
theorem s4_act {s : SS} {c : Nat} (W : GW c s) (hc : c ≤ 512) (a0 : Int32) (a1 : Int32) (a2 : Int32) : ∃ (rx : Int32) (s1 : SS) (rm : Int32) (s2 : SS), f_X11_act s a0 a1 a2 = some (rx, s1) ∧ f_X12_act s1 a0 a1 a2 = some (rm, s2) ∧ GW (c + 1) s2 ∧ rx = rm := by
  obtain ⟨rx, s1, rm, s2, ex, em, G2, eq⟩ := st4_act W.1.1 W.1.2 a0 a1 a2
  have F1 : Frm [(15, 11), (59, 87)] [18, 119] [] s s1 := v_X11_act W.1.sh rfl rfl Frm.rf _ ex
  have F2 : Frm [(15, 11), (59, 87)] [18, 119] [] s s2 := v_X12_act rfl rfl F1 _ em
  exact ⟨rx, s1, rm, s2, ex, em, W.go G2 F2 rfl rfl rfl rfl rfl, eq⟩
theorem s4_trace {s : SS} {c : Nat} (W : GW c s) (hc : c ≤ 512) (a0 : Int32) : ∃ (rx : Int32) (s1 : SS) (rm : Int32) (s2 : SS), f_X11_trace s a0 = some rx ∧ f_X12_trace s a0 = some rm ∧ GW (c + 1) s ∧ rx = rm := by
  obtain ⟨rx, s1, rm, s2, ex, em, G2, eq⟩ := st_trace W.1.1 a0
  exact ⟨rx, s1, rm, s2, ex, em, W.rd, eq⟩
theorem s4_keep {s : SS} {c : Nat} (W : GW c s) (hc : c ≤ 512) (a0 : Int32) (a1 : Int32) : ∃ (rx : Int32) (s1 : SS) (rm : Int32) (s2 : SS), f_X11_keep s a0 a1 = some (rx, s1) ∧ f_X12_keep s1 a0 a1 = some (rm, s2) ∧ GW (c + 1) s2 ∧ rx = rm := by
  obtain ⟨rx, s1, rm, s2, ex, em, G2, eq⟩ := st_keep W.1.1 a0 a1
  have F1 : Frm [(47, 0), (49, 0), (51, 0), (53, 0), (55, 0), (57, 0), (47, 1), (49, 1), (51, 1), (53, 1), (55, 1), (57, 1)] [] [] s s1 := v_X11_keep W.1.sh (fun p h => by rcases h with rfl | rfl | rfl | rfl | rfl | rfl <;> rfl) (fun p h => by rcases h with rfl | rfl | rfl | rfl | rfl | rfl <;> rfl) Frm.rf _ ex
  have F2 : Frm [] [120] [] s1 s2 := v_X12_keep rfl Frm.rf _ em
  have m := F1.ms rfl
  have Q := W.q4 m
  have S10 : QSet s s2 := Q.2.2.2.2.2.2.2.2.1.c (Int.le_refl _) (fun _ _ h => h) W.1.b3.2 (fun i => F2.2.1 79 i rfl)
  have R13 : QRow s2 := R_keep Q.2.2.2.2.2.2.2.2.2.2.2.1 a0 a1 (rm, s2) em
  exact ⟨rx, s1, rm, s2, ex, em, W.rm F1 F2 rfl rfl G2 S10 R13 rfl rfl rfl rfl rfl rfl rfl, eq⟩
theorem s4_row {s : SS} {c : Nat} (W : GW c s) (hc : c ≤ 512) (a0 : Int32) (a1 : Int32) (a2 : Int32) : ∃ (rx : Int32) (s1 : SS) (rm : Int32) (s2 : SS), f_X11_row s a0 a1 a2 = some (rx, s1) ∧ f_X12_row s1 a0 a1 a2 = some (rm, s2) ∧ GW (c + 1) s2 ∧ rx = rm := by
  obtain ⟨rx, s1, rm, s2, ex, em, G2, eq⟩ := st_row W.1.1 a0 a1 a2
  have F1 : Frm [(47, 0), (49, 0), (51, 0), (53, 0), (55, 0), (57, 0), (47, 2), (49, 2), (51, 2), (53, 2), (55, 2), (57, 2), (47, 3), (49, 3), (51, 3), (53, 3), (55, 3), (57, 3)] [] [48, 50, 52, 54, 56, 58] s s1 := v_X11_row W.1.sh (fun p h => by rcases h with rfl | rfl | rfl | rfl | rfl | rfl <;> rfl) (fun p h => by rcases h with rfl | rfl | rfl | rfl | rfl | rfl <;> rfl) (fun p h => by rcases h with rfl | rfl | rfl | rfl | rfl | rfl <;> rfl) (fun p h => by rcases h with rfl | rfl | rfl | rfl | rfl | rfl <;> rfl) Frm.rf _ ex
  have F2 : Frm [] [120, 121, 123] [122] s1 s2 := v_X12_row rfl rfl rfl rfl Frm.rf _ em
  have m := F1.ms rfl
  have Q := W.q4 m
  have S10 : QSet s s2 := Q.2.2.2.2.2.2.2.2.1.c (Int.le_refl _) (fun _ _ h => h) W.1.b3.2 (fun i => F2.2.1 79 i rfl)
  have R13 : QRow s2 := R_row Q.2.2.2.2.2.2.2.2.2.2.2.1 a0 a1 a2 (rm, s2) em
  exact ⟨rx, s1, rm, s2, ex, em, W.rm F1 F2 rfl rfl G2 S10 R13 rfl rfl rfl rfl rfl rfl rfl, eq⟩
theorem s4_put {s : SS} {c : Nat} (W : GW c s) (hc : c ≤ 512) (a0 : Int32) (a1 : Int32) (a2 : Int64) : ∃ (rx : Int32) (s1 : SS) (rm : Int32) (s2 : SS), f_X11_put s a0 a1 a2 = some (rx, s1) ∧ f_X12_put s1 a0 a1 a2 = some (rm, s2) ∧ GW (c + 1) s2 ∧ rx = rm := by
  obtain ⟨rx, s1, rm, s2, ex, em, G2, eq⟩ := st_put W.1.1 a0 a1 a2
  have F1 : Frm [] [] [48, 50, 52, 54, 56, 58] s s1 := v_X11_put W.1.sh (fun p h => by rcases h with rfl | rfl | rfl | rfl | rfl | rfl <;> rfl) Frm.rf _ ex
  have F2 : Frm [] [123] [122] s1 s2 := v_X12_put rfl rfl Frm.rf _ em
  have m := F1.ms rfl
  have Q := W.q4 m
  have S10 : QSet s s2 := Q.2.2.2.2.2.2.2.2.1.c (Int.le_refl _) (fun _ _ h => h) W.1.b3.2 (fun i => F2.2.1 79 i rfl)
  have R13 : QRow s2 := R_put Q.2.2.2.2.2.2.2.2.2.2.2.1 (fun i => by rw [m.2.1 121 i (by omega) (by omega)]; exact W.1.1.1.1.1.a (q := 121) rfl) a0 a1 a2 (rm, s2) em
  exact ⟨rx, s1, rm, s2, ex, em, W.rm F1 F2 rfl rfl G2 S10 R13 rfl rfl rfl rfl rfl rfl rfl, eq⟩
theorem s4_blank {s : SS} {c : Nat} (W : GW c s) (hc : c ≤ 512) (a0 : Int32) (a1 : Int32) : ∃ (rx : Int32) (s1 : SS) (rm : Int32) (s2 : SS), f_X11_blank s a0 a1 = some (rx, s1) ∧ f_X12_blank s1 a0 a1 = some (rm, s2) ∧ GW (c + 1) s2 ∧ rx = rm := by
  obtain ⟨rx, s1, rm, s2, ex, em, G2, eq⟩ := st_blank W.1.1 a0 a1
  have F1 : Frm [] [] [48, 50, 52, 54, 56, 58] s s1 := v_X11_blank W.1.sh (fun p h => by rcases h with rfl | rfl | rfl | rfl | rfl | rfl <;> rfl) Frm.rf _ ex
  have F2 : Frm [] [123] [] s1 s2 := v_X12_blank rfl Frm.rf _ em
  have m := F1.ms rfl
  have Q := W.q4 m
  have S10 : QSet s s2 := Q.2.2.2.2.2.2.2.2.1.c (Int.le_refl _) (fun _ _ h => h) W.1.b3.2 (fun i => F2.2.1 79 i rfl)
  have R13 : QRow s2 := R_blank Q.2.2.2.2.2.2.2.2.2.2.2.1 a0 a1 (rm, s2) em
  exact ⟨rx, s1, rm, s2, ex, em, W.rm F1 F2 rfl rfl G2 S10 R13 rfl rfl rfl rfl rfl rfl rfl, eq⟩
theorem s4_element {s : SS} {c : Nat} (W : GW c s) (hc : c ≤ 512) (a0 : Int32) (a1 : Int32) : ∃ (rx : Int64) (s1 : SS) (rm : Int64) (s2 : SS), f_X11_element s a0 a1 = some rx ∧ f_X12_element s a0 a1 = some rm ∧ GW (c + 1) s ∧ rx = rm := by
  obtain ⟨rx, s1, rm, s2, ex, em, G2, eq⟩ := st_element W.1.1 a0 a1
  exact ⟨rx, s1, rm, s2, ex, em, W.rd, eq⟩
theorem s4_shift {s : SS} {c : Nat} (W : GW c s) (hc : c ≤ 512) (a0 : Int32) (a1 : Int32) (a2 : Int32) (a3 : Int32) (a4 : Int32) : ∃ (rx : Int32) (s1 : SS) (rm : Int32) (s2 : SS), f_X11_shift s a0 a1 a2 a3 a4 = some (rx, s1) ∧ f_X12_shift s1 a0 a1 a2 a3 a4 = some (rm, s2) ∧ GW (c + 1) s2 ∧ rx = rm := by
  obtain ⟨rx, s1, rm, s2, ex, em, G2, eq⟩ := st_shift W.1.1 a0 a1 a2 a3 a4
  have F1 : Frm [] [] [48, 50, 52, 54, 56, 58] s s1 := v_X11_shift W.1.sh (fun p h => by rcases h with rfl | rfl | rfl | rfl | rfl | rfl <;> rfl) Frm.rf _ ex
  have F2 : Frm [] [123, 125] [122, 124] s1 s2 := v_X12_shift rfl rfl rfl rfl Frm.rf _ em
  have m := F1.ms rfl
  have Q := W.q4 m
  have S10 : QSet s s2 := Q.2.2.2.2.2.2.2.2.1.c (Int.le_refl _) (fun _ _ h => h) W.1.b3.2 (fun i => F2.2.1 79 i rfl)
  have R13 : QRow s2 := R_shift Q.2.2.2.2.2.2.2.2.2.2.2.1 (fun i => by rw [m.2.1 121 i (by omega) (by omega)]; exact W.1.1.1.1.1.a (q := 121) rfl) a0 a1 a2 a3 a4 (rm, s2) em
  exact ⟨rx, s1, rm, s2, ex, em, W.rm F1 F2 rfl rfl G2 S10 R13 rfl rfl rfl rfl rfl rfl rfl, eq⟩
theorem s4_taken {s : SS} {c : Nat} (W : GW c s) (hc : c ≤ 512) (a0 : Int32) (a1 : Int32) : ∃ (rx : Int32) (s1 : SS) (rm : Int32) (s2 : SS), f_X11_taken s a0 a1 = some rx ∧ f_X12_taken s a0 a1 = some rm ∧ GW (c + 1) s ∧ rx = rm := by
  obtain ⟨rx, s1, rm, s2, ex, em, G2, eq⟩ := st_taken W.1.1 a0 a1
  exact ⟨rx, s1, rm, s2, ex, em, W.rd, eq⟩
theorem s4_count {s : SS} {c : Nat} (W : GW c s) (hc : c ≤ 512) (a0 : Int32) : ∃ (rx : Int32) (s1 : SS) (rm : Int32) (s2 : SS), f_X11_count s a0 = some rx ∧ f_X12_count s a0 = some rm ∧ GW (c + 1) s ∧ rx = rm := by
  obtain ⟨rx, s1, rm, s2, ex, em, G2, -⟩ := st_count W.1.1 a0
  exact ⟨rx, s1, rm, s2, ex, em, W.rd, V_count W.1.1 W.1.2 a0 rx ex rm em⟩
