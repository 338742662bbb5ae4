/-! AN HOUR GOES BY, both sides -/
section HQs
variable {s t : SS}
theorem hour_q {y1 x : Int32} {n : Nat} {h : Int} (K : HR h s t) (hl : h + 1 ≤ 1699) (hx : x < y1) : Pc (f_X11_hourGoesBy s) (fun r => ∀ R : Int32 × SS → Prop, (∀ u, HR (h + 1) r u → Pc (f_X12_hours_L26 y1 n u (x + 1)) R) → Pc (f_X12_hours_L26 y1 (n + 1) t x) R) := by
  obtain ⟨Q, B, N, I, J, hh⟩ := K
  have b := B.2.1.2.2.2.2
  have n1 : (zS s 0 14 + 1).toInt = h + 1 := by rw [i32_add (by rw [jl1]; omega) (by rw [jl1]; omega), jl1, hh]
  have I2 : Iv (pS s 0 14 (zS s 0 14 + 1)) := I.wF (q := 0) (k := 14) (by decide) (by decide) trivial
  have J2 : Iv (pS t 59 1 (zS t 59 1 + 1)) := J.wF (q := 59) (k := 1) (by decide) (by decide) trivial
  have B2 := B.hr I2 (by omega)
  have Q2 : Q4h h (pS s 0 14 (zS s 0 14 + 1)) (pS t 59 1 (zS t 59 1 + 1)) := Q.hr B.1.sh (by omega)
  have h2 : (zS (pS s 0 14 (zS s 0 14 + 1)) 0 14).toInt = h + 1 := by rw [zS_pS, if_pos ⟨rfl, rfl⟩]; exact n1
  have N2 : QRng (pS s 0 14 (zS s 0 14 + 1)) (pS t 59 1 (zS t 59 1 + 1)) := N
  unfold f_X11_hourGoesBy
  refine Pc_vl (Pc_st ?_)
  generalize pS s 0 14 (zS s 0 14 + 1) = s2 at I2 B2 Q2 h2 N2 ⊢
  have Q2' : Q4h ((zS s2 0 14).toInt - 1) s2 (pS t 59 1 (zS t 59 1 + 1)) := by rw [h2, Int.add_sub_cancel]; exact Q2
  refine Pc_b1 (fun r3 e3 => Pc_bd (fun x4 e4 => Pc_jn ?_))
  have K4 := (w_X11_given (a0 := r3) (a1 := 2) (a2 := -1) (Lk.rf I2)).at e4
  obtain ⟨r4, s4⟩ := x4
  have go : ∀ s5, Iv s5 → ((r4 = 0 ∧ f_X11_machinesWork s4 = some s5) ∨ (¬ r4 = 0 ∧ s5 = s4)) → Pc (b1 (f_X9_arrivals s5 (zS s5 0 14)) fun s6 => (jn (fun (s7 : SS)  => (b1 (f_X11_rockMoves s7) fun s8 => some s8)) fun k7 => (if ((zS s6 0 14) % (24 : Int32)) = (0 : Int32) then (b1 (f_X11_menEat s6) fun s11 => (k7 s11)) else (k7 s6)))) (fun r => ∀ R : Int32 × SS → Prop, (∀ u, HR (h + 1) r u → Pc (f_X12_hours_L26 y1 n u (x + 1)) R) → Pc (f_X12_hours_L26 y1 (n + 1) t x) R) := by
    intro s5 I5 h5
    have D := dl_p I5 B2 Q2' N2.1 N2.2 e3 e4 h5
    intro r er R hq
    show Pc (f_X12_hours_L26_b y1 (f_X12_hours_L26 y1 n) t x) R
    unfold f_X12_hours_L26_b
    refine Pc_ift hx (Pc_vl (Pc_st (Pc_b1 (fun t7 e7 => ?_))))
    obtain ⟨q, b7, c1, c2, c3⟩ := D t7 e7
    have J7 : Iv t7 := ((w_X12_drill (Lk.rf J2)).at e7).1
    rw [h2] at q
    exact hr_tail (q0 := fun s29 => vl (x + 1) fun v30 => f_X12_hours_L26 y1 n s29 v30) (y1 := y1) (y2 := x) (h := h + 1) (by rw [c1, h2]) q b7 ⟨fun m hm => by rw [c3]; exact N2.1 m hm, fun j => by rw [c2]; exact N2.2 j⟩ I5 J7 r er R (fun u hu => Pc_vl (hq u hu))
  by_cases z : r4 = 0
  · refine Pc_ift z (Pc_b1 (fun s13 e13 => ?_))
    exact go s13 ((w_X11_machinesWork K4).at e13).1 (Or.inl ⟨z, e13⟩)
  · exact Pc_iff z (go s4 K4.1 (Or.inr ⟨z, rfl⟩))
end HQs
