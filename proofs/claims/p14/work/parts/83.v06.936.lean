/-! THE HOUR, both sides -/
section HGs
variable {s t : SS}
def HR (h : Int) (s t : SS) : Prop := Q4h h s t ∧ B1 s t ∧ QRng s t ∧ Iv s ∧ Iv t ∧ (zS s 0 14).toInt = h
theorem hr_tail {q0 : SS → Option (Int32 × SS)} {y1 y2 : Int32} {h : Int} (hh : h = (zS s 0 14).toInt) (Q : Q4k (h - 1) h s t) (B : B1 s t) (N : QRng s t) (I : Iv s) (J : Iv t) : Pc (b1 (f_X9_arrivals s (zS s 0 14)) fun s6 => (jn (fun (s7 : SS)  => (b1 (f_X11_rockMoves s7) fun s8 => some s8)) fun k7 => (if ((zS s6 0 14) % (24 : Int32)) = (0 : Int32) then (b1 (f_X11_menEat s6) fun s11 => (k7 s11)) else (k7 s6)))) (fun r => ∀ R : Int32 × SS → Prop, (∀ u, HR h r u → Pc (q0 u) R) → Pc (b1 (f_X12_comeDown t) fun s8 => (jn (fun (s10 : SS)  => (f_X12_hours_L65 q0 y1 y2 4000 s10 0)) fun k10 => (if ((zS s8 59 1) % (24 : Int32)) = (0 : Int32) then (b1 (f_X12_eat s8) fun s32 => (k10 s32)) else (k10 s8)))) R) := by
  -- the moves, from any two states
  have mvs : ∀ s7 t7, Q4h h s7 t7 → B1 s7 t7 → QRng s7 t7 → Iv s7 → Iv t7 → zS s7 0 14 = zS s 0 14 → Pc (b1 (f_X11_rockMoves s7) fun s8 => some s8) (fun r => ∀ R : Int32 × SS → Prop, (∀ u, HR h r u → Pc (q0 u) R) → Pc (f_X12_hours_L65 q0 y1 y2 4000 t7 0) R) := by
    intro s7 t7 Q7 B7 N7 I7 J7 h7
    have M0 : MVq s7 t7 s7 t7 := ⟨B7.2.2.1, Q7.2.2.2.2.2.1.2.2.2.1, Frm.rf, Frm.rf, fun _ => Or.inl rfl, I7, J7⟩
    refine Pc_b1 (Pc.mono (mv_l B7 Q7.2.2.2.2.2.1 4000 4000 s7 t7 0 (by decide) M0) (fun r hr => Pc_some (fun R hq => hr R (fun u M => hq u ?_))))
    obtain ⟨m1, m2, m3, m4, m5, m6, m7⟩ := id M
    refine ⟨Q7.mv B7.1.sh M, B7.mv m6 M, ⟨fun m hm => ?_, fun j => ?_⟩, m6, m7, ?_⟩
    · rw [m4.2.1 78 m rfl]; exact N7.1 m hm
    · rcases m5 j with w | w
      · rw [w]; exact N7.2 j
      · rw [w]; decide
    · rw [m3.1 0 14 rfl, h7, hh]
  refine Pc_b1 (fun s6 e6 => ?_)
  have I6 : Iv s6 := ((w_X9_arrivals (a0 := zS s 0 14) (Lk.rf I)).at e6).1
  have A := ar_p hh Q B s6 e6 I6
  have h6 : zS s6 0 14 = zS s 0 14 := ((w_X9_arrivals (a0 := zS s 0 14) (Lk.rf I)).at e6).2.2.1 0 14 rfl
  refine Pc_jn ?_
  by_cases z : zS s6 0 14 % 24 = 0
  · refine Pc_ift z (Pc_b1 (fun s11 e11 => ?_))
    have K11 := (w_X11_menEat (Lk.rf I6)).at e11
    intro r er R hq
    refine Pc_b1 (fun t8 e8 => ?_)
    obtain ⟨Q8, B8, F8, G8⟩ := A t8 e8
    have J8 : Iv t8 := ((w_X12_comeDown (Lk.rf J)).at e8).1
    refine Pc_jn (Pc_ift (by rw [← B8.2.1.1]; exact z) (Pc_b1 (fun t9 e9 => ?_)))
    obtain ⟨Q9, B9, F9, G9⟩ := ea_p J8 Q8 B8 s11 e11 t9 e9
    have J9 : Iv t9 := ((w_X12_eat (Lk.rf J8)).at e9).1
    exact mvs s11 t9 Q9 B9 ⟨fun m hm => by rw [G9.2.1 78 m rfl, G8.2.1 78 m rfl]; exact N.1 m hm, fun j => by rw [F9.2.1 2 j rfl, F8.2.1 2 j rfl]; exact N.2 j⟩ K11.1 J9 ((F9.1 0 14 rfl).trans h6) r er R hq
  · refine Pc_iff z ?_
    intro r er R hq
    refine Pc_b1 (fun t8 e8 => ?_)
    obtain ⟨Q8, B8, F8, G8⟩ := A t8 e8
    have J8 : Iv t8 := ((w_X12_comeDown (Lk.rf J)).at e8).1
    refine Pc_jn (Pc_iff (by rw [← B8.2.1.1]; exact z) ?_)
    exact mvs s6 t8 Q8 B8 ⟨fun m hm => by rw [G8.2.1 78 m rfl]; exact N.1 m hm, fun j => by rw [F8.2.1 2 j rfl]; exact N.2 j⟩ I6 J8 h6 r er R hq
end HGs
