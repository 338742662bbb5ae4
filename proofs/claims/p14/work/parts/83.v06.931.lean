/-! THE HOUR'S FIRST PART, both sides -/
section DPs
variable {s s' t : SS}
/-- what stands behind the hour's first part -/
def HQ (s t s' t' : SS) : Prop := Q4k ((zS s 0 14).toInt - 1) (zS s 0 14).toInt s' t' ∧ B1 s' t' ∧ zS s' 0 14 = zS s 0 14 ∧ (∀ j, zI s' 2 j = zI s 2 j) ∧ ∀ j, zI t' 78 j = zI t 78 j
theorem dl_p {r3 x1 : Int32} {s4 : SS} (I' : Iv s') (B : B1 s t) (Q : Q4h ((zS s 0 14).toInt - 1) s t) (hp : ∀ m, m < 3 → 0 ≤ (zI t 78 m).toInt ∧ (zI t 78 m).toInt ≤ 60) (hd : ∀ j, 0 ≤ (zI s 2 j).toInt ∧ (zI s 2 j).toInt ≤ 9) (e3 : f_X11_latestText s 0 2 (zS s 0 14) (zS s 0 14) = some r3) (e4 : f_X11_given s r3 2 (-1) = some (x1, s4)) (e5 : (x1 = 0 ∧ f_X11_machinesWork s4 = some s') ∨ (¬ x1 = 0 ∧ s' = s4)) : Pc (f_X12_drill t) (fun t' => HQ s t s' t') := by
  have S := B.1.sh
  have b := B.1.tot
  have e14 : zS s 0 14 = zS t 59 1 := B.2.1.1
  have fx : Frm [] [28, 29] [] s s4 := v_X11_given (WS := []) (WI := [28, 29]) (WJ := []) (b := s) (s0 := s) (a0 := r3) (a1 := 2) (a2 := -1) S (by decide) (by decide) Frm.rf (x1, s4) e4
  unfold f_X12_drill
  refine dr2_l (by rw [← b.1]; exact b.2) (fun t5 F5 z5 => Pc_bd ?_) 4000 t 0 (by rw [jl0]; omega) (by rw [jl0, ← b.1]; exact b.2.1) Frm.rf (fun i hi => by rw [jl0] at hi; omega)
  have B5 : B1 s t5 := B.f (Frm.rf : Frm [] [] [] s s) F5 (by decide) (by decide) (by decide) (by decide) (fun q k v hc => by cases hc)
  have Q5 : Q4h ((zS s 0 14).toInt - 1) s t5 := Q.f S b.2.2 (Frm.rf : Frm [] [] [] s s) F5 (by decide) (by decide) (by decide) (by decide) (by decide)
  have h5 : zS t5 59 1 = zS s 0 14 := (F5.1 59 1 rfl).trans e14.symm
  cases ef : f_X12_forceOf t5 2 (zS s 0 14) (zS s 0 14) with
  | none =>
    unfold f_X12_saysNow
    exact Pc_b1 (fun r' er => by rw [h5, ef] at er; cases er)
  | some r' =>
    obtain ⟨g1, g2⟩ := frc_p (w := 2) (side := 0) (use := 2) (h := zS s 0 14) (k := zS s 0 14) B5 Q5.w (by decide) (by decide) (by decide) r3 e3 r' ef
    have gv := gv_p (w := 2) (use := 2) (man := -1) (wo := 0) (r := r3) B5 Q5.w (by decide) (Or.inl (by decide)) g2 (fun r'' er => by rw [h5, ef] at er; exact (Option.some.inj er).symm.trans g1) (x1, s4) e4
    have mx := v_X12_saysNow (WS := []) (WI := [95, 96]) (WJ := []) (b := t5) (s0 := t5) (a0 := 2) (a1 := -1) (a2 := 0) (by decide) (by decide) Frm.rf
    refine Pc.mono (gv.and mx) (fun m6 h6 => ?_)
    obtain ⟨e6, f6⟩ := h6
    have e6' : m6.1 = x1 := e6
    generalize m6.2 = t6 at f6 ⊢
    rw [e6']
    have Q6 : Q4h ((zS s 0 14).toInt - 1) s4 t6 := Q5.f S b.2.2 fx f6 (by decide) (by decide) (by decide) (by decide) (by decide)
    have B6 : B1 s4 t6 := B5.f fx f6 (by decide) (by decide) (by decide) (by decide) (fun q k v hc => by cases hc)
    have E14 : zS s4 0 14 = zS s 0 14 := fx.1 0 14 rfl
    have k6 : zS t6 59 1 = zS s 0 14 := (f6.1 59 1 rfl).trans h5
    have k78 : ∀ j, zI t6 78 j = zI t 78 j := fun j => (f6.2.1 78 j rfl).trans (F5.2.1 78 j rfl)
    have k4 : zS t6 59 4 = zS t 59 4 := (f6.1 59 4 rfl).trans (F5.1 59 4 rfl)
    have Qk : Q4k ((zS s 0 14).toInt - 1) ((zS s 0 14).toInt - 1) s4 t6 := Q6
    rcases e5 with ⟨z, e5⟩ | ⟨z, e5⟩
    · refine Pc_ift z ?_
      have C6 := Q6.ci B6
      have dd := mw_d C6 s' e5
      have A6 : MA s4 t6 := fun m hm => ⟨(B6.1.2.2.2.1 m hm).1, (B6.1.2.2.2.1 m hm).2, Q6.2.2.2.2.2.2.1 m hm⟩
      have E6 : BE s4 t6 := ⟨B6.2.2.1, B6.2.1.1, B6.2.1.2.2.2.2, B6.1.1.2.1, Q6.2.2.2.2.2.1.1, Q6.2.2.2.2.2.1.2.1, Q6.2.2.2.2.2.1.2.2.1⟩
      have K6 : QKep ((zS t6 59 1).toInt - 1) t6 := by rw [k6]; exact Q6.2.2.2.2.2.2.2.2.2.2.2.2
      have de := dr_e C6 A6 E6 Q6.1 Q6.2.2.1 Q6.2.2.2.1 Q6.2.2.2.2.2.2.2.2.1 K6 (fun m hm => by rw [k78]; exact hp m hm) (fun j => by rw [fx.2.1 2 j rfl]; exact hd j) B6.1.1.1 B6.1.tot.2.1 (fun i hi => by rw [f6.2.1 99 i rfl]; exact z5 i (by rw [← k4]; exact hi)) s' e5
      have vf : Pc (f_X12_drill_L36 (fun (s33 : SS) => (f_X12_drill_L119 4000 s33 0)) 4000 t6 0) (fun r => Frm [] [65, 67, 68, 69, 71, 95, 96, 99, 100] [] t6 r) := v_X12_drill_L36 (WS := []) (WI := [65, 67, 68, 69, 71, 95, 96, 99, 100]) (WJ := []) (b := t6) rfl rfl rfl (fun z0 F3 => v_X12_drill_L119 rfl rfl rfl rfl rfl (fun _ h => h) _ _ _ F3) 4000 t6 0 Frm.rf
      refine Pc.mono (de.and vf) (fun t' h => ?_)
      obtain ⟨⟨d1, d2, d3, d4, L, _, _, _⟩, Ft⟩ := h
      rw [k6] at d4
      exact ⟨Qk.dr B6.1.sh B6.1.tot.2.2 L dd Ft d1 d2 d3 d4, B6.dr I' L Ft, (L.1 0 14 (by omega) (by omega)).trans E14, fun j => (L.2.1 2 j (by omega)).trans (fx.2.1 2 j rfl), fun j => (Ft.2.1 78 j rfl).trans (k78 j)⟩
    · refine Pc_iff z (Pc_some ?_)
      rw [e5]
      obtain ⟨a1, a2, a3, a4, a5, a6, a7, a8, a9, a10, a11, a12, a13⟩ := Qk
      exact ⟨⟨a1, a2, a3, a4, a5, a6, a7, a8, a9, a10, a11, a12, fun i hi => ⟨(a13 i hi).1, by have := (a13 i hi).2; omega⟩⟩, B6, E14, fun j => fx.2.1 2 j rfl, k78⟩
end DPs
