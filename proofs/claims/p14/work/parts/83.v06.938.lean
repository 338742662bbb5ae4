/-! HOURS, both sides -/
section HSs
variable {s t : SS}
theorem hrs_l {y1 : Int32} (hy : y1.toInt ≤ 48) : ∀ (n m : Nat) (s t : SS) (x : Int32) (h : Int), HR h s t → 0 ≤ x.toInt → h + (y1.toInt - x.toInt) ≤ 1699 → Pc (f_X11_hours_L27 y1 n s x) (fun r => Pc (f_X12_hours_L26 y1 m t x) (fun v => v.1 = r.1 ∧ ∃ h', HR h' r.2 v.2))
  | 0, _, _, _, _, _, _, _, _ => Pc_none
  | n + 1, 0, _, _, _, _, _, _, _ => fun _ _ => Pc_none
  | n + 1, m + 1, s, t, x, h, K, hx, hh => by
    show Pc (f_X11_hours_L27_b y1 (f_X11_hours_L27 y1 n) s x) _
    unfold f_X11_hours_L27_b
    refine Pc_if (fun c => Pc_b1 ?_) (fun c => Pc_some ?_)
    · have c' := c
      rw [jlt] at c'
      have n1 : (x + 1).toInt = x.toInt + 1 := by rw [i32_add (by rw [jl1]; omega) (by rw [jl1]; omega), jl1]
      refine Pc.mono (hour_q (n := m) K (by omega) c) (fun s5 h5 => Pc_vl ?_)
      intro r er
      exact h5 _ (fun u hu => hrs_l hy n m s5 u (x + 1) (h + 1) hu (by omega) (by omega) r er)
    · show Pc (f_X12_hours_L26_b y1 (f_X12_hours_L26 y1 m) t x) _
      unfold f_X12_hours_L26_b
      exact Pc_iff c (Pc_some ⟨K.2.1.2.1.1.symm, h, K⟩)
theorem hrs_p {a : Int32} {h : Int} (K : HR h s t) : Pc (f_X11_hours s a) (fun r => Pc (f_X12_hours t a) (fun v => v.1 = r.1 ∧ ∃ h', HR h' r.2 v.2)) := by
  obtain ⟨Q, B, N, I, J, hh⟩ := id K
  have e : zS s 0 14 = zS t 59 1 := B.2.1.1
  have b := B.2.1.2.2.2.2
  have j48 : (48 : Int32).toInt = 48 := rfl
  have j16 : (1699 : Int32).toInt = 1699 := rfl
  unfold f_X11_hours f_X12_hours
  by_cases c : (1 : Int32).toInt ≤ a.toInt ∧ a.toInt ≤ (48 : Int32).toInt
  · rw [in_t c]
    rw [jl1, j48] at c
    have n1 : (zS s 0 14 + a).toInt = (zS s 0 14).toInt + a.toInt := by rw [i32_add (by omega) (by omega)]
    refine Pc_iff (by rw [jlt, jl1]; omega) (Pc_iff (by rw [jlt, j48]; omega) ?_)
    rw [← e]
    refine Pc_if (fun d => Pc_some (Pc_b1S (Pc_iff (by decide) (Pc_ift d (Pc_some ⟨rfl, h, K⟩))))) (fun d => ?_)
    have d' := d
    rw [jlt, j16, n1] at d'
    refine Pc.mono (hrs_l (y1 := a) (by omega) 4000 4000 s t 0 h K (by decide) (by rw [jl0]; omega)) (fun r hr => Pc_b1S (Pc_iff (by decide) (Pc_iff d hr)))
  · rw [in_f c]
    rw [jl1, j48] at c
    refine Pc_if (fun _ => Pc_some (Pc_b1S (Pc_ift rfl (Pc_some ⟨rfl, h, K⟩)))) (fun d => Pc_if (fun _ => Pc_some (Pc_b1S (Pc_ift rfl (Pc_some ⟨rfl, h, K⟩)))) (fun d2 => ?_))
    rw [jlt, jl1] at d
    rw [jlt, j48] at d2
    omega
end HSs
