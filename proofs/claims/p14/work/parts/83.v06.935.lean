/-! THE OTHER RELATIONS when the clock has gone on; behind the moves -/
section BGs
variable {s t r u : SS}
theorem B1.g (B : B1 s t) (I : Iv r) (R : ∀ i, zR r 17 i = zR s 17 i) (l : ∀ q k, bS q k = true → q < 59 → ¬ (q = 0 ∧ k = 14) → zS r q k = zS s q k) (m : ∀ k, bS 59 k = true → k ≠ 1 → zS u 59 k = zS t 59 k) (li : ∀ q j, q ≠ 2 → q ≠ 3 → bI q = true → zI r q j = zI s q j) (mi : ∀ q j, q ≠ 60 → q ≠ 61 → bI q = true → zI u q j = zI t q j) (h14 : zS r 0 14 = zS u 59 1) (hr : 0 ≤ (zS r 0 14).toInt ∧ (zS r 0 14).toInt ≤ 1699) (rk : RKx r u) : B1 r u := by
  obtain ⟨⟨⟨a1, a2, a3, a4, a5⟩, b, c, d, e, f, g, k⟩, ⟨t1, t2, t3, t4, t5⟩, kx, cx⟩ := B
  have mm : ∀ i, i < 3 → bS (20 + i) 0 = true ∧ bS (20 + i) 1 = true := fun i hi => by
    have : i = 0 ∨ i = 1 ∨ i = 2 := by omega
    rcases this with w | w | w <;> subst w <;> exact ⟨rfl, rfl⟩
  refine ⟨⟨⟨?_, ?_, ?_, ?_, ?_⟩, fun i => ?_, fun i => ?_, fun i hi => ?_, fun i hi => ?_, I.1.1, fun q k h => I.1.2.1 q k (by omega), I.1.2.2.2.1⟩, ⟨h14, ?_, fun i => ?_, fun i => ?_, hr⟩, rk, fun i => ?_⟩
  · rw [l 15 3 rfl (by omega) (by omega), m 4 rfl (by omega)]; exact a1
  · rw [l 15 5 rfl (by omega) (by omega), m 21 rfl (by omega)]; exact a2
  · rw [l 0 5 rfl (by omega) (by omega), m 30 rfl (by omega)]; exact a3
  · rw [l 0 8 rfl (by omega) (by omega), m 38 rfl (by omega)]; exact a4
  · rw [l 0 15 rfl (by omega) (by omega), m 29 rfl (by omega)]; exact a5
  · rw [li 16 i (by omega) (by omega) rfl, mi 62 i (by omega) (by omega) rfl]; exact b i
  · rw [li 9 i (by omega) (by omega) rfl, mi 76 i (by omega) (by omega) rfl]; exact c i
  · rw [l (20 + i) 0 (mm i hi).1 (by omega) (by omega), l (20 + i) 1 (mm i hi).2 (by omega) (by omega), mi 78 i (by omega) (by omega) rfl, mi 79 i (by omega) (by omega) rfl]; exact d i hi
  · rw [R, l 15 3 rfl (by omega) (by omega), li 16 i (by omega) (by omega) rfl]; exact e i hi
  · rw [l 1 4 rfl (by omega) (by omega), m 56 rfl (by omega)]; exact t2
  · rw [li 4 i (by omega) (by omega) rfl, mi 97 i (by omega) (by omega) rfl]; exact t3 i
  · rw [li 5 i (by omega) (by omega) rfl, mi 98 i (by omega) (by omega) rfl]; exact t4 i
  · rw [mi 97 i (by omega) (by omega) rfl]; exact cx i
theorem B1.hr (B : B1 s t) (I : Iv (pS s 0 14 (zS s 0 14 + 1))) (hr : (zS s 0 14).toInt + 1 ≤ 1699) : B1 (pS s 0 14 (zS s 0 14 + 1)) (pS t 59 1 (zS t 59 1 + 1)) := by
  have b := B.2.1.2.2.2.2
  have n1 : (zS s 0 14 + 1).toInt = (zS s 0 14).toInt + 1 := by rw [i32_add (by rw [jl1]; omega) (by rw [jl1]; omega), jl1]
  have e14 : zS (pS s 0 14 (zS s 0 14 + 1)) 0 14 = zS s 0 14 + 1 := by rw [zS_pS, if_pos ⟨rfl, rfl⟩]
  have e1 : zS (pS t 59 1 (zS t 59 1 + 1)) 59 1 = zS t 59 1 + 1 := by rw [zS_pS, if_pos ⟨rfl, rfl⟩]
  exact B.g I (fun _ => rfl) (fun q k _ _ w => by rw [zS_pS, if_neg w]) (fun k _ w => by rw [zS_pS, if_neg (by omega)]) (fun _ _ _ _ _ => rfl) (fun _ _ _ _ _ => rfl) (by rw [e14, e1, B.2.1.1]) (by rw [e14, n1]; omega) B.2.2.1
theorem B1.mv (B : B1 s t) (I : Iv r) (M : MVq s t r u) : B1 r u := by
  obtain ⟨rk, e, F, G, _⟩ := M
  have fS : ∀ q k, bS q k = true → zS r q k = zS s q k := fun q k w => F.1 q k (nct (f := fun p => !bS p.1 p.2) (by decide) (by show (!bS q k) = false; rw [w]; rfl))
  have gS : ∀ k, bS 59 k = true → zS u 59 k = zS t 59 k := fun k w => G.1 59 k (nct (f := fun p => !bS p.1 p.2) (by decide) (by show (!bS 59 k) = false; rw [w]; rfl))
  exact B.g I (fun i => by unfold zR; rw [F.2.2.2]) (fun q k w _ _ => fS q k w) (fun k w _ => gS k w) (fun q j w1 w2 _ => F.2.1 q j (by simp [w1, w2])) (fun q j w1 w2 _ => G.2.1 q j (by simp [w1, w2])) (by rw [fS 0 14 rfl, gS 1 rfl]; exact B.2.1.1) (by rw [fS 0 14 rfl]; exact B.2.1.2.2.2.2) rk
end BGs
