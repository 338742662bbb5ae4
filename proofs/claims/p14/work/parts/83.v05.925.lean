/-! THREE MACHINES, THE CLASS: what each hole sees of them -/
section TMs
variable {s s' s1 s2 s3 u : SS}
/-- low cells as before, but for the three counts -/
def cL (s s' : SS) : Prop := (∀ q k, q < 126 → ¬ (q = 0 ∧ 16 ≤ k ∧ k ≤ 18) → zS s' q k = zS s q k) ∧ (∀ q j, q < 126 → zI s' q j = zI s q j) ∧ s'.2.2.2 = s.2.2.2
theorem cL.rf : cL s s := ⟨fun _ _ _ _ => rfl, fun _ _ _ => rfl, rfl⟩
theorem cL.tr {r : SS} (h : cL s s') (g : cL s' r) : cL s r := ⟨fun q k a b => (g.1 q k a b).trans (h.1 q k a b), fun q j a => (g.2.1 q j a).trans (h.2.1 q j a), g.2.2.trans h.2.2⟩
theorem cL.R (h : cL s s') (a i : Nat) : zR s' a i = zR s a i := by unfold zR; rw [h.2.2]
theorem cL.a {m : Nat} (h : cL s s') (hm : m < 3) : act s' m = act s m := by
  unfold act hO
  rw [h.1 (20 + m) 2 (by omega) (by omega), h.1 0 14 (by omega) (by omega), h.1 (20 + m) 1 (by omega) (by omega), h.1 15 3 (by omega) (by omega), h.R]
theorem MD.l {p : Nat} (h : MD p s s') : cL s s' := ⟨h.2.1, h.2.2.1, h.1.2.2⟩
theorem act_o {m p : Nat} (C : CI s) (h : act s m = some p) : okH s p := by
  unfold act at h
  by_cases z : zS s (20 + m) 2 < zS s 0 14
  · rw [if_pos z] at h
    exact (hO_ok C.1 C.2.1 h).2.2
  · rw [if_neg z] at h
    cases h
theorem mSt.o {m : Nat} (C : CI s) (h : mSt m s s') : CI s' ∧ cL s s' ∧ ∀ i q, i < 120 → zR s 17 i = some q → act s m ≠ some q → sHp q s s' := by
  obtain ⟨c, d⟩ := h.ci C
  refine ⟨c, ?_, fun i q hi hq ne => ?_⟩
  · rcases d with ⟨_, e⟩ | ⟨p, _, M⟩
    · rw [e]; exact cL.rf
    · exact M.l
  · rcases d with ⟨_, e⟩ | ⟨p, ha, M⟩
    · rw [e]; exact sHp.rf
    · exact M.h (act_o C ha) (C.1.2.2.1 i q hi hq) (fun z => ne (by rw [ha, z]))
theorem mSt.e {m q : Nat} (h : mSt m s s') (ha : act s m = some q) : f_X11_boreOn (pS s q 5 (zS s q 5 + 60)) q (zS s (20 + m) 0) = some s' := by
  rcases h with ⟨n, _⟩ | ⟨p, hp, e⟩
  · rw [n] at ha; cases ha
  · rw [hp] at ha
    rw [← Option.some.inj ha]
    exact e
/-- what a hole with one machine sees: as it was up to a, bored from a to b, as in b to the end -/
def oneM (s s3 : SS) (m q : Nat) : Prop := ∃ a b, CI a ∧ cL s a ∧ sHp q s a ∧ f_X11_boreOn (pS a q 5 (zS a q 5 + 60)) q (zS s (20 + m) 0) = some b ∧ sHp q b s3
theorem m3_o (C : CI s) (h0 : mSt 0 s s1) (h1 : mSt 1 s1 s2) (h2 : mSt 2 s2 s3) : CI s3 ∧ cL s s3 ∧ (∀ i q, i < 120 → zR s 17 i = some q → (∀ m, m < 3 → act s m ≠ some q) → sHp q s s3) ∧ ∀ m i q, m < 3 → i < 120 → zR s 17 i = some q → act s m = some q → (∀ m', m' < 3 → m' ≠ m → act s m' ≠ some q) → oneM s s3 m q := by
  obtain ⟨C1, L1, k1⟩ := h0.o C
  obtain ⟨C2, L2, k2⟩ := h1.o C1
  obtain ⟨C3, L3, k3⟩ := h2.o C2
  have L12 := L1.tr L2
  have a1 : act s1 1 = act s 1 := L1.a (by omega)
  have a2 : act s2 2 = act s 2 := L12.a (by omega)
  have r1 : ∀ i, zR s1 17 i = zR s 17 i := fun i => L1.R 17 i
  have r2 : ∀ i, zR s2 17 i = zR s 17 i := fun i => L12.R 17 i
  refine ⟨C3, L12.tr L3, fun i q hi hq n => ?_, fun m i q hm hi hq ha n => ?_⟩
  · exact ((k1 i q hi hq (n 0 (by omega))).tr (k2 i q hi ((r1 i).trans hq) (by rw [a1]; exact n 1 (by omega)))).tr (k3 i q hi ((r2 i).trans hq) (by rw [a2]; exact n 2 (by omega)))
  · have j1 : m ≠ 0 → sHp q s s1 := fun z => k1 i q hi hq (n 0 (by omega) (fun w => z w.symm))
    have j2 : m ≠ 1 → sHp q s1 s2 := fun z => k2 i q hi ((r1 i).trans hq) (by rw [a1]; exact n 1 (by omega) (fun w => z w.symm))
    have j3 : m ≠ 2 → sHp q s2 s3 := fun z => k3 i q hi ((r2 i).trans hq) (by rw [a2]; exact n 2 (by omega) (fun w => z w.symm))
    have cs : m = 0 ∨ m = 1 ∨ m = 2 := by omega
    rcases cs with z | z | z
    · rw [z] at ha j2 j3 ⊢
      exact ⟨s, s1, C, cL.rf, sHp.rf, h0.e ha, (j2 (by omega)).tr (j3 (by omega))⟩
    · rw [z] at ha j1 j3 ⊢
      have e := h1.e (a1.trans ha)
      rw [L1.1 (20 + 1) 0 (by omega) (by omega)] at e
      exact ⟨s1, s2, C1, L1, j1 (by omega), e, j3 (by omega)⟩
    · rw [z] at ha j1 j2 ⊢
      have e := h2.e (a2.trans ha)
      rw [L12.1 (20 + 2) 0 (by omega) (by omega)] at e
      exact ⟨s2, s3, C2, L12, (j1 (by omega)).tr (j2 (by omega)), e, sHp.rf⟩
/-- one hole bored on both sides -/
theorem bm_l {p i : Nat} {x v : Int32} (hx : x.toInt = i) (hi : i < 120) (hp : 0 ≤ v.toInt ∧ v.toInt ≤ 60) (o : okH s p) (c : CH s p) (h16 : 0 ≤ (zS s 0 16).toInt ∧ (zS s 0 16).toInt ≤ 7200) (h17 : 0 ≤ (zS s 0 17).toInt ∧ (zS s 0 17).toInt ≤ 120) (hd : ∀ j, 0 ≤ (zI s 2 j).toInt ∧ (zI s 2 j).toInt ≤ 9) (X : HX (pS s p 5 (zS s p 5 + 60)) p u i) (E : BE s u) (h69 : 0 ≤ (zI u 69 i).toInt ∧ (zI u 69 i).toInt ≤ 1700) (h68 : 0 ≤ (zI u 68 i).toInt) (e : f_X11_boreOn (pS s p 5 (zS s p 5 + 60)) p v = some s') : Pc (f_X12_bore u x v) (fun u' => BW p i (pS s p 5 (zS s p 5 + 60)) u s' u') := by
  have o1 := o.1
  obtain ⟨d1, d2, d3⟩ := c
  have zk : ∀ k, k ≠ 5 → zS (pS s p 5 (zS s p 5 + 60)) p k = zS s p k := fun k hk => by rw [zS_pS, if_neg (by omega)]
  have zs : ∀ q k, q ≠ p → zS (pS s p 5 (zS s p 5 + 60)) q k = zS s q k := fun q k hq => by rw [zS_pS, if_neg (by omega)]
  have o' : okH (pS s p 5 (zS s p 5 + 60)) p := o.hW hW.rf.wS
  have E' : BE (pS s p 5 (zS s p 5 + 60)) u := by
    obtain ⟨e1, e2, e3, e4, e5, e6, e7⟩ := E
    refine ⟨e1, ?_, ?_, ?_, ?_, ?_, ?_⟩
    · rw [zs 0 14 (by omega)]; exact e2
    · rw [zs 0 14 (by omega)]; exact e3
    · rw [zs 15 5 (by omega)]; exact e4
    · rw [zs 15 6 (by omega)]; exact e5
    · rw [zs 15 7 (by omega)]; exact e6
    · rw [zs 15 8 (by omega)]; exact e7
  have p6 : 0 ≤ (zS s p 6).toInt := by
    rcases d3 with w | w
    · rw [w, jl0]; omega
    · rw [w, jl1]; omega
  have n1 : (zS (pS s p 5 (zS s p 5 + 60)) p 4 + 1).toInt = (zS (pS s p 5 (zS s p 5 + 60)) p 4).toInt + 1 := by
    rw [zk 4 (by omega), i32_add (by rw [jl1]; omega) (by rw [jl1]; omega), jl1]
  exact bore_l hx hi hp 4000 4000 (pS s p 5 (zS s p 5 + 60)) u _ o' X E' n1 (by rw [zk 4 (by omega)]; exact d1.1) (by rw [zk 3 (by omega)]; exact d2) h69 h68 (by rw [zs 0 16 (by omega), zk 4 (by omega)]; omega) (by rw [zs 0 17 (by omega), zk 6 (by omega)]; omega) hd s' e
end TMs
