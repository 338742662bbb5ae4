/-! WHAT THE TEXT IN FORCE GIVES -/
section GVs
variable {s t : SS}
def naX (s : SS) (a b c : Int32) : SS := pI (pI (pI (pI (pI (pI (pI (pI s 28 0 (zS s 0 14)) 28 1 (zS s 0 14 / 24)) 28 2 a) 28 3 b) 28 4 c) 28 5 (zS s 6 4)) 28 6 (zS s 30 0)) 28 7 (zS s 0 17)
def fcM (t : SS) (a b c d e : Int32) : SS := pI (pI (pI (pI (pI (pI (pI (pI t 95 0 (zS t 59 1)) 95 1 (zS t 59 1 / 24)) 95 2 a) 95 3 b) 95 4 c) 95 5 d) 95 6 (zS t 59 54)) 95 7 e
/-- a man's own: his; else 0 -/
def own (s : SS) (q : Nat) (man : Int32) : Int32 := if man.toInt < 0 then 0 else zI s q man.toInt.toNat
theorem giv_x {r use man : Int32} {p : Nat} {P : Int32 × SS → Prop} (B : B1 s t) (h0 : 0 ≤ r.toInt) (h1 : r.toInt < (zS s 0 8).toInt) (hp : zR s 27 r.toInt.toNat = some p) (hm : man.toInt < 0 ∨ (0 ≤ man.toInt ∧ man.toInt < (zS s 15 3).toInt ∧ zI s 16 man.toInt.toNat = 7)) (h : Pc (bd (f_X10_worth (naX s (own s 7 man) (own s 8 man) (own s 9 man)) p) fun r27 s27 => some (r27, s27)) P) : Pc (f_X11_given s r use man) P := by
  unfold f_X11_given
  refine Pc_jn (Pc_iff (by rw [jlt, jl0]; omega) (Pc_ift (by rw [jlt]; exact h1) (Pc_gd (fun _ => ?_))))
  rw [hp]
  refine Pc_onS (Pc_b1 ?_)
  rcases hm with hm | ⟨m1, m2, m3⟩
  · rw [kindXf (by omega)]
    refine Pc_some (Pc_jn (Pc_iff (by decide) ?_))
    refine Pc_vl (Pc_st (Pc_vl (Pc_st ?_)))
    refine Pc_jn (Pc_if00 (Pc_st ?_))
    refine Pc_jn (Pc_if00 (Pc_st ?_))
    refine Pc_jn (Pc_if00 (Pc_st ?_))
    refine Pc_vl (Pc_st (Pc_vl (Pc_st (Pc_vl (Pc_st ?_)))))
    unfold own at h
    rw [if_pos hm, if_pos hm, if_pos hm] at h
    exact h
  · rw [kindX B ⟨m1, m2⟩, m3]
    refine Pc_some (Pc_jn (Pc_ift rfl ?_))
    refine Pc_vl (Pc_st (Pc_vl (Pc_st ?_)))
    refine Pc_jn (Pc_if10 (Pc_gd (fun _ => Pc_st ?_)))
    refine Pc_jn (Pc_if10 (Pc_gd (fun _ => Pc_st ?_)))
    refine Pc_jn (Pc_if10 (Pc_gd (fun _ => Pc_st ?_)))
    refine Pc_vl (Pc_st (Pc_vl (Pc_st (Pc_vl (Pc_st ?_)))))
    unfold own at h
    rw [if_neg (by omega), if_neg (by omega), if_neg (by omega)] at h
    exact h
theorem say_m {w man wo r : Int32} {P : Int32 × SS → Prop} {hq : Int} (B : B1 s t) (Q : Q4w hq s t) (hf : ∀ r', f_X12_forceOf t w (zS t 59 1) (zS t 59 1) = some r' → r' = r) (h0 : 0 ≤ r.toInt) (h : Pc (bd (f_X12_gives (fcM t (own t 74 man) (own t 75 man) (own t 76 man) (zS s 6 4) (zS s 0 17)) r) fun r26 s26 => some (r26, s26)) P) : Pc (f_X12_saysNow t w man wo) P := by
  have b := B.1.tot
  unfold f_X12_saysNow
  refine Pc_b1 (fun r' er => ?_)
  rw [hf r' er]
  refine (Pc_iff (by rw [jlt, jl0]; omega) (thr_l (by rw [← b.1]; exact b.2) (fun z hz => ?_) 4000 0 0 (by decide) (by rw [← b.1, jl0]; exact b.2.1) rfl (by decide)))
  have ez : z = zS s 0 17 := Int32.toInt_inj.1 (by rw [hz, thr_t B Q])
  rw [ez]
  have M : ∀ t', (∀ i, zI t' 74 i = zI t 74 i) → (∀ i, zI t' 75 i = zI t 75 i) → (∀ i, zI t' 77 i = zI t 77 i) → zS t' 59 4 = zS t 59 4 → Pc (f_X12_menBelow t') (fun r => r = zS s 6 4) := fun t' h1 h2 h3 h4 => men_p (by rw [h4]; exact b) (Q.2.1.c (fun _ => rfl) (fun _ => rfl) (fun _ => rfl) (fun _ => rfl) rfl rfl h1 h2 h3)
  unfold own at h
  by_cases hm : man.toInt < 0
  · rw [if_pos hm, if_pos hm, if_pos hm] at h
    have c : man < 0 := by rw [jlt, jl0]; exact hm
    refine Pc_vl (Pc_st (Pc_vl (Pc_st ?_)))
    refine Pc_jn (Pc_ift c (Pc_st ?_))
    refine Pc_jn (Pc_ift c (Pc_st ?_))
    refine Pc_jn (Pc_ift c (Pc_st ?_))
    refine Pc_b1 (Pc.mono (M _ (fun _ => rfl) (fun _ => rfl) (fun _ => rfl) rfl) (fun r21 h21 => Pc_st (Pc_vl (Pc_st (Pc_st ?_)))))
    rw [h21]
    exact h
  · rw [if_neg hm, if_neg hm, if_neg hm] at h
    have c : ¬ man < 0 := by rw [jlt, jl0]; exact hm
    refine Pc_vl (Pc_st (Pc_vl (Pc_st ?_)))
    refine Pc_jn (Pc_iff c (Pc_gd (fun _ => Pc_st ?_)))
    refine Pc_jn (Pc_iff c (Pc_gd (fun _ => Pc_st ?_)))
    refine Pc_jn (Pc_iff c (Pc_gd (fun _ => Pc_st ?_)))
    refine Pc_b1 (Pc.mono (M _ (fun _ => rfl) (fun _ => rfl) (fun _ => rfl) rfl) (fun r21 h21 => Pc_st (Pc_vl (Pc_st (Pc_st ?_)))))
    rw [h21]
    exact h
/-- what is given is said -/
theorem gv_p {w use man wo r : Int32} {hq : Int} (B : B1 s t) (Q : Q4w hq s t) (hwo : wo = if use = 0 then 1 else 0) (hm : man.toInt < 0 ∨ (0 ≤ man.toInt ∧ man.toInt < (zS s 15 3).toInt ∧ zI s 16 man.toInt.toNat = 7)) (hr : r = -2 ∨ (0 ≤ r.toInt ∧ r.toInt < (zS s 0 8).toInt)) (hf : ∀ r', f_X12_forceOf t w (zS t 59 1) (zS t 59 1) = some r' → r' = r) : Pc (f_X11_given s r use man) (fun x => Pc (f_X12_saysNow t w man wo) (fun m => m.1 = x.1)) := by
  have b := B.1.tot
  rcases hr with hr | ⟨h0, h1⟩
  · unfold f_X11_given f_X12_saysNow
    rw [hr] at hf ⊢
    refine Pc_jn (Pc_ift (by decide) ?_)
    rw [hwo]
    by_cases z : use = 0
    · rw [if_pos z, if_pos z]
      exact Pc_some (Pc_b1 (fun r' er => by rw [hf r' er]; exact Pc_ift (by decide) (Pc_some rfl)))
    · rw [if_neg z, if_neg z]
      exact Pc_some (Pc_b1 (fun r' er => by rw [hf r' er]; exact Pc_ift (by decide) (Pc_some rfl)))
  have b8 : 0 ≤ (zS s 0 8).toInt ∧ (zS s 0 8).toInt ≤ 16 := B.1.fx (q := 0) (k := 8) (by omega)
  obtain ⟨p, hp, _, _, _, _, _, ls, t1, t2, t3, t4, t5, t6, t7, t8, t9⟩ := Q.2.2.2.2.2.2.2.2.2.2.1 r.toInt.toNat (by omega) (by omega)
  have op := B.1.sh.2.2.2.2.2.1 r.toInt.toNat p (by omega) hp
  have o1 := op.1
  have sI : ∀ q j, q ≠ 28 → zI (naX s (own s 7 man) (own s 8 man) (own s 9 man)) q j = zI s q j := fun q j hq => by
    unfold naX
    rw [zI_pI, if_neg (by omega), zI_pI, if_neg (by omega), zI_pI, if_neg (by omega), zI_pI, if_neg (by omega), zI_pI, if_neg (by omega), zI_pI, if_neg (by omega), zI_pI, if_neg (by omega), zI_pI, if_neg (by omega)]
  have mI : ∀ q j, q ≠ 95 → zI (fcM t (own t 74 man) (own t 75 man) (own t 76 man) (zS s 6 4) (zS s 0 17)) q j = zI t q j := fun q j hq => by
    unfold fcM
    rw [zI_pI, if_neg (by omega), zI_pI, if_neg (by omega), zI_pI, if_neg (by omega), zI_pI, if_neg (by omega), zI_pI, if_neg (by omega), zI_pI, if_neg (by omega), zI_pI, if_neg (by omega), zI_pI, if_neg (by omega)]
  have ow : own s 7 man = own t 74 man ∧ own s 8 man = own t 75 man ∧ own s 9 man = own t 76 man := by
    unfold own
    by_cases z : man.toInt < 0
    · rw [if_pos z, if_pos z, if_pos z, if_pos z, if_pos z, if_pos z]
      exact ⟨rfl, rfl, rfl⟩
    · rw [if_neg z, if_neg z, if_neg z, if_neg z, if_neg z, if_neg z]
      have := Q.2.1.1 man.toInt.toNat (by omega)
      exact ⟨this.1, this.2.1, B.1.2.2.1 _⟩
  obtain ⟨v, hv⟩ := tVal_ex (nm := fun j => if j < 8 then zI (naX s (own s 7 man) (own s 8 man) (own s 9 man)) 28 j else 0) ls t8
  obtain ⟨s', e1, _⟩ := worthX_l o1 ls (naX s (own s 7 man) (own s 8 man) (own s 9 man)) (-1) 0 (3999 - (clL ls).length) v hv t8 (fun j c h => by rw [sI _ _ (by omega), show (0 : Int32).toInt.toNat + j = j by rw [jl0]; omega]; exact t4 j c h) (by decide) (by rw [jl0]; show (0 : Int) + _ = ((zN s (p + 1) : Nat) : Int); rw [t1]; omega) (by show zN s (p + 1) ≤ 161; rw [t1]; exact t2) rfl (fun j => rfl)
  have eW : f_X10_worth (naX s (own s 7 man) (own s 8 man) (own s 9 man)) p = some (v, s') := by
    rw [show 3999 - (clL ls).length + (clL ls).length + 1 = 4000 by omega] at e1
    exact e1
  obtain ⟨t', e2, _⟩ := gives_l (y1 := r) (i := r.toInt.toNat) (nm := fun j => if j < 8 then zI (naX s (own s 7 man) (own s 8 man) (own s 9 man)) 28 j else 0) (t := fcM t (own t 74 man) (own t 75 man) (own t 76 man) (zS s 6 4) (zS s 0 17)) (by omega) (by omega) t8 t3 t7 (fun j c h => by rw [mI 93 _ (by omega), mI 94 _ (by omega)]; exact t5 j c h) (by rw [mI 90 _ (by omega)]; exact t6) (fun k pr h => by rw [mI 91 _ (by omega), mI 92 _ (by omega)]; exact t9 k pr h) (fun j hj => by
    show (if j < 8 then zI (naX s (own s 7 man) (own s 8 man) (own s 9 man)) 28 j else 0) = _
    rw [if_pos hj, ow.1, ow.2.1, ow.2.2]
    have h14 : zS s 0 14 = zS t 59 1 := B.2.1.1
    have h30 : zS s 30 0 = zS t 59 54 := Q.2.2.2.2.1.1
    match j, hj with
    | 0, _ => exact h14
    | 1, _ => exact congrArg (· / 24) h14
    | 2, _ => rfl
    | 3, _ => rfl
    | 4, _ => rfl
    | 5, _ => rfl
    | 6, _ => exact h30
    | 7, _ => rfl) 4000 0 _ 0 0 v K29.rf rfl (by show (0 : Int) = _; rfl) hv (by omega) (by omega)
  refine giv_x B h0 h1 hp hm ?_
  rw [eW]
  refine Pc_bdS (Pc_some (say_m B Q hf h0 ?_))
  rw [show f_X12_gives (fcM t (own t 74 man) (own t 75 man) (own t 76 man) (zS s 6 4) (zS s 0 17)) r = some (v, t') from e2]
  exact Pc_bdS (Pc_some rfl)
end GVs
