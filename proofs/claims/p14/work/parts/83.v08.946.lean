/-! WHAT THE REFERENCE'S READER WRITES: behind the stored texts alone -/
section KRs
variable {P : SS → Prop}
/-- kept by the marks, and by what is laid -/
def rdK (P : SS → Prop) : Prop := (∀ s k v, k = 47 ∨ k = 48 ∨ k = 49 → P s → P (pS s 59 k v)) ∧ ∀ s a b, P s → Pc (f_X12_lay s a b) P
theorem K_fault (H : rdK P) {s : SS} (h : P s) : Pc (f_X12_faultHere s) P := by
  unfold f_X12_faultHere
  exact Pc_if (fun _ => Pc_vl (Pc_st (Pc_some (H.1 _ _ _ (by omega) h)))) (fun _ => Pc_some h)
theorem K_opens (H : rdK P) {s : SS} (h : P s) : Pc (f_X12_opens s) (fun x => P x.2) := by
  unfold f_X12_opens
  exact Pc_if (fun _ => Pc_b1 (Pc.mono (K_fault H h) (fun _ h1 => Pc_some h1))) (fun _ => Pc_vl (Pc_st (Pc_vl (Pc_st (Pc_some (H.1 _ _ _ (by omega) (H.1 _ _ _ (by omega) h)))))))
section RCs
variable {rec : SS → Option SS}
theorem K_prodL (H : rdK P) (hr : ∀ s, P s → Pc (rec s) P) : ∀ (n : Nat) (s : SS), P s → Pc (f_X12_product_L4 rec n s) P
  | 0, _, _ => Pc_none
  | n + 1, s, h => by
    show Pc (f_X12_product_L4_b rec (f_X12_product_L4 rec n) s) P
    unfold f_X12_product_L4_b
    refine Pc_if (fun _ => Pc_b1x (fun _ => Pc_jn0 ?_ (fun k hk => Pc_if (fun _ => hk) (fun _ => Pc_b1x (fun _ => Pc_if (fun _ => hk) (fun _ => Pc_b1x (fun _ => Pc_if (fun _ => hk) (fun _ => Pc_some h)))))))) (fun _ => Pc_some h)
    exact Pc_b1x (fun _ => Pc_vl (Pc_st (Pc_b1 (Pc.mono (hr _ (H.1 _ _ _ (by omega) h)) (fun u hu => Pc_b1 (Pc.mono (H.2 _ _ _ hu) (fun w hw => K_prodL H hr n w hw)))))))
theorem K_prod (H : rdK P) (hr : ∀ s, P s → Pc (rec s) P) {s : SS} (h : P s) : Pc (f_X12_product rec s) P := by
  unfold f_X12_product
  exact Pc_b1 (Pc.mono (hr s h) (fun u hu => K_prodL H hr 4000 u hu))
theorem K_sumL (H : rdK P) (hr : ∀ s, P s → Pc (rec s) P) : ∀ (n : Nat) (s : SS), P s → Pc (f_X12_sum_L4 rec n s) P
  | 0, _, _ => Pc_none
  | n + 1, s, h => by
    show Pc (f_X12_sum_L4_b rec (f_X12_sum_L4 rec n) s) P
    unfold f_X12_sum_L4_b
    refine Pc_if (fun _ => Pc_b1x (fun _ => Pc_jn0 ?_ (fun k hk => Pc_if (fun _ => hk) (fun _ => Pc_b1x (fun _ => Pc_if (fun _ => hk) (fun _ => Pc_some h)))))) (fun _ => Pc_some h)
    exact Pc_b1x (fun _ => Pc_vl (Pc_st (Pc_b1 (Pc.mono (K_prod H hr (H.1 _ _ _ (by omega) h)) (fun u hu => Pc_b1 (Pc.mono (H.2 _ _ _ hu) (fun w hw => K_sumL H hr n w hw)))))))
theorem K_sum (H : rdK P) (hr : ∀ s, P s → Pc (rec s) P) {s : SS} (h : P s) : Pc (f_X12_sum rec s) P := by
  unfold f_X12_sum
  exact Pc_b1 (Pc.mono (K_prod H hr h) (fun u hu => K_sumL H hr 4000 u hu))
theorem K_comp (H : rdK P) (hr : ∀ s, P s → Pc (rec s) P) {s : SS} (h : P s) : Pc (f_X12_compared rec s) P := by
  unfold f_X12_compared
  refine Pc_b1 (Pc.mono (K_sum H hr h) (fun u hu => Pc_b1x (fun _ => Pc_if (fun _ => Pc_jn0 ?_ (fun k hk => Pc_if (fun _ => hk) (fun _ => Pc_if (fun _ => hk) (fun _ => Pc_if (fun _ => hk) (fun _ => Pc_some hu))))) (fun _ => Pc_some hu))))
  exact Pc_vl (Pc_st (Pc_b1 (Pc.mono (K_sum H hr (H.1 _ _ _ (by omega) hu)) (fun w hw => Pc_b1 (Pc.mono (H.2 _ _ _ hw) (fun v hv => Pc_some hv))))))
theorem K_allL (H : rdK P) (hr : ∀ s, P s → Pc (rec s) P) : ∀ (n : Nat) (s : SS), P s → Pc (f_X12_all_L4 rec n s) P
  | 0, _, _ => Pc_none
  | n + 1, s, h => by
    show Pc (f_X12_all_L4_b rec (f_X12_all_L4 rec n) s) P
    unfold f_X12_all_L4_b
    exact Pc_if (fun _ => Pc_b1x (fun _ => Pc_if (fun _ => Pc_vl (Pc_st (Pc_b1 (Pc.mono (K_comp H hr (H.1 _ _ _ (by omega) h)) (fun u hu => Pc_b1 (Pc.mono (H.2 _ _ _ hu) (fun w hw => K_allL H hr n w hw))))))) (fun _ => Pc_some h))) (fun _ => Pc_some h)
theorem K_all (H : rdK P) (hr : ∀ s, P s → Pc (rec s) P) {s : SS} (h : P s) : Pc (f_X12_all rec s) P := by
  unfold f_X12_all
  exact Pc_b1 (Pc.mono (K_comp H hr h) (fun u hu => K_allL H hr 4000 u hu))
theorem K_eithL (H : rdK P) (hr : ∀ s, P s → Pc (rec s) P) : ∀ (n : Nat) (s : SS), P s → Pc (f_X12_either_L4 rec n s) P
  | 0, _, _ => Pc_none
  | n + 1, s, h => by
    show Pc (f_X12_either_L4_b rec (f_X12_either_L4 rec n) s) P
    unfold f_X12_either_L4_b
    exact Pc_if (fun _ => Pc_b1x (fun _ => Pc_if (fun _ => Pc_vl (Pc_st (Pc_b1 (Pc.mono (K_all H hr (H.1 _ _ _ (by omega) h)) (fun u hu => Pc_b1 (Pc.mono (H.2 _ _ _ hu) (fun w hw => K_eithL H hr n w hw))))))) (fun _ => Pc_some h))) (fun _ => Pc_some h)
theorem K_eith (H : rdK P) (hr : ∀ s, P s → Pc (rec s) P) {s : SS} (h : P s) : Pc (f_X12_either rec s) P := by
  unfold f_X12_either
  exact Pc_b1 (Pc.mono (K_all H hr h) (fun u hu => K_eithL H hr 4000 u hu))
theorem K_numL (H : rdK P) {q0 : SS → Int32 → Int32 → Option SS} (hq : ∀ s a b, P s → Pc (q0 s a b) P) : ∀ (n : Nat) (s : SS) (x2 x3 : Int32), P s → Pc (f_X12_operand_L148 rec q0 n s x2 x3) P
  | 0, _, _, _, _ => Pc_none
  | n + 1, s, x2, x3, h => by
    show Pc (f_X12_operand_L148_b rec q0 (f_X12_operand_L148 rec q0 n) s x2 x3) P
    unfold f_X12_operand_L148_b
    exact Pc_if (fun _ => Pc_b1x (fun _ => Pc_b1x (fun _ => Pc_if (fun _ => hq _ _ _ h) (fun _ => Pc_b1x (fun _ => Pc_vl (Pc_vl (Pc_vl (Pc_st (K_numL H hq n _ _ _ (H.1 _ _ _ (by omega) h))))))))) ) (fun _ => hq _ _ _ h)
end RCs
theorem K_operand (H : rdK P) : ∀ (n : Nat) (s : SS), P s → Pc (f_X12_operand n s) P
  | 0, _, _ => Pc_none
  | n + 1, s, h => by
    have hr := K_operand H n
    show Pc (f_X12_operand_r (f_X12_operand n) s) P
    unfold f_X12_operand_r
    refine Pc_b1x (fun r1 => Pc_b1x (fun r2 => Pc_if (fun _ => Pc_jn0 ?_ (fun k hk => Pc_if (fun _ => hk) (fun _ => Pc_if (fun _ => hk) (fun _ => Pc_if (fun _ => ?_) (fun _ => ?_))))) (fun _ => ?_)))
    · refine Pc_bd (Pc.mono (K_opens H h) (fun x hx => Pc_if (fun _ => Pc_some hx) (fun _ => Pc_b1 (Pc.mono (hr _ hx) (fun u hu => Pc_vl (Pc_st (Pc_jn1 (fun t => Pc_b1 (Pc.mono (H.2 _ _ _ (H.1 _ _ _ (by omega) hu)) (fun w hw => Pc_some hw))) (fun k hk => Pc_if (fun _ => hk _) (fun _ => hk _)))))))))
    · refine Pc_bd (Pc.mono (K_opens H h) (fun x hx => Pc_if (fun _ => Pc_some hx) (fun _ => Pc_b1 (Pc.mono (K_eith H hr hx) (fun u hu => Pc_if (fun _ => Pc_b1x (fun _ => Pc_if (fun _ => Pc_vl (Pc_st (Pc_vl (Pc_st (Pc_some (H.1 _ _ _ (by omega) (H.1 _ _ _ (by omega) hu))))))) (fun _ => Pc_b1 (Pc.mono (K_fault H hu) (fun w hw => Pc_some hw))))) (fun _ => Pc_some hu))))))
    · refine K_numL H (fun u a b hu => Pc_jn0 (Pc_b1 (Pc.mono (K_fault H hu) (fun w hw => Pc_some hw))) (fun k hk => Pc_if (fun _ => hk) (fun _ => Pc_b1x (fun _ => Pc_b1x (fun _ => Pc_if (fun _ => Pc_b1 (Pc.mono (H.2 _ _ _ hu) (fun w hw => Pc_some hw))) (fun _ => hk)))))) 4000 s 0 0 h
    · exact Pc_b1x (fun _ => Pc_b1 (Pc.mono (H.2 _ _ _ h) (fun u hu => Pc_vl (Pc_st (Pc_some (H.1 _ _ _ (by omega) hu))))))
/-- the reader's frame within a line; r: the row that is written -/
def K1 (r : Int) (b s : SS) : Prop := (zS s 59 50).toInt = r ∧ 0 ≤ (zS s 59 51).toInt ∧ (∀ j : Nat, (j : Int) < 170 * r → zI s 93 j = zI b 93 j ∧ zI s 94 j = zI b 94 j) ∧ ∀ q j, q = 90 ∨ q = 91 ∨ q = 92 → zI s q j = zI b q j
theorem ixge {a x : Int32} {r c : Int} {N : Nat} (hx : x.toInt = r) (hr : 0 ≤ r ∧ r ≤ 15) (hc : 0 ≤ c ∧ c ≤ 170) (y : Int32) (hy : 0 ≤ y.toInt) (hk : a.toInt = c) (hN : N ≤ 2890) (g : inB (a * x + y) N) : (a * x + y).toInt = c * r + y.toInt ∧ y.toInt < 2890 := by
  have pb : 0 ≤ c * r ∧ c * r ≤ 2550 := by
    refine ⟨Int.mul_nonneg hc.1 hr.1, ?_⟩
    have : c * r ≤ 170 * r := Int.mul_le_mul_of_nonneg_right hc.2 hr.1
    omega
  have m : (a * x).toInt = c * r := by rw [i32_mul (by rw [hk, hx]; omega) (by rw [hk, hx]; omega), hk, hx]
  by_cases ov : c * r + y.toInt < 2147483648
  · have e : (a * x + y).toInt = c * r + y.toInt := by rw [i32_add (by rw [m]; omega) (by rw [m]; omega), m]
    refine ⟨e, ?_⟩
    have := g.2
    omega
  · exfalso
    have : (a * x + y).toInt < 0 := by
      have hb := jlo y
      rw [Int32.toInt_add, m, Int.bmod_def]
      omega
    have := g.1
    omega
theorem K1.k {r : Int} {b : SS} (hr : 0 ≤ r ∧ r ≤ 15) : rdK (K1 r b) := by
  refine ⟨fun s k v hk ⟨h1, h2, h3, h4⟩ => ⟨?_, ?_, h3, h4⟩, fun s a c ⟨h1, h2, h3, h4⟩ => ?_⟩
  · rw [zS_pS, if_neg (by omega)]; exact h1
  · rw [zS_pS, if_neg (by omega)]; exact h2
  · have j170 : (170 : Int32).toInt = 170 := rfl
    unfold f_X12_lay
    refine Pc_vl (Pc_gd (fun g => Pc_st (Pc_vl (Pc_gd (fun _ => Pc_st (Pc_vl (Pc_st (Pc_some ⟨?_, ?_, fun j hj => ?_, fun q j hq => ?_⟩))))))))
    · rw [zS_pS, if_neg (by omega)]; exact h1
    · obtain ⟨e1, e2⟩ := ixge (c := 170) h1 hr (by omega) _ h2 j170 (Nat.le_refl _) g
      rw [zS_pS, if_pos ⟨rfl, rfl⟩]
      show 0 ≤ (zS s 59 51 + 1).toInt
      rw [i32_add (by rw [jl1]; omega) (by rw [jl1]; omega), jl1]
      omega
    · obtain ⟨e1, e2⟩ := ixge (c := 170) h1 hr (by omega) _ h2 j170 (Nat.le_refl _) g
      have ne : j ≠ ((170 : Int32) * zS s 59 50 + zS s 59 51).toInt.toNat := by omega
      rw [zI_pS, zI_pI, if_neg (by omega), zI_pI, if_neg (fun z => ne z.2), zI_pS, zI_pI, if_neg (fun z => ne z.2), zI_pI, if_neg (by omega)]
      exact h3 j hj
    · rw [zI_pS, zI_pI, if_neg (by omega), zI_pI, if_neg (by omega)]
      exact h4 q j hq
/-- .. and over lines -/
def K2 (r : Int) (b s : SS) : Prop := (zS s 59 50).toInt = r ∧ 0 ≤ (zS s 59 51).toInt ∧ 0 ≤ (zI s 90 r.toNat).toInt ∧ (∀ j : Nat, (j : Int) < 170 * r → zI s 93 j = zI b 93 j ∧ zI s 94 j = zI b 94 j) ∧ (∀ j : Nat, (j : Int) < 90 * r → zI s 91 j = zI b 91 j ∧ zI s 92 j = zI b 92 j) ∧ ∀ j : Nat, (j : Int) < r → zI s 90 j = zI b 90 j
theorem K2.m {r : Int} {b s : SS} {k : Nat} {v : Int32} (h : K2 r b s) (hk : k = 47 ∨ k = 48 ∨ k = 49) : K2 r b (pS s 59 k v) := ⟨by rw [zS_pS, if_neg (by omega)]; exact h.1, by rw [zS_pS, if_neg (by omega)]; exact h.2.1, h.2.2⟩
theorem K2.l {r : Int} {b s u : SS} (h : K2 r b s) (k : K1 r s u) : K2 r b u := by
  obtain ⟨h1, h2, h3, h4, h5, h6⟩ := h
  obtain ⟨k1, k2, k3, k4⟩ := k
  refine ⟨k1, k2, by rw [k4 90 _ (by omega)]; exact h3, fun j hj => ?_, fun j hj => ?_, fun j hj => ?_⟩
  · rw [(k3 j hj).1, (k3 j hj).2]; exact h4 j hj
  · rw [k4 91 j (by omega), k4 92 j (by omega)]; exact h5 j hj
  · rw [k4 90 j (by omega)]; exact h6 j hj
theorem K_line {r : Int} {b s : SS} (hr : 0 ≤ r ∧ r ≤ 15) (h : K2 r b s) : Pc (f_X12_readLine s) (K2 r b) := by
  have j90 : (90 : Int32).toInt = 90 := rfl
  unfold f_X12_readLine
  refine Pc_vl (Pc_gd (fun g1 => Pc_vl (Pc_vl ?_)))
  obtain ⟨h1, h2, h3, h4, h5, h6⟩ := id h
  have er : (zS s 59 50).toInt.toNat = r.toNat := by rw [h1]
  rw [er]
  have S1 : K1 r s s := ⟨h1, h2, fun _ _ => ⟨rfl, rfl⟩, fun _ _ _ => rfl⟩
  refine Pc_b1 (Pc.mono (K_eith (K1.k hr) (K_operand (K1.k hr) 12) S1) (fun s5 k5 => Pc_gd (fun g3 => Pc_st ?_)))
  obtain ⟨e3, b3⟩ := ixge (c := 90) h1 hr (by omega) _ h3 j90 (by omega) g3
  -- a write at this line's place
  have wr : ∀ q u v, q = 91 ∨ q = 92 → K2 r b u → zI u 90 r.toNat = zI s 90 r.toNat → K2 r b (pI u q ((90 : Int32) * zS s 59 50 + zI s 90 r.toNat).toInt.toNat v) ∧ zI (pI u q ((90 : Int32) * zS s 59 50 + zI s 90 r.toNat).toInt.toNat v) 90 r.toNat = zI s 90 r.toNat := by
    intro q u v hq ⟨u1, u2, u3, u4, u5, u6⟩ e
    have e90 : ∀ j, zI (pI u q ((90 : Int32) * zS s 59 50 + zI s 90 r.toNat).toInt.toNat v) 90 j = zI u 90 j := fun j => by rw [zI_pI, if_neg (by omega)]
    refine ⟨⟨u1, u2, by rw [e90]; exact u3, fun j hj => ?_, fun j hj => ?_, fun j hj => by rw [e90]; exact u6 j hj⟩, by rw [e90]; exact e⟩
    · rw [zI_pI, if_neg (by omega), zI_pI, if_neg (by omega)]; exact u4 j hj
    · have ne : j ≠ ((90 : Int32) * zS s 59 50 + zI s 90 r.toNat).toInt.toNat := by omega
      rw [zI_pI, if_neg (fun z => ne z.2), zI_pI, if_neg (fun z => ne z.2)]; exact u5 j hj
  have a5 : zI s5 90 r.toNat = zI s 90 r.toNat := k5.2.2.2 90 _ (by omega)
  obtain ⟨w7, a7⟩ := wr 91 s5 (zS s 59 51) (by omega) (h.l k5) a5
  generalize pI s5 91 ((90 : Int32) * zS s 59 50 + zI s 90 r.toNat).toInt.toNat (zS s 59 51) = s7 at w7 a7 ⊢
  refine Pc_jnS (P := fun u => K2 r b u ∧ zI u 90 r.toNat = zI s 90 r.toNat) (fun s8 ⟨w8, a8⟩ => ?_) (fun k hk => Pc_if (fun _ => Pc_b1x (fun _ => Pc_if (fun _ => Pc_vl (Pc_st (Pc_vl (Pc_gd (fun _ => Pc_st ?_))))) (fun _ => hk _ ⟨w7, a7⟩))) (fun _ => hk _ ⟨w7, a7⟩))
  · refine Pc_vl (Pc_gd (fun _ => Pc_st ?_))
    obtain ⟨w12, a12⟩ := wr 92 s8 (zS s8 59 51) (by omega) w8 a8
    generalize pI s8 92 ((90 : Int32) * zS s 59 50 + zI s 90 r.toNat).toInt.toNat (zS s8 59 51) = s12 at w12 a12 ⊢
    have er2 : (zS s12 59 50).toInt.toNat = r.toNat := by rw [w12.1]
    refine Pc_vl (Pc_gd (fun _ => Pc_vl (Pc_vl (Pc_gd (fun _ => Pc_st (Pc_some ?_))))))
    rw [er2, a12]
    obtain ⟨u1, u2, u3, u4, u5, u6⟩ := w12
    have n1 : (zI s 90 r.toNat + 1).toInt = (zI s 90 r.toNat).toInt + 1 := by rw [i32_add (by rw [jl1]; omega) (by rw [jl1]; omega), jl1]
    refine ⟨u1, u2, ?_, fun j hj => ?_, fun j hj => ?_, fun j hj => ?_⟩
    · rw [zI_pI, if_pos ⟨rfl, rfl⟩, n1]; omega
    · rw [zI_pI, if_neg (by omega), zI_pI, if_neg (by omega)]; exact u4 j hj
    · rw [zI_pI, if_neg (by omega), zI_pI, if_neg (by omega)]; exact u5 j hj
    · rw [zI_pI, if_neg (by omega)]; exact u6 j hj
  · have w23 : K2 r b (pS s7 59 47 (zS s7 59 47 + 1)) := w7.m (by omega)
    have a23 : zI (pS s7 59 47 (zS s7 59 47 + 1)) 90 r.toNat = zI s 90 r.toNat := a7
    obtain ⟨w26, a26⟩ := wr 91 (pS s7 59 47 (zS s7 59 47 + 1)) (zS (pS s7 59 47 (zS s7 59 47 + 1)) 59 51) (by omega) w23 a23
    generalize pI (pS s7 59 47 (zS s7 59 47 + 1)) 91 ((90 : Int32) * zS s 59 50 + zI s 90 r.toNat).toInt.toNat (zS (pS s7 59 47 (zS s7 59 47 + 1)) 59 51) = s26 at w26 a26 ⊢
    refine Pc_b1 (Pc.mono (K_eith (P := K1 r s26) (K1.k hr) (K_operand (K1.k hr) 12) ⟨w26.1, w26.2.1, fun _ _ => ⟨rfl, rfl⟩, fun _ _ _ => rfl⟩) (fun s27 k27 => hk _ ⟨w26.l k27, ?_⟩))
    rw [k27.2.2.2 90 _ (by omega)]
    exact a26
theorem K_text {r : Int} {b : SS} {y1 y2 : Int32} (hr : 0 ≤ r ∧ r ≤ 15) : ∀ (n : Nat) (s : SS), K2 r b s → Pc (f_X12_text_L77 (fun u => some (0, u)) y1 y2 n s) (fun x => K2 r b x.2)
  | 0, _, _ => Pc_none
  | n + 1, s, h => by
    show Pc (f_X12_text_L77_b (fun u => some (0, u)) y1 y2 (f_X12_text_L77 (fun u => some (0, u)) y1 y2 n) s) _
    unfold f_X12_text_L77_b
    exact Pc_if (fun _ => Pc_b1x (fun _ => Pc_if (fun _ => Pc_vl (Pc_st (Pc_b1 (Pc.mono (K_line hr (h.m (by omega))) (fun u hu => K_text hr n u hu))))) (fun _ => Pc_some h))) (fun _ => Pc_some h)
/-- what follows the lines, apart -/
theorem tx77 {q : SS → Option (Int32 × SS)} {y1 y2 : Int32} : ∀ (n : Nat) (s : SS), f_X12_text_L77 q y1 y2 n s = (f_X12_text_L77 (fun u => some (0, u)) y1 y2 n s).bind (fun x => q x.2)
  | 0, _ => rfl
  | n + 1, s => by
    show f_X12_text_L77_b q y1 y2 (f_X12_text_L77 q y1 y2 n) s = (f_X12_text_L77_b (fun u => some (0, u)) y1 y2 (f_X12_text_L77 (fun u => some (0, u)) y1 y2 n) s).bind (fun x => q x.2)
    unfold f_X12_text_L77_b
    by_cases c : zS s 59 48 < 0
    · rw [if_pos c, if_pos c]
      cases f_X12_look s with
      | none => rfl
      | some r18 =>
        rw [b1_some, b1_some]
        by_cases d : r18 = 59
        · rw [if_pos d, if_pos d, vl, vl, st, st]
          cases f_X12_readLine (pS s 59 47 (zS s 59 47 + 1)) with
          | none => rfl
          | some s22 =>
            rw [b1_some, b1_some]
            exact tx77 n s22
        · rw [if_neg d, if_neg d]
          rfl
    · rw [if_neg c, if_neg c]
      rfl
end KRs
