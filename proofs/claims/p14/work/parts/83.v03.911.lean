/-! LET DOWN BY A TUBE -/
section DNs
variable {s t : SS}
theorem maxJ (a b : Int32) : f_J9_max_7cf53 a b = some (if a < b then b else a) := by
  unfold f_J9_max_7cf53
  by_cases h : a < b
  · rw [if_pos h, if_pos h]
  · rw [if_neg h, if_neg h]
theorem minJ (a b : Int32) : f_J9_min_7cf53 a b = some (if b < a then b else a) := by
  unfold f_J9_min_7cf53
  by_cases h : b < a
  · rw [if_pos h, if_pos h]
  · rw [if_neg h, if_neg h]
def QTub (t : SS) (c : Int) : Prop := ∀ i, i < 120 → (zI t 104 i).toInt ≤ c
/-- one more thing on its way, by the tube n at p -/
theorem Q4.dn {n p : Nat} {v a : Int32} (S : Sh s) (b3 : (zS s 15 3).toInt ≤ 120) (Q : Q4 s t) (hn : n < 120) (hp : zR s 17 n = some p) (h5 : 0 ≤ (zS s 30 5).toInt ∧ (zS s 30 5).toInt < 40) (hv : (zS s 0 14).toInt < v.toInt) : Q4 (pS (pI (pI (pS s p 7 v) 32 (zS s 30 5).toInt.toNat a) 33 (zS s 30 5).toInt.toNat v) 30 5 (zS s 30 5 + 1)) (pS (pI (pI (pI t 104 n v) 102 (zS s 30 5).toInt.toNat a) 103 (zS s 30 5).toInt.toNat v) 59 62 (zS s 30 5 + 1)) := by
  obtain ⟨Q1, Q2, Q3, Q5, Q6, Q7, Q8, Q9, Q10, Q11, Q12, Q13, Q14⟩ := Q
  have o := S.2.2.1 n p hn hp
  have o1 := o.1
  have e1 : (zS s 30 5 + 1).toInt = (zS s 30 5).toInt + 1 := by rw [i32_add (by rw [jl1]; omega) (by rw [jl1]; omega), jl1]
  have hm : ((zS s 30 5).toInt.toNat : Int) = (zS s 30 5).toInt := by omega
  generalize hw : zS s 30 5 + 1 = w at e1 ⊢
  generalize hk : (zS s 30 5).toInt.toNat = m at hm ⊢
  have W : hW p s (pS (pI (pI (pS s p 7 v) 32 m a) 33 m v) 30 5 w) := ((hW.rf.wS.sI (by omega)).sI (by omega)).sS (by omega)
  have sS : ∀ q k, q ≠ p → ¬ (q = 30 ∧ k = 5) → zS (pS (pI (pI (pS s p 7 v) 32 m a) 33 m v) 30 5 w) q k = zS s q k := fun q k h1 h2 => by rw [zS_pS, if_neg h2, zS_pI, zS_pI, zS_pS, if_neg (fun z => h1 z.1)]
  have sI : ∀ q j, q ≠ 32 → q ≠ 33 → zI (pS (pI (pI (pS s p 7 v) 32 m a) 33 m v) 30 5 w) q j = zI s q j := fun q j h1 h2 => by rw [zI_pS, zI_pI, if_neg (by omega), zI_pI, if_neg (by omega), zI_pS]
  have mI : ∀ q j, q ≠ 102 → q ≠ 103 → q ≠ 104 → zI (pS (pI (pI (pI t 104 n v) 102 m a) 103 m v) 59 62 w) q j = zI t q j := fun q j h1 h2 h3 => by rw [zI_pS, zI_pI, if_neg (by omega), zI_pI, if_neg (by omega), zI_pI, if_neg (by omega)]
  have mS : ∀ k, k ≠ 62 → zS (pS (pI (pI (pI t 104 n v) 102 m a) 103 m v) 59 62 w) 59 k = zS t 59 k := fun k h => by
    rw [zS_pS, if_neg (by omega)]; rfl
  have M : mV n t (pS (pI (pI (pI t 104 n v) 102 m a) 103 m v) 59 62 w) := ⟨fun q i h1 h2 h3 => by rw [zI_pS, zI_pI, if_neg (by omega), zI_pI, if_neg (by omega), zI_pI, if_neg (by omega)], fun q i y h1 h2 _ _ _ => mI q _ (by omega) (by omega) (by omega)⟩
  refine ⟨Q1.up S hn hp W M ?_ (by rw [mI 69 _ (by omega) (by omega) (by omega)]; exact Q1.2.2.2 n hn), Q2.c (fun i => sI 7 i (by omega) (by omega)) (fun i => sI 8 i (by omega) (by omega)) (fun i => sI 10 i (by omega) (by omega)) (fun i => sI 16 i (by omega) (by omega)) (sS 15 3 (by omega) (by omega)) (sS 6 4 (by omega) (by omega)) (fun i => mI 74 i (by omega) (by omega) (by omega)) (fun i => mI 75 i (by omega) (by omega) (by omega)) (fun i => mI 77 i (by omega) (by omega) (by omega)), Q3.c (fun k _ => sS 0 k (by omega) (by omega)) (sS 15 4 (by omega) (by omega)) (fun _ => rfl) (fun i => mI 67 i (by omega) (by omega) (by omega)) (fun i => mI 69 i (by omega) (by omega) (by omega)), Q5.c (sS 0 18 (by omega) (by omega)) (sS 0 14 (by omega) (by omega)) (fun i => mI 69 i (by omega) (by omega) (by omega)), ⟨?_, ?_, ?_, fun i => ?_, fun i hi hc => ?_⟩, Q7.c (fun k _ _ => sS 15 k (by omega) (by omega)) (fun k h1 h2 => mS k (by omega)), Q8.c (fun i hi => sS _ _ (by omega) (by omega)) (fun i => mI 80 i (by omega) (by omega) (by omega)), Q9.c (fun k _ _ => sS 6 k (by omega) (by omega)) (fun i => sI 13 i (by omega) (by omega)) (fun k h => mS k (by omega)) (fun i => mI 116 i (by omega) (by omega) (by omega)) (fun i => mI 118 i (by omega) (by omega) (by omega)), Q10.c (by rw [sS 15 3 (by omega) (by omega)]; exact Int.le_refl _) (fun _ _ h => h) b3 (fun i => mI 79 i (by omega) (by omega) (by omega)), Q11.d S (sS 0 5 (by omega) (by omega)) (W.d o) (fun _ => rfl) (fun q j h1 h2 => mI q j (by omega) (by omega) (by omega)), Q12.d S (sS 0 8 (by omega) (by omega)) (W.d o) (fun _ => rfl) (fun _ _ => rfl) (fun q j h1 h2 => mI q j (by omega) (by omega) (by omega)), Q13.c (fun q i h => mI q i (by omega) (by omega) (by omega)) (fun _ => rfl), Q14.c (sS 0 14 (by omega) (by omega)) (fun i => mI 68 i (by omega) (by omega) (by omega))⟩
  · obtain ⟨x0, x1, x2, x3, x4, x5, x6, x7, x8⟩ := Q1.1 n p hn hp
    have zp : ∀ k, k ≠ 7 → zS (pS (pI (pI (pS s p 7 v) 32 m a) 33 m v) 30 5 w) p k = zS s p k := fun k hk => by rw [zS_pS, if_neg (by omega), zS_pI, zS_pI, zS_pS, if_neg (by omega)]
    refine ⟨by rw [zp 0 (by omega), mI 63 _ (by omega) (by omega) (by omega)]; exact x0, by rw [zp 1 (by omega), mI 64 _ (by omega) (by omega) (by omega)]; exact x1, by rw [zp 2 (by omega), mI 65 _ (by omega) (by omega) (by omega)]; exact x2, by rw [zp 3 (by omega), mI 66 _ (by omega) (by omega) (by omega)]; exact x3, by rw [zp 4 (by omega), mI 67 _ (by omega) (by omega) (by omega)]; exact x4, by rw [zp 5 (by omega), mI 68 _ (by omega) (by omega) (by omega)]; exact x5, by rw [zp 6 (by omega), mI 69 _ (by omega) (by omega) (by omega)]; exact x6, ?_, fun y y1 y2 => ?_⟩
    · rw [zS_pS, if_neg (by omega), zS_pI, zS_pI, zS_pS, if_pos ⟨rfl, rfl⟩, zI_pS, zI_pI, if_neg (by omega), zI_pI, if_neg (by omega), zI_pI, if_pos ⟨rfl, rfl⟩]
    · rw [sI (p + 1) y (by omega) (by omega), sI (p + 2) y (by omega) (by omega), sI (p + 3) y (by omega) (by omega), mI 70 _ (by omega) (by omega) (by omega), mI 71 _ (by omega) (by omega) (by omega), mI 72 _ (by omega) (by omega) (by omega), mI 73 _ (by omega) (by omega) (by omega)]
      exact x8 y y1 y2
  · rw [sS 30 0 (by omega) (by omega), mS 54 (by omega)]; exact Q6.1
  · rw [sS 30 1 (by omega) (by omega), mS 55 (by omega)]; exact Q6.2.1
  · rw [zS_pS, if_pos ⟨rfl, rfl⟩, zS_pS, if_pos ⟨rfl, rfl⟩]
  · rw [sI 31 i (by omega) (by omega), mI 105 i (by omega) (by omega) (by omega)]; exact Q6.2.2.2.1 i
  · rw [zS_pS, if_pos ⟨rfl, rfl⟩] at hc
    rw [sS 0 14 (by omega) (by omega)]
    have c32 : zI (pS (pI (pI (pS s p 7 v) 32 m a) 33 m v) 30 5 w) 32 i = if i = m then a else zI s 32 i := by
      rw [zI_pS, zI_pI, if_neg (by omega), zI_pI]
      by_cases z : i = m
      · rw [if_pos ⟨rfl, z⟩, if_pos z]
      · rw [if_neg (by omega), if_neg z, zI_pS]
    have c33 : zI (pS (pI (pI (pS s p 7 v) 32 m a) 33 m v) 30 5 w) 33 i = if i = m then v else zI s 33 i := by
      rw [zI_pS, zI_pI]
      by_cases z : i = m
      · rw [if_pos ⟨rfl, z⟩, if_pos z]
      · rw [if_neg (by omega), if_neg z, zI_pI, if_neg (by omega), zI_pS]
    have d102 : zI (pS (pI (pI (pI t 104 n v) 102 m a) 103 m v) 59 62 w) 102 i = if i = m then a else zI t 102 i := by
      rw [zI_pS, zI_pI, if_neg (by omega), zI_pI]
      by_cases z : i = m
      · rw [if_pos ⟨rfl, z⟩, if_pos z]
      · rw [if_neg (by omega), if_neg z, zI_pI, if_neg (by omega)]
    have d103 : zI (pS (pI (pI (pI t 104 n v) 102 m a) 103 m v) 59 62 w) 103 i = if i = m then v else zI t 103 i := by
      rw [zI_pS, zI_pI]
      by_cases z : i = m
      · rw [if_pos ⟨rfl, z⟩, if_pos z]
      · rw [if_neg (by omega), if_neg z, zI_pI, if_neg (by omega), zI_pI, if_neg (by omega)]
    rw [c32, c33, d102, d103]
    by_cases z : i = m
    · rw [if_pos z, if_pos z, if_pos z, if_pos z]
      exact ⟨rfl, rfl, hv⟩
    · rw [if_neg z, if_neg z, if_neg z, if_neg z]
      exact Q6.2.2.2.2 i hi (by omega)
theorem thingX (a : Int32) : f_X11_isThing a = some (if (10 ≤ a.toInt ∧ a.toInt % 10 = 0 ∧ a.toInt / 10 ≤ 999) ∨ (11 ≤ a.toInt ∧ a.toInt ≤ 19) then 1 else 0) := by
  unfold f_X11_isThing
  by_cases c : a < 10
  · rw [if_pos c]
    rw [jlt, jl10] at c
    rw [if_neg (by omega)]
  rw [if_neg c]
  rw [jlt, jl10] at c
  have e1 := jd10 a
  have e2 := jm10 a
  rw [if_pos (by omega)] at e1 e2
  by_cases d : a % 10 = 0
  · rw [if_pos d]
    have d' : a.toInt % 10 = 0 := by rw [← e2, d]; rfl
    by_cases f : (999 : Int32) < a / 10
    · rw [if_pos f]
      rw [jlt, jl999, e1] at f
      rw [if_neg (by omega)]
    · rw [if_neg f]
      rw [jlt, jl999, e1] at f
      rw [if_pos (Or.inl ⟨by omega, d', by omega⟩)]
  · rw [if_neg d]
    have d' : a.toInt % 10 ≠ 0 := fun z => d (Int32.toInt_inj.1 (by rw [e2, z]; rfl))
    by_cases f : a / 10 = 1
    · rw [if_pos f]
      have f' : a.toInt / 10 = 1 := by rw [← e1, f]; rfl
      rw [if_pos (Or.inr ⟨by omega, by omega⟩)]
    · rw [if_neg f]
      have f' : a.toInt / 10 ≠ 1 := fun z => f (Int32.toInt_inj.1 (by rw [e1, z]; rfl))
      rw [if_neg (by omega)]
def thg (a : Int32) : Prop := (10 ≤ a.toInt ∧ a.toInt % 10 = 0 ∧ a.toInt / 10 ≤ 999) ∨ (11 ≤ a.toInt ∧ a.toInt ≤ 19)
theorem thingM {k : Option (Int32 × SS)} {Q : Int32 × SS → Prop} {a1 : Int32} {t : SS} (h1 : thg a1 → Pc k Q) (h2 : ¬ thg a1 → Q (-1, t)) : Pc (jn (fun (t7_0 : Int32) => (jn k fun k8 => (if t7_0 = (0 : Int32) then (b1 (f_X12_in a1 (11 : Int32) (19 : Int32)) fun r30 => (if r30 = (0 : Int32) then some ((-1), t) else k8)) else k8))) fun k7 => (jn ((k7 0)) fun k32 => (if (0 : Int32) < a1 then (if (a1 % (10 : Int32)) = (0 : Int32) then (if (999 : Int32) < (a1 / (10 : Int32)) then k32 else (k7 1)) else k32) else k32))) Q := by
  have e1 := jd10 a1
  have e2 := jm10 a1
  have K0 : ¬ (10 ≤ a1.toInt ∧ a1.toInt % 10 = 0 ∧ a1.toInt / 10 ≤ 999) → Pc (jn k fun k8 => (if (0 : Int32) = (0 : Int32) then (b1 (f_X12_in a1 (11 : Int32) (19 : Int32)) fun r30 => (if r30 = (0 : Int32) then some ((-1), t) else k8)) else k8)) Q := fun n => by
    refine Pc_jn (Pc_if00 ?_)
    by_cases d : 11 ≤ a1.toInt ∧ a1.toInt ≤ 19
    · rw [in_t (by rw [jl11, jl19]; exact d)]
      exact Pc_b1S (Pc_if10 (h1 (Or.inr d)))
    · rw [in_f (by rw [jl11, jl19]; exact d)]
      exact Pc_b1S (Pc_if00 (Pc_some (h2 (fun z => z.elim n d))))
  refine Pc_jn (Pc_jn (Pc_lt (fun c => Pc_if (fun d => Pc_lt (fun f => K0 (fun z => ?_)) (fun f => Pc_jn (Pc_if10 (h1 (Or.inl ?_))))) (fun d => K0 (fun z => d ?_))) (fun c => K0 (fun z => by rw [jl0] at c; omega))))
  · rw [jl0] at c
    rw [if_pos (by omega)] at e1
    rw [jl999, e1] at f
    omega
  · rw [jl0] at c
    rw [if_pos (by omega)] at e1 e2
    rw [jl999, e1] at f
    rw [d, jl0] at e2
    omega
  · rw [if_pos (by omega)] at e2
    exact Int32.toInt_inj.1 (by rw [e2, z.2.1]; rfl)
theorem thing_t {a : Int32} (h : thg a) : f_X11_isThing a = some 1 := by rw [thingX]; exact congrArg some (if_pos h)
theorem thing_f {a : Int32} (h : ¬ thg a) : f_X11_isThing a = some 0 := by rw [thingX]; exact congrArg some (if_neg h)
theorem kindX (B : B1 s t) {a : Int32} (d : 0 ≤ a.toInt ∧ a.toInt < (zS s 15 3).toInt) : f_X0_kindOf s a = some (zI s 16 a.toInt.toNat) := by
  have b := B.1.tot
  unfold f_X0_kindOf
  rw [if_neg (by rw [jlt, jl0]; omega), if_pos (by rw [jlt]; exact d.2), gd_t ⟨d.1, by omega⟩]
theorem kindXf {a : Int32} (d : ¬ (0 ≤ a.toInt ∧ a.toInt < (zS s 15 3).toInt)) : f_X0_kindOf s a = some (-1) := by
  unfold f_X0_kindOf
  by_cases c : a < 0
  · rw [if_pos c]
  · rw [if_neg c, if_neg (by rw [jlt]; rw [jlt, jl0] at c; omega)]
theorem bodyM (B : B1 s t) (a : Int32) : f_X12_isBody t a = some (if 0 ≤ a.toInt ∧ a.toInt < (zS s 15 3).toInt then 1 else 0) := by
  have b := B.1.tot
  have e1 : (zS t 59 4 - 1).toInt = (zS s 15 3).toInt - 1 := by rw [← b.1, i32_sub (by rw [jl1]; omega) (by rw [jl1]; omega), jl1]
  unfold f_X12_isBody
  by_cases c : 0 ≤ a.toInt ∧ a.toInt < (zS s 15 3).toInt
  · rw [in_t (by rw [jl0, e1]; omega), b1_some, if_pos c]
  · rw [in_f (by rw [jl0, e1]; omega), b1_some, if_neg c]
set_option maxRecDepth 4000 in
theorem L_down (B : B1 s t) (Q : Q4 s t) (hT : QTub t 7000) (a0 a1 a2 : Int32) : Pc (f_X11_down s a0 a1 a2) fun x => Pc (f_X12_down t a0 a1 a2) fun m => (x.1 = m.1 ∧ Q4 x.2 m.2) ∧ ∀ c, 1699 ≤ c → QTub t c → QTub m.2 (c + 9) := by
  have b := B.1.tot
  have same : ((-1 : Int32) = -1 ∧ Q4 s t) ∧ ∀ c, 1699 ≤ c → QTub t c → QTub t (c + 9) := ⟨⟨rfl, Q⟩, fun c _ h i hi => by have := h i hi; omega⟩
  have sm : ∀ c, 1699 ≤ c → QTub t c → QTub t (c + 9) := same.2
  unfold f_X11_down f_X12_down
  rw [holeOfX B, bodyM B]
  by_cases d : ¬ (0 ≤ a0.toInt ∧ a0.toInt < (zS s 15 3).toInt)
  · unfold hO
    rw [if_neg d, if_neg d]
    exact Pc_b1S (Pc_onN (Pc_some (Pc_b1S (Pc_if00 (Pc_some same)))))
  have d : 0 ≤ a0.toInt ∧ a0.toInt < (zS s 15 3).toInt := Classical.not_not.mp d
  rw [if_pos d]
  have hn : a0.toInt.toNat < 120 := by omega
  have S := B.1.sh
  have hR := B.1.rh a0.toInt.toNat hn
  have hh : hO s a0 = zR s 17 a0.toInt.toNat := if_pos d
  rw [hh]
  cases hp : zR s 17 a0.toInt.toNat with
  | none =>
    have nk : ¬ zI t 62 a0.toInt.toNat = 3 := fun z => hR.mp hp ⟨by omega, Or.inr (Or.inl (by rw [B.1.kd]; exact z))⟩
    exact Pc_b1S (Pc_onN (Pc_some (Pc_b1S (Pc_if10 (Pc_gd (fun _ => Pc_iff nk (Pc_some same)))))))
  | some p =>
  have o := S.2.2.1 _ _ hn hp
  obtain ⟨x0, x1, x2, x3, x4, x5, x6, x7, x8⟩ := Q.1.1 _ _ hn hp
  refine Pc_b1S (Pc_onS ?_)
  rw [kindX B d, B.1.kd]
  refine Pc_b1S (Pc_if (fun k3 => ?_) (fun k3 => Pc_some (Pc_b1S (Pc_if10 (Pc_gd (fun _ => Pc_iff k3 (Pc_some same)))))))
  by_cases h2 : ¬ (1 ≤ a2.toInt ∧ a2.toInt ≤ 9)
  · rw [in_f (a := a2) (by rw [jl1, jl9]; exact h2)]
    rw [thingX]
    refine Pc_b1S (Pc_if (fun _ => Pc_some (Pc_b1S (Pc_if10 (Pc_gd (fun _ => Pc_ift k3 (Pc_b1S (Pc_if00 (Pc_some same)))))))) (fun _ => Pc_lt (fun _ => Pc_some (Pc_b1S (Pc_if10 (Pc_gd (fun _ => Pc_ift k3 (Pc_b1S (Pc_if00 (Pc_some same)))))))) (fun z1 => Pc_lt (fun _ => Pc_some (Pc_b1S (Pc_if10 (Pc_gd (fun _ => Pc_ift k3 (Pc_b1S (Pc_if00 (Pc_some same)))))))) (fun z2 => absurd ⟨by rw [jl1] at z1; exact z1, by rw [jl9] at z2; exact z2⟩ h2))))
  have h2 : 1 ≤ a2.toInt ∧ a2.toInt ≤ 9 := Classical.not_not.mp h2
  rw [in_t (a := a2) (by rw [jl1, jl9]; exact h2)]
  by_cases tg : ¬ (thg a1)
  · rw [thing_f tg]
    refine Pc_b1S (Pc_if00 (Pc_some (Pc_b1S (Pc_if10 (Pc_gd (fun _ => Pc_ift k3 (Pc_b1S (Pc_if10 (thingM (fun z => absurd z tg) (fun _ => same))))))))))
  have tg : thg a1 := Classical.not_not.mp tg
  rw [thing_t tg]
  refine Pc_b1S (Pc_if10 (Pc_lt (fun z => by rw [jl1] at z; omega) (fun _ => Pc_lt (fun z => by rw [jl9] at z; omega) (fun _ => ?_))))
  rw [x6]
  have b62 : zS s 30 5 = zS t 59 62 := Q.2.2.2.2.1.2.2.1
  have r5 : 0 ≤ (zS s 30 5).toInt ∧ (zS s 30 5).toInt ≤ 40 := B.1.fx (q := 30) (k := 5) (by omega)
  have eh : zS s 0 14 = zS t 59 1 := B.2.1.1
  have rh := B.2.1.2.2.2.2
  by_cases th : ¬ (0 < (zI t 69 a0.toInt.toNat).toInt)
  · have z69 : zI t 69 a0.toInt.toNat = 0 := Int32.toInt_inj.1 (by have := (Q.1.2.2.2 _ hn).1; rw [jl0]; omega)
    rw [if_neg th]
    refine Pc_ift rfl (Pc_some (Pc_b1S (Pc_if10 (Pc_gd (fun _ => Pc_ift k3 (Pc_b1S (Pc_if10 (thingM (fun _ => Pc_gd (fun _ => Pc_ift z69 (Pc_some ⟨⟨rfl, Q⟩, sm⟩))) (fun z => absurd tg z)))))))))
  have th : 0 < (zI t 69 a0.toInt.toNat).toInt := Classical.not_not.mp th
  have n69 : ¬ zI t 69 a0.toInt.toNat = 0 := fun z => by rw [z, jl0] at th; omega
  rw [if_pos th]
  refine Pc_iff n10 (Pc_lt (fun f => ?_) (fun f => Pc_some (Pc_b1S (Pc_if10 (Pc_gd (fun _ => Pc_ift k3 (Pc_b1S (Pc_if10 (thingM (fun _ => Pc_gd (fun _ => Pc_iff n69 (Pc_ift (Int32.toInt_inj.1 (by rw [← b62]; rw [jl40] at f ⊢; omega)) (Pc_some ⟨⟨rfl, Q⟩, sm⟩)))) (fun z => absurd tg z))))))))))
  rw [jl40] at f
  rw [maxJ]
  have hcmp : (if zS s 0 14 < zS s p 7 then zS s p 7 else zS s 0 14) = (if zS t 59 1 < zI t 104 a0.toInt.toNat then zI t 104 a0.toInt.toNat else zS t 59 1) := by rw [eh, x7]
  rw [hcmp]
  have hfr : (zS s 0 14).toInt ≤ (if zS t 59 1 < zI t 104 a0.toInt.toNat then zI t 104 a0.toInt.toNat else zS t 59 1).toInt ∧ (if zS t 59 1 < zI t 104 a0.toInt.toNat then zI t 104 a0.toInt.toNat else zS t 59 1).toInt ≤ 7000 ∧ ∀ c, 1699 ≤ c → QTub t c → (if zS t 59 1 < zI t 104 a0.toInt.toNat then zI t 104 a0.toInt.toNat else zS t 59 1).toInt ≤ c := by
    rw [eh] at rh ⊢
    by_cases z : zS t 59 1 < zI t 104 a0.toInt.toNat
    · rw [if_pos z]
      rw [jlt] at z
      exact ⟨by omega, hT _ hn, fun c _ h => h _ hn⟩
    · rw [if_neg z]
      exact ⟨by omega, by omega, fun c h _ => by omega⟩
  have hk : ∀ k14 : Int32 → Option (Int32 × SS), ∀ R, Pc (k14 (if zS t 59 1 < zI t 104 a0.toInt.toNat then zI t 104 a0.toInt.toNat else zS t 59 1)) R → Pc (jn k14 fun k14 => (if (zS t 59 1) < (zI t 104 (a0.toInt.toNat)) then (gd (inB a0 120) (k14 (zI t 104 (a0.toInt.toNat)))) else (k14 (zS t 59 1)))) R := fun k14 R h => by
    refine Pc_jn ?_
    by_cases z : zS t 59 1 < zI t 104 a0.toInt.toNat
    · rw [if_pos z] at h ⊢
      exact Pc_gd (fun _ => h)
    · rw [if_neg z] at h ⊢
      exact h
  generalize (if zS t 59 1 < zI t 104 a0.toInt.toNat then zI t 104 a0.toInt.toNat else zS t 59 1) = fr at hfr hk ⊢
  refine Pc_b1S (Pc_vl (Pc_st (Pc_b1 ?_)))
  have ev : (fr + a2).toInt = fr.toInt + a2.toInt := by rw [i32_add (by omega) (by omega)]
  have sp7 : zS (pS s p 7 (fr + a2)) p 7 = fr + a2 := by rw [zS_pS, if_pos ⟨rfl, rfl⟩]
  have sp5 : zS (pS s p 7 (fr + a2)) 30 5 = zS s 30 5 := by rw [zS_pS, if_neg (by have := o.1; omega)]
  have K := Q.dn (v := fr + a2) (a := a1) S b.2.2 hn hp ⟨r5.1, f⟩ (by omega)
  unfold f_X9_sends
  rw [sp7]
  refine Pc_ift (by rw [sp5, jlt, jl40]; exact f) (Pc_vl (Pc_gd (fun _ => Pc_st (Pc_vl (Pc_gd (fun _ => Pc_st (Pc_vl (Pc_st (Pc_some (Pc_some ?_))))))))))
  have w5 : zS (pI (pS s p 7 (fr + a2)) 32 (zS (pS s p 7 (fr + a2)) 30 5).toInt.toNat a1) 30 5 = zS s 30 5 := by rw [zS_pI]; exact sp5
  have w6 : zS (pI (pI (pS s p 7 (fr + a2)) 32 (zS (pS s p 7 (fr + a2)) 30 5).toInt.toNat a1) 33 (zS s 30 5).toInt.toNat (fr + a2)) 30 5 = zS s 30 5 := by rw [zS_pI, zS_pI]; exact sp5
  rw [w5, w6, sp5]
  refine Pc_b1S (Pc_if10 (Pc_gd (fun _ => Pc_ift k3 (Pc_b1S (Pc_if10 (thingM (fun _ => ?_) (fun z => absurd tg z)))))))
  refine Pc_gd (fun _ => Pc_iff n69 (Pc_iff (fun z => by rw [b62, z, jl40] at f; omega) (Pc_gd (fun _ => hk _ _ ?_))))
  refine Pc_vl (Pc_gd (fun _ => Pc_st (Pc_vl (Pc_gd (fun _ => Pc_st (Pc_vl (Pc_vl (Pc_gd (fun _ => Pc_st (Pc_vl (Pc_st (Pc_some ?_))))))))))))
  refine ⟨⟨?_, ?_⟩, fun c hc h i hi => ?_⟩
  · show zS (pS (pI (pI (pS s p 7 (fr + a2)) 32 (zS s 30 5).toInt.toNat a1) 33 (zS s 30 5).toInt.toNat (fr + a2)) 30 5 (zS s 30 5 + 1)) p 7 = fr + a2
    rw [zS_pS, if_neg (by have := o.1; omega)]
    exact sp7
  · have e62 : zS (pI t 104 a0.toInt.toNat (fr + a2)) 59 62 = zS s 30 5 := by rw [zS_pI]; exact b62.symm
    have e63 : zS (pI (pI t 104 a0.toInt.toNat (fr + a2)) 102 (zS s 30 5).toInt.toNat a1) 59 62 = zS s 30 5 := by rw [zS_pI, zS_pI]; exact b62.symm
    have e64 : zS (pI (pI (pI t 104 a0.toInt.toNat (fr + a2)) 102 (zS s 30 5).toInt.toNat a1) 103 (zS s 30 5).toInt.toNat (fr + a2)) 59 62 = zS s 30 5 := by rw [zS_pI, zS_pI, zS_pI]; exact b62.symm
    rw [e62, e63, e64]
    exact K
  · rw [zI_pS, zI_pI, if_neg (by omega), zI_pI, if_neg (by omega), zI_pI]
    by_cases z : i = a0.toInt.toNat
    · rw [if_pos ⟨rfl, z⟩, ev]
      have := hfr.2.2 c hc h
      omega
    · rw [if_neg (fun w => z w.2)]
      have := h i hi
      omega
end DNs
