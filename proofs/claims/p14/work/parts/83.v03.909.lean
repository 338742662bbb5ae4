/-! A NEW HOLE, A NEW MAP -/
section NHs
variable {s t : SS}
def nwX (s : SS) (c w : Int32) (n : Nat) (v : Int32) : SS := pS (pR (pHole s c w) 17 n (some (zL s))) 15 4 v
def nwM (t : SS) (c w : Int32) (n : Nat) : SS := pI (pI (pI t 63 n c) 65 n c) 64 n w
theorem Q4.nw {c w : Int32} {n : Nat} (S : Sh s) (b3 : (zS s 15 3).toInt ≤ 120) (Q : Q4 s t) (hn : n < 120) (hz : zR s 17 n = none) : Q4 (nwX s c w n (zS s 15 4 + 1)) (nwM t c w n) := by
  obtain ⟨Q1, Q2, Q3, Q5, Q6, Q7, Q8, Q9, Q10, Q11, Q12, Q13, Q14⟩ := Q
  have hL := S.1
  have sS : ∀ q k, q ≠ zL s → ¬ (q = 15 ∧ k = 4) → zS (nwX s c w n (zS s 15 4 + 1)) q k = zS s q k := fun q k h1 h2 => by
    unfold nwX
    rw [zS_pS, if_neg h2]
    show (if q = zL s then holeF c w k else zS s q k) = _
    rw [if_neg h1]
  have sI : ∀ q j, q ≠ zL s + 1 → q ≠ zL s + 2 → q ≠ zL s + 3 → zI (nwX s c w n (zS s 15 4 + 1)) q j = zI s q j := fun q j h1 h2 h3 => by
    show (if q = zL s + 1 then 0 else if q = zL s + 2 then 0 else if q = zL s + 3 then (-2000000000) else zI s q j) = _
    rw [if_neg h1, if_neg h2, if_neg h3]
  have sR : ∀ q i, zR (nwX s c w n (zS s 15 4 + 1)) q i = if q = 17 ∧ i = n then some (zL s) else zR s q i := fun q i => rfl
  have sN : ∀ q, q < zL s → zN (nwX s c w n (zS s 15 4 + 1)) q = zN s q := fun q h => by
    show (if q = zL s + 1 then 61 else if q = zL s + 2 then 61 else if q = zL s + 3 then 61 else zN s q) = _
    rw [if_neg (by omega), if_neg (by omega), if_neg (by omega)]
  have mI : ∀ q j, q < 63 ∨ 65 < q → zI (nwM t c w n) q j = zI t q j := fun q j h => by
    unfold nwM
    rw [zI_pI, if_neg (by omega), zI_pI, if_neg (by omega), zI_pI, if_neg (by omega)]
  have lo : ∀ {q : Nat}, q < 126 → q ≠ zL s := fun h => by omega
  refine ⟨⟨fun i p hi e => ?_, fun i hi e => ?_, fun i j p hi hj e f => ?_, fun i hi => by rw [mI 69 _ (by omega)]; exact Q1.2.2.2 i hi⟩, Q2.c (fun i => sI 7 i (by omega) (by omega) (by omega)) (fun i => sI 8 i (by omega) (by omega) (by omega)) (fun i => sI 10 i (by omega) (by omega) (by omega)) (fun i => sI 16 i (by omega) (by omega) (by omega)) (sS 15 3 (by omega) (by omega)) (sS 6 4 (by omega) (by omega)) (fun i => mI 74 i (by omega)) (fun i => mI 75 i (by omega)) (fun i => mI 77 i (by omega)), ⟨?_, ?_, ?_⟩, Q5.c (sS 0 18 (by omega) (by omega)) (sS 0 14 (by omega) (by omega)) (fun i => mI 69 i (by omega)), Q6.c (fun k => sS 30 k (by omega) (by omega)) (sS 0 14 (by omega) (by omega)) (fun q i h1 h2 => sI q i (by omega) (by omega) (by omega)) (fun _ _ => rfl) (fun q i h1 h2 => mI q i (by omega)), Q7.c (fun k h1 h2 => sS 15 k (by omega) (by omega)) (fun _ _ _ => rfl), Q8.c (fun i hi => sS _ _ (by omega) (by omega)) (fun i => mI 80 i (by omega)), Q9.c (fun k h1 h2 => sS 6 k (by omega) (by omega)) (fun i => sI 13 i (by omega) (by omega) (by omega)) (fun _ _ => rfl) (fun i => mI 116 i (by omega)) (fun i => mI 118 i (by omega)), Q10.c (by rw [sS 15 3 (by omega) (by omega)]; exact Int.le_refl _) (fun i hi h => ?_) b3 (fun i => mI 79 i (by omega)), ⟨fun i hi hc => ?_, fun i hi hc => by rw [mI 84 _ (by omega)]; exact Q11.2.1 i hi (by rw [sS 0 5 (by omega) (by omega)] at hc; exact hc), fun i j p hi hj e f => Q11.2.2 i j p hi hj (by rw [sR, if_neg (by omega)] at e; exact e) (by rw [sR, if_neg (by omega)] at f; exact f)⟩, fun i hi hc => ?_, Q13.c (fun q i h => mI q i (by omega)) (fun _ => rfl), Q14.c (sS 0 14 (by omega) (by omega)) (fun i => mI 68 i (by omega))⟩
  · rw [sR] at e
    by_cases z : i = n
    · rw [if_pos ⟨rfl, z⟩] at e
      have ep : zL s = p := Option.some.inj e
      obtain ⟨z1, z2, z3, z4, z5, z6⟩ := Q1.2.1 n hn hz
      have hF : ∀ k, zS (nwX s c w n (zS s 15 4 + 1)) (zL s) k = holeF c w k := fun k => by
        unfold nwX
        rw [zS_pS, if_neg (by omega)]
        show (if zL s = zL s then holeF c w k else zS s (zL s) k) = _
        rw [if_pos rfl]
      have m63 : zI (nwM t c w n) 63 n = c := by
        unfold nwM
        rw [zI_pI, if_neg (by omega), zI_pI, if_neg (by omega), zI_pI, if_pos ⟨rfl, rfl⟩]
      have m65 : zI (nwM t c w n) 65 n = c := by
        unfold nwM
        rw [zI_pI, if_neg (by omega), zI_pI, if_pos ⟨rfl, rfl⟩]
      have m64 : zI (nwM t c w n) 64 n = w := by
        unfold nwM
        rw [zI_pI, if_pos ⟨rfl, rfl⟩]
      rw [← ep, z]
      refine ⟨by rw [hF, m63]; rfl, by rw [hF, m64]; rfl, by rw [hF, m65]; rfl, by rw [hF, mI 66 _ (by omega), z1]; rfl, by rw [hF, mI 67 _ (by omega), z2]; rfl, by rw [hF, mI 68 _ (by omega), z3]; rfl, by rw [hF, mI 69 _ (by omega), z4]; rfl, by rw [hF, mI 104 _ (by omega), z5]; rfl, fun y y1 y2 => ?_⟩
      obtain ⟨w1, w2, w3, w4⟩ := z6 y y1 y2
      rw [mI 70 _ (by omega), mI 71 _ (by omega), mI 72 _ (by omega), mI 73 _ (by omega), w1, w2, w3]
      refine ⟨?_, ?_, ?_, w4⟩
      · show (if zL s + 1 = zL s + 1 then (0 : Int32) else _) = 0
        rw [if_pos rfl]
      · show (if zL s + 2 = zL s + 1 then (0 : Int32) else if zL s + 2 = zL s + 2 then 0 else _) = 0
        rw [if_neg (by omega), if_pos rfl]
      · show (if zL s + 3 = zL s + 1 then (0 : Int32) else if zL s + 3 = zL s + 2 then 0 else if zL s + 3 = zL s + 3 then -2000000000 else _) = _
        rw [if_neg (by omega), if_neg (by omega), if_pos rfl]
        rfl
    · rw [if_neg (by omega)] at e
      have o := S.2.2.1 i p hi e
      have o1 := o.1
      have o2 := o.2.1
      have r := Q1.1 i p hi e
      obtain ⟨r0, r1, r2, r3, r4, r5, r6, r7, r8⟩ := r
      have u : ∀ k, zS (nwX s c w n (zS s 15 4 + 1)) p k = zS s p k := fun k => sS p k (by omega) (by omega)
      have m3 : ∀ q, 63 ≤ q → q ≤ 65 → zI (nwM t c w n) q i = zI t q i := fun q h1 h2 => by
        unfold nwM
        rw [zI_pI, if_neg (by omega), zI_pI, if_neg (by omega), zI_pI, if_neg (by omega)]
      refine ⟨by rw [u, m3 63 (by omega) (by omega)]; exact r0, by rw [u, m3 64 (by omega) (by omega)]; exact r1, by rw [u, m3 65 (by omega) (by omega)]; exact r2, by rw [u, mI 66 _ (by omega)]; exact r3, by rw [u, mI 67 _ (by omega)]; exact r4, by rw [u, mI 68 _ (by omega)]; exact r5, by rw [u, mI 69 _ (by omega)]; exact r6, by rw [u, mI 104 _ (by omega)]; exact r7, fun y y1 y2 => ?_⟩
      rw [sI (p + 1) y (by omega) (by omega) (by omega), sI (p + 2) y (by omega) (by omega) (by omega), sI (p + 3) y (by omega) (by omega) (by omega), mI 70 _ (by omega), mI 71 _ (by omega), mI 72 _ (by omega), mI 73 _ (by omega)]
      exact r8 y y1 y2
  · rw [sR] at e
    have z : i ≠ n := fun z => by rw [if_pos ⟨rfl, z⟩] at e; cases e
    rw [if_neg (by omega)] at e
    obtain ⟨z1, z2, z3, z4, z5, z6⟩ := Q1.2.1 i hi e
    unfold HZ
    simp only [mI 66 _ (by omega), mI 67 _ (by omega), mI 68 _ (by omega), mI 69 _ (by omega), mI 104 _ (by omega), mI 70 _ (by omega), mI 71 _ (by omega), mI 72 _ (by omega), mI 73 _ (by omega)]
    exact ⟨z1, z2, z3, z4, z5, z6⟩
  · rw [sR] at e f
    by_cases z : i = n
    · by_cases y : j = n
      · rw [z, y]
      · rw [if_pos ⟨rfl, z⟩] at e
        rw [if_neg (by omega)] at f
        have := (S.2.2.1 j p hj f).2.1
        have := Option.some.inj e
        omega
    · rw [if_neg (by omega)] at e
      by_cases y : j = n
      · rw [if_pos ⟨rfl, y⟩] at f
        have := (S.2.2.1 i p hi e).2.1
        have := Option.some.inj f
        omega
      · rw [if_neg (by omega)] at f
        exact Q1.2.2.1 i j p hi hj e f
  · rw [sS 0 16 (by omega) (by omega), Q3.1]
    exact ySum_c (fun i _ => by rw [mI 67 _ (by omega)])
  · rw [sS 0 17 (by omega) (by omega), Q3.2.1]
    exact ySum_c (fun i _ => by rw [mI 69 _ (by omega)])
  · have hb := ySum_b (f := fun i => if zR s 17 i = none then 0 else 1) (c := 1) (fun i => by
      by_cases z : zR s 17 i = none
      · rw [if_pos z]; decide
      · rw [if_neg z]; decide) 120
    have e4 : (zS s 15 4 + 1).toInt = (zS s 15 4).toInt + 1 := by
      have := Q3.2.2
      rw [i32_add (by rw [jl1]; omega) (by rw [jl1]; omega), jl1]
    have e5 : zS (nwX s c w n (zS s 15 4 + 1)) 15 4 = zS s 15 4 + 1 := by
      unfold nwX
      rw [zS_pS, if_pos ⟨rfl, rfl⟩]
    have gi : ∀ i, i ≠ n → (fun i => if zR (nwX s c w n (zS s 15 4 + 1)) 17 i = none then (0 : Int) else 1) i = (fun i => if zR s 17 i = none then (0 : Int) else 1) i := fun i hi => by
      show (if zR (nwX s c w n (zS s 15 4 + 1)) 17 i = none then (0 : Int) else 1) = if zR s 17 i = none then 0 else 1
      rw [show zR (nwX s c w n (zS s 15 4 + 1)) 17 i = zR s 17 i from (sR 17 i).trans (if_neg (fun w => hi w.2))]
    have gn : (if zR (nwX s c w n (zS s 15 4 + 1)) 17 n = none then (0 : Int) else 1) = 1 := if_neg (by
      rw [(sR 17 n).trans (if_pos ⟨rfl, rfl⟩)]
      intro z; cases z)
    have fn : (if zR s 17 n = none then (0 : Int) else 1) = 0 := if_pos hz
    have up := ySum_up gi 120
    rw [if_pos hn] at up
    rw [e5, e4, Q3.2.2, up]
    show _ = _ + ((if zR (nwX s c w n (zS s 15 4 + 1)) 17 n = none then (0 : Int) else 1) - (if zR s 17 n = none then (0 : Int) else 1))
    rw [gn, fn]
    omega
  · rw [sR]
    by_cases z : i = n
    · rw [if_pos ⟨rfl, z⟩]
      intro y; cases y
    · rw [if_neg (by omega)]; exact h
  · rw [sS 0 5 (by omega) (by omega)] at hc
    obtain ⟨p, e, r⟩ := Q11.1 i hi hc
    have o := S.2.2.2.2.1 i p hi e
    have o1 := o.1
    have o2 := o.2.1
    exact ⟨p, by rw [sR, if_neg (by omega)]; exact e, r.c (fun k => sS p k (by omega) (by omega)) (fun y => sI _ y (by omega) (by omega) (by omega)) (fun q j h1 h2 => mI q j (by omega))⟩
  · rw [sS 0 8 (by omega) (by omega)] at hc
    obtain ⟨p, e, r⟩ := Q12 i hi hc
    have o := S.2.2.2.2.2.1 i p hi e
    have o1 := o.1
    have o2 := o.2.1
    exact ⟨p, by rw [sR, if_neg (by omega)]; exact e, r.c (fun k => sS p k (by omega) (by omega)) (fun y => sI _ y (by omega) (by omega) (by omega)) (sN _ o2) (fun q j h1 h2 => mI q j (by omega))⟩
theorem L_hole (B : B1 s t) (Q : Q4 s t) (a0 a1 : Int32) : Pc (f_X11_hole s a0 a1) fun x => Pc (f_X12_hole t a0 a1) fun m => x.1 = m.1 ∧ Q4 x.2 m.2 := by
  have b := B.1.tot
  unfold f_X11_hole f_X12_hole f_X12_in f_X0_addedHole
  by_cases h : (zS s 15 3).toInt < 120
  · have S : Sh (adX s a0) := B.1.sh.same rfl rfl
    have key : ∀ c w : Int32, Q4 (nwX (adX s a0) c w (zS s 15 3).toInt.toNat (zS (adX s a0) 15 4 + 1)) (nwM (adM t a0) c w (zS s 15 3).toInt.toNat) := fun c w => by
      have e1 := tot1 B h
      exact (Q.ad (v := a0) B h).nw S (by show (zS s 15 3 + 1).toInt ≤ 120; omega) (by omega) (noH B (by omega) (by omega))
    have e4 : ∀ c w, zS (pR (pHole (adX s a0) c w) 17 (zS s 15 3).toInt.toNat (some (zL (adX s a0)))) 15 4 = zS (adX s a0) 15 4 := fun c w => by
      show (if 15 = zL (adX s a0) then holeF c w 4 else zS (adX s a0) 15 4) = _
      rw [if_neg (by have := S.1; omega)]
    rw [addX B h, addM B h, if_neg (nfull B h)]
    have fin : ∀ c w : Int32, zS s 15 3 = zS s 15 3 ∧ Q4 (pS (pR (pHole (adX s a0) c w) 17 (zS s 15 3).toInt.toNat (some (zL (adX s a0)))) 15 4 (zS (pR (pHole (adX s a0) c w) 17 (zS s 15 3).toInt.toNat (some (zL (adX s a0)))) 15 4 + 1)) (pI (pI (pI (adM t a0) 63 (zS s 15 3).toInt.toNat c) 65 (zS s 15 3).toInt.toNat c) 64 (zS s 15 3).toInt.toNat w) := fun c w => by
      rw [e4]
      exact ⟨rfl, key c w⟩
    repeat' (first
      | with_reducible refine Pc_bdS ?_
      | with_reducible refine Pc_b1S ?_
      | with_reducible refine Pc_if00 ?_
      | with_reducible refine Pc_if10 ?_
      | with_reducible refine Pc_lt (fun _ => ?_) (fun _ => ?_)
      | with_reducible refine Pc_if (fun _ => ?_) (fun _ => ?_)
      | with_reducible refine Pc_gd (fun _ => ?_)
      | with_reducible refine Pc_vl ?_
      | with_reducible refine Pc_wl ?_
      | with_reducible refine Pc_st ?_
      | with_reducible refine Pc_jn ?_
      | with_reducible refine Pc_b1 ?_
      | with_reducible refine Pc_bd ?_
      | with_reducible refine Pc_onS ?_
      | with_reducible refine Pc_onN ?_
      | with_reducible refine Pc_on (fun _ => ?_) (fun _ _ => ?_)
      | with_reducible refine Pc_some ?_
      | with_reducible refine Pc_none)
    all_goals first | exact ⟨rfl, Q⟩ | exact fin _ _ | (exfalso; simp only [jeq] at *; (simp only [jlt, jd4, jd10, jd20, jd24, jd60, jd100, jm4, jm10, jm20, jm24, jm60, jm100, Int32.reduceToInt] at *; omega))
  · rw [addXf h, if_pos (full B h)]
    repeat' (first
      | with_reducible refine Pc_bdS ?_
      | with_reducible refine Pc_b1S ?_
      | with_reducible refine Pc_if00 ?_
      | with_reducible refine Pc_if10 ?_
      | with_reducible refine Pc_lt (fun _ => ?_) (fun _ => ?_)
      | with_reducible refine Pc_if (fun _ => ?_) (fun _ => ?_)
      | with_reducible refine Pc_gd (fun _ => ?_)
      | with_reducible refine Pc_vl ?_
      | with_reducible refine Pc_wl ?_
      | with_reducible refine Pc_st ?_
      | with_reducible refine Pc_jn ?_
      | with_reducible refine Pc_b1 ?_
      | with_reducible refine Pc_bd ?_
      | with_reducible refine Pc_onS ?_
      | with_reducible refine Pc_onN ?_
      | with_reducible refine Pc_on (fun _ => ?_) (fun _ _ => ?_)
      | with_reducible refine Pc_some ?_
      | with_reducible refine Pc_none)
    all_goals first | exact ⟨rfl, Q⟩ | (exfalso; simp only [jeq] at *; (simp only [jlt, jd4, jd10, jd20, jd24, jd60, jd100, jm4, jm10, jm20, jm24, jm60, jm100, Int32.reduceToInt] at *; omega))
end NHs
