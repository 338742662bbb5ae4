/-! A NEW MAP -/
section NMs
variable {s t s' t' : SS}
theorem QHol.e (R : QHol s t) (S : Sh s) (h1 : ∀ q k, 126 ≤ q → q < zL s → zS s' q k = zS s q k) (h2 : ∀ q j, 126 ≤ q → q < zL s → zI s' q j = zI s q j) (h3 : ∀ i, zR s' 17 i = zR s 17 i) (m : ∀ q j, 63 ≤ q → q ≤ 73 ∨ q = 104 → zI t' q j = zI t q j) : QHol s' t' := by
  obtain ⟨a, b, c, d⟩ := R
  refine ⟨fun i p hi e => ?_, fun i hi e => ?_, fun i j p hi hj e f => c i j p hi hj ((h3 i).symm.trans e) ((h3 j).symm.trans f), fun i hi => ?_⟩
  · have e' := (h3 i).symm.trans e
    have o := (S.2.2.1 i p hi e').1
    have o2 := (S.2.2.1 i p hi e').2.1
    exact (a i p hi e').c (fun k => h1 p k o (by omega)) (fun y => h2 _ y (by omega) (by omega)) (fun y => h2 _ y (by omega) (by omega)) (fun y => h2 _ y (by omega) (by omega)) m
  · exact (b i hi ((h3 i).symm.trans e)).c m
  · rw [m 69 _ (by omega) (by omega)]
    exact d i hi
def mkX (s : SS) (c w y : Int32) (n : Nat) (v : Int32) : SS := pS (pR (pMap s c w y) 23 n (some (zL s))) 0 5 v
def mkM (t : SS) (c w y : Int32) (n : Nat) (v : Int32) : SS := pS (pI (pI (pI t 81 n c) 82 n w) 83 n y) 59 30 v
theorem Q4.mk {c w y v : Int32} {n : Nat} (S : Sh s) (b3 : (zS s 15 3).toInt ≤ 120) (Q : Q4 s t) (hn : n < 8) (h5 : (zS s 0 5).toInt = n) (hv : v.toInt = n + 1) (hc : 0 ≤ c.toInt ∧ c.toInt ≤ w.toInt ∧ w.toInt ≤ 31) (hy : 1 ≤ y.toInt ∧ y.toInt ≤ 60) : Q4 (mkX s c w y n v) (mkM t c w y n v) := by
  obtain ⟨Q1, Q2, Q3, Q5, Q6, Q7, Q8, Q9, Q10, Q11, Q12, Q13, Q14⟩ := Q
  have hL := S.1
  have sS : ∀ q k, q ≠ zL s → ¬ (q = 0 ∧ k = 5) → zS (mkX s c w y n v) q k = zS s q k := fun q k h1 h2 => by
    unfold mkX
    rw [zS_pS, if_neg h2]
    show (if q = zL s then mapF c w y k else zS s q k) = _
    rw [if_neg h1]
  have s5 : zS (mkX s c w y n v) 0 5 = v := by
    unfold mkX
    rw [zS_pS, if_pos ⟨rfl, rfl⟩]
  have sI : ∀ q j, q ≠ zL s + 1 → zI (mkX s c w y n v) q j = zI s q j := fun q j h1 => by
    show (if q = zL s + 1 then 0 else zI s q j) = _
    rw [if_neg h1]
  have sR : ∀ q i, zR (mkX s c w y n v) q i = if q = 23 ∧ i = n then some (zL s) else zR s q i := fun q i => rfl
  have sN : ∀ q, q < zL s → zN (mkX s c w y n v) q = zN s q := fun q h => by
    show (if q = zL s + 1 then 61 else zN s q) = _
    rw [if_neg (by omega)]
  have mI : ∀ q j, q < 81 ∨ 83 < q → zI (mkM t c w y n v) q j = zI t q j := fun q j h => by
    unfold mkM
    rw [zI_pS, zI_pI, if_neg (by omega), zI_pI, if_neg (by omega), zI_pI, if_neg (by omega)]
  refine ⟨Q1.e S (fun q k h1 h2 => sS q k (by omega) (by omega)) (fun q j h1 h2 => sI q j (by omega)) (fun i => by rw [sR, if_neg (by omega)]) (fun q j h1 h2 => mI q j (by omega)), Q2.c (fun i => sI 7 i (by omega)) (fun i => sI 8 i (by omega)) (fun i => sI 10 i (by omega)) (fun i => sI 16 i (by omega)) (sS 15 3 (by omega) (by omega)) (sS 6 4 (by omega) (by omega)) (fun i => mI 74 i (by omega)) (fun i => mI 75 i (by omega)) (fun i => mI 77 i (by omega)), Q3.c (fun k h => sS 0 k (by omega) (by omega)) (sS 15 4 (by omega) (by omega)) (fun i => by rw [sR, if_neg (by omega)]) (fun i => mI 67 i (by omega)) (fun i => mI 69 i (by omega)), Q5.c (sS 0 18 (by omega) (by omega)) (sS 0 14 (by omega) (by omega)) (fun i => mI 69 i (by omega)), Q6.c (fun k => sS 30 k (by omega) (by omega)) (sS 0 14 (by omega) (by omega)) (fun q i h1 h2 => sI q i (by omega)) (fun k h => ?_) (fun q i h1 h2 => mI q i (by omega)), Q7.c (fun k h1 h2 => sS 15 k (by omega) (by omega)) (fun k h1 h2 => ?_), Q8.c (fun i hi => sS _ _ (by omega) (by omega)) (fun i => mI 80 i (by omega)), Q9.c (fun k h1 h2 => sS 6 k (by omega) (by omega)) (fun i => sI 13 i (by omega)) (fun k h => ?_) (fun i => mI 116 i (by omega)) (fun i => mI 118 i (by omega)), Q10.c (by rw [sS 15 3 (by omega) (by omega)]; exact Int.le_refl _) (fun i hi h => by rw [sR, if_neg (by omega)]; exact h) b3 (fun i => mI 79 i (by omega)), ⟨fun i hi hcc => ?_, fun i hi hcc => ?_, fun i j p hi hj e f => ?_⟩, fun i hi hcc => ?_, Q13.c (fun q i h => mI q i (by omega)) (fun _ => rfl), Q14.c (sS 0 14 (by omega) (by omega)) (fun i => mI 68 i (by omega))⟩
  · show (if 59 = 59 ∧ k = 30 then v else zS t 59 k) = _
    rw [if_neg (by omega)]
  · show (if 59 = 59 ∧ k = 30 then v else zS t 59 k) = _
    rw [if_neg (by omega)]
  · show (if 59 = 59 ∧ k = 30 then v else zS t 59 k) = _
    rw [if_neg (by omega)]
  · rw [s5] at hcc
    by_cases z : i = n
    · have hF : ∀ k, zS (mkX s c w y n v) (zL s) k = mapF c w y k := fun k => by
        unfold mkX
        rw [zS_pS, if_neg (by omega)]
        show (if zL s = zL s then mapF c w y k else zS s (zL s) k) = _
        rw [if_pos rfl]
      have m81 : zI (mkM t c w y n v) 81 n = c := by
        unfold mkM
        rw [zI_pS, zI_pI, if_neg (by omega), zI_pI, if_neg (by omega), zI_pI, if_pos ⟨rfl, rfl⟩]
      have m82 : zI (mkM t c w y n v) 82 n = w := by
        unfold mkM
        rw [zI_pS, zI_pI, if_neg (by omega), zI_pI, if_pos ⟨rfl, rfl⟩]
      have m83 : zI (mkM t c w y n v) 83 n = y := by
        unfold mkM
        rw [zI_pS, zI_pI, if_pos ⟨rfl, rfl⟩]
      have m84 : zI (mkM t c w y n v) 84 n = 0 := (mI 84 n (by omega)).trans (Q11.2.1 n hn (by omega))
      refine ⟨zL s, by rw [sR, if_pos ⟨rfl, z⟩], ?_⟩
      rw [z]
      refine ⟨by rw [hF, m81]; rfl, by rw [hF, m82]; rfl, by rw [hF, m83]; rfl, by rw [hF, m84]; rfl, by rw [hF, hF]; exact hc, by rw [hF]; exact hy, fun a b _ _ _ => ?_⟩
      have e0 : zI (mkX s c w y n v) (zL s + 1) b = 0 := by
        show (if zL s + 1 = zL s + 1 then (0 : Int32) else _) = 0
        rw [if_pos rfl]
      rw [e0, m84, jl0]
      constructor
      · intro z
        exact absurd z (by rw [show (0 : Int32).toBitVec = 0#32 from rfl, BitVec.getLsbD_zero]; decide)
      · rintro ⟨k, hk, _⟩
        omega
    · obtain ⟨p, e, r⟩ := Q11.1 i hi (by omega)
      have o := S.2.2.2.2.1 i p hi e
      have o1 := o.1
      have o2 := o.2.1
      have m3 : ∀ q, 81 ≤ q → q ≤ 83 → zI (mkM t c w y n v) q i = zI t q i := fun q h1 h2 => by
        unfold mkM
        rw [zI_pS, zI_pI, if_neg (by omega), zI_pI, if_neg (by omega), zI_pI, if_neg (by omega)]
      refine ⟨p, by rw [sR, if_neg (by omega)]; exact e, ?_⟩
      obtain ⟨r0, r1, r2, r3, r4, r5, r6⟩ := r
      have u : ∀ k, zS (mkX s c w y n v) p k = zS s p k := fun k => sS p k (by omega) (by omega)
      refine ⟨by rw [u, m3 81 (by omega) (by omega)]; exact r0, by rw [u, m3 82 (by omega) (by omega)]; exact r1, by rw [u, m3 83 (by omega) (by omega)]; exact r2, by rw [u, mI 84 _ (by omega)]; exact r3, by rw [u, u]; exact r4, by rw [u]; exact r5, fun a b h1 h2 h3 => ?_⟩
      rw [sI _ _ (by omega), mI 84 _ (by omega)]
      simp only [mI 85 _ (show 85 < 81 ∨ 83 < 85 by omega)]
      exact r6 a b h1 h2 h3
  · rw [s5] at hcc
    rw [mI 84 _ (by omega)]
    exact Q11.2.1 i hi (by omega)
  · rw [sR] at e f
    by_cases z : i = n
    · by_cases y' : j = n
      · rw [z, y']
      · rw [if_pos ⟨rfl, z⟩] at e
        rw [if_neg (by omega)] at f
        have := (S.2.2.2.2.1 j p hj f).2.1
        have := Option.some.inj e
        omega
    · rw [if_neg (by omega)] at e
      by_cases y' : j = n
      · rw [if_pos ⟨rfl, y'⟩] at f
        have := (S.2.2.2.2.1 i p hi e).2.1
        have := Option.some.inj f
        omega
      · rw [if_neg (by omega)] at f
        exact Q11.2.2 i j p hi hj e f
  · rw [sS 0 8 (by omega) (by omega)] at hcc
    obtain ⟨p, e, r⟩ := Q12 i hi hcc
    have o := S.2.2.2.2.2.1 i p hi e
    have o1 := o.1
    have o2 := o.2.1
    exact ⟨p, by rw [sR, if_neg (by omega)]; exact e, r.c (fun k => sS p k (by omega) (by omega)) (fun y => sI _ y (by omega)) (sN _ o2) (fun q j h1 h2 => mI q j (by omega))⟩
theorem L_map (B : B1 s t) (Q : Q4 s t) (a0 a1 : Int32) : Pc (f_X11_map s a0 a1) fun x => Pc (f_X12_map t a0 a1) fun m => x.1 = m.1 ∧ Q4 x.2 m.2 := by
  have b5 : zS s 0 5 = zS t 59 30 := B.1.1.2.2.1
  have r5 : 0 ≤ (zS s 0 5).toInt ∧ (zS s 0 5).toInt ≤ 8 := B.1.fx (q := 0) (k := 5) (by omega)
  unfold f_X11_map f_X12_map f_X11_isSpan f_X12_isSpan f_X11_isYard f_X12_in
  by_cases h : (zS s 0 5).toInt < 8
  · have n8 : ¬ zS t 59 30 = 8 := fun z => by rw [b5, z, show (8 : Int32).toInt = 8 from rfl] at h; omega
    have e1 : (zS s 0 5 + 1).toInt = (zS s 0 5).toInt + 1 := by rw [i32_add (by rw [jl1]; omega) (by rw [jl1]; omega), jl1]
    have e4 : ∀ c w y, zS (pR (pMap s c w y) 23 (zS s 0 5).toInt.toNat (some (zL s))) 0 5 = zS s 0 5 := fun c w y => by
      show (if 0 = zL s then mapF c w y 5 else zS s 0 5) = _
      rw [if_neg (by have := B.1.sh.1; omega)]
    have fin : (0 : Int32).toInt ≤ a0.toInt → (a0 / 100).toInt ≤ (a0 % 100).toInt → (a0 % 100).toInt < (32 : Int32).toInt → (1 : Int32).toInt ≤ a1.toInt → a1.toInt ≤ (60 : Int32).toInt → zS (pS (pR (pMap s (a0 / 100) (a0 % 100) a1) 23 (zS s 0 5).toInt.toNat (some (zL s))) 0 5 (zS (pR (pMap s (a0 / 100) (a0 % 100) a1) 23 (zS s 0 5).toInt.toNat (some (zL s))) 0 5 + 1)) 0 5 - 1 = zS t 59 30 + 1 - 1 ∧ Q4 (pS (pR (pMap s (a0 / 100) (a0 % 100) a1) 23 (zS s 0 5).toInt.toNat (some (zL s))) 0 5 (zS (pR (pMap s (a0 / 100) (a0 % 100) a1) 23 (zS s 0 5).toInt.toNat (some (zL s))) 0 5 + 1)) (pS (pI (pI (pI t 81 (zS t 59 30).toInt.toNat (a0 / 100)) 82 (zS t 59 30).toInt.toNat (a0 % 100)) 83 (zS t 59 30).toInt.toNat a1) 59 30 (zS t 59 30 + 1)) := fun h0 h1 h2 h3 h4 => by
      rw [e4, ← b5]
      refine ⟨by rw [zS_pS, if_pos ⟨rfl, rfl⟩], Q.mk B.1.sh B.1.tot.2.2 (by omega) (by omega) (by omega) ⟨?_, h1, by rw [show (32 : Int32).toInt = 32 from rfl] at h2; omega⟩ ⟨h3, h4⟩⟩
      rw [jl0] at h0
      rw [d100 h0]
      omega
    repeat' (first
      | with_reducible refine Pc_bdS ?_
      | with_reducible refine Pc_b1S ?_
      | with_reducible refine Pc_if00 ?_
      | with_reducible refine Pc_if10 ?_
      | with_reducible refine Pc_lt (fun _ => ?_) (fun _ => ?_)
      | with_reducible refine Pc_if (fun _ => ?_) (fun _ => ?_)
      | with_reducible refine Pc_gd (fun _ => ?_)
      | with_reducible refine Pc_vl ?_
      | with_reducible refine Pc_wl ?_
      | with_reducible refine Pc_st ?_
      | with_reducible refine Pc_jn ?_
      | with_reducible refine Pc_b1 ?_
      | with_reducible refine Pc_bd ?_
      | with_reducible refine Pc_onS ?_
      | with_reducible refine Pc_onN ?_
      | with_reducible refine Pc_on (fun _ => ?_) (fun _ _ => ?_)
      | with_reducible refine Pc_some ?_
      | with_reducible refine Pc_none)
    all_goals first | exact ⟨rfl, Q⟩ | exact fin (by assumption) (by assumption) (by assumption) (by assumption) (by assumption) | (exfalso; simp only [jeq] at *; (simp only [jlt, jd4, jd10, jd20, jd24, jd60, jd100, jm4, jm10, jm20, jm24, jm60, jm100, Int32.reduceToInt] at *; omega))
  · have n8 : zS t 59 30 = 8 := Int32.toInt_inj.1 (by rw [← b5, show (8 : Int32).toInt = 8 from rfl]; omega)
    repeat' (first
      | with_reducible refine Pc_bdS ?_
      | with_reducible refine Pc_b1S ?_
      | with_reducible refine Pc_if00 ?_
      | with_reducible refine Pc_if10 ?_
      | with_reducible refine Pc_lt (fun _ => ?_) (fun _ => ?_)
      | with_reducible refine Pc_if (fun _ => ?_) (fun _ => ?_)
      | with_reducible refine Pc_gd (fun _ => ?_)
      | with_reducible refine Pc_vl ?_
      | with_reducible refine Pc_wl ?_
      | with_reducible refine Pc_st ?_
      | with_reducible refine Pc_jn ?_
      | with_reducible refine Pc_b1 ?_
      | with_reducible refine Pc_bd ?_
      | with_reducible refine Pc_onS ?_
      | with_reducible refine Pc_onN ?_
      | with_reducible refine Pc_on (fun _ => ?_) (fun _ _ => ?_)
      | with_reducible refine Pc_some ?_
      | with_reducible refine Pc_none)
    all_goals first | exact ⟨rfl, Q⟩ | (exfalso; simp only [jeq] at *; (simp only [jlt, jd4, jd10, jd20, jd24, jd60, jd100, jm4, jm10, jm20, jm24, jm60, jm100, Int32.reduceToInt] at *; omega))
end NMs
