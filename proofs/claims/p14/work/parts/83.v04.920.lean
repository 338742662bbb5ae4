/-! BORING, AS FAR AS MINUTES GO -/
section BLs
variable {s t : SS}
def hv31 (v : Int32) : Int32 := if v < 0 then 0 else if 31 < v then 31 else v
theorem hv31_r (v : Int32) : 0 ≤ (hv31 v).toInt ∧ (hv31 v).toInt ≤ 31 := by
  unfold hv31
  by_cases a : v < 0
  · rw [if_pos a]; decide
  · rw [if_neg a]
    rw [jlt, jl0] at a
    by_cases b : 31 < v
    · rw [if_pos b]; decide
    · rw [if_neg b]
      rw [jlt, show (31 : Int32).toInt = 31 from rfl] at b
      omega
def fnd (r h : Int32) : Int32 := if r = 0 then (if h = 0 then 0 else 1) else 2
theorem bore_l {p i : Nat} {y1 y2 : Int32} (hy1 : y1.toInt = i) (hi : i < 120) (hp : 0 ≤ y2.toInt ∧ y2.toInt ≤ 60) : ∀ (n m : Nat) (s t : SS) (x : Int32), okH s p → HX s p t i → BE s t → x.toInt = (zS s p 4).toInt + 1 → 0 ≤ (zS s p 4).toInt → (zS s p 3).toInt ≤ 60 → (0 ≤ (zI t 69 i).toInt ∧ (zI t 69 i).toInt ≤ 1700) → 0 ≤ (zI t 68 i).toInt → (0 ≤ (zS s 0 16).toInt ∧ (zS s 0 16).toInt ≤ 10000 + (zS s p 4).toInt) → (0 ≤ (zS s 0 17).toInt ∧ (zS s 0 17).toInt ≤ 10000 + (zS s p 6).toInt) → (∀ j, 0 ≤ (zI s 2 j).toInt ∧ (zI s 2 j).toInt ≤ 9) → Pc (f_X11_boreOn_L7 p y2 n s x) (fun r => Pc (f_X12_bore_L0 y1 y2 m t) (fun u => BW p i s t r u))
  | 0, _, _, _, _, _, _, _, _, _, _, _, _, _, _, _ => Pc_none
  | n + 1, 0, _, _, _, _, _, _, _, _, _, _, _, _, _, _ => fun _ _ => Pc_none
  | n + 1, m + 1, s, t, x, o, h, E, hx, hb, h3, h69, h68, h16, h17, hh => by
    have o1 := o.1
    have rf := BW.rf h h68
    obtain ⟨x0, x1, x2, x3, x4, x5, x6, x7, x8⟩ := id h
    obtain ⟨e1, e2, e3, e4, e5, e6, e7⟩ := id E
    have yt : y1.toInt.toNat = i := by omega
    show Pc (f_X11_boreOn_L7_b p y2 (f_X11_boreOn_L7 p y2 n) s x) (fun r => Pc (f_X12_bore_L0_b y1 y2 (f_X12_bore_L0 y1 y2 m) t) _)
    unfold f_X11_boreOn_L7_b f_X12_bore_L0_b
    rw [yt]
    by_cases c1 : (zS s p 3).toInt < x.toInt
    · refine Pc_ift (by rw [jlt]; exact c1) (Pc_some (Pc_gd (fun _ => Pc_gd (fun _ => Pc_iff ?_ (Pc_some rf)))))
      rw [jlt, ← x3, ← x4]
      omega
    refine Pc_iff (by rw [jlt]; exact c1) ?_
    have c1' : zI t 67 i < zI t 66 i := by rw [jlt, ← x3, ← x4]; omega
    by_cases c2 : 0 < (zI t 69 i).toInt
    · refine Pc_iff (by rw [x6, if_pos c2]; decide) (Pc_some (Pc_gd (fun _ => Pc_gd (fun _ => Pc_ift c1' (Pc_gd (fun _ => Pc_iff (fun z => by rw [z, jl0] at c2; omega) (Pc_some rf)))))))
    have z69 : zI t 69 i = 0 := Int32.toInt_inj.1 (by rw [jl0]; omega)
    have z6 : zS s p 6 = 0 := by rw [x6, if_neg c2]
    have hy : x = zI t 67 i + 1 := Int32.toInt_inj.1 (by rw [hx, ← x4, i32_add (by rw [jl1]; omega) (by rw [jl1]; omega), jl1])
    have hxr : 1 ≤ x.toInt ∧ x.toInt ≤ 60 := by omega
    have j61 : (61 : Int32).toInt = 61 := rfl
    have m61 : ((61 : Int32) * y1).toInt = 61 * i := by rw [i32_mul (by rw [j61]; omega) (by rw [j61]; omega), j61, hy1]
    have v10 : ((61 : Int32) * y1 + x).toInt.toNat = 61 * i + x.toInt.toNat := by
      have : ((61 : Int32) * y1 + x).toInt = 61 * i + x.toInt := by rw [i32_add (by rw [m61]; omega) (by rw [m61]; omega), m61]
      omega
    obtain ⟨w1, w2, w3, w4⟩ := x8 x.toInt.toNat (by omega) (by omega)
    refine Pc_ift z6 (Pc_gd (fun _ => ?_))
    rw [heldXM (by decide)]
    refine Pc_b1S (Pc_vl (Pc_gd (fun _ => Pc_jn ?_)))
    generalize hc : (if zS s p 2 + zI s (p + 1) x.toInt.toNat < 0 then (0 : Int32) else if 31 < zS s p 2 + zI s (p + 1) x.toInt.toNat then 31 else zS s p 2 + zI s (p + 1) x.toInt.toNat) = c
    have cr : 0 ≤ c.toInt ∧ c.toInt ≤ 31 := by rw [← hc]; exact hv31_r _
    have j60 : (60 : Int32).toInt = 60 := rfl
    have m60 : (c * 60).toInt = 60 * c.toInt := by rw [i32_mul (by rw [j60]; omega) (by rw [j60]; omega), j60]; omega
    have a60 : (c * 60 + x).toInt = 60 * c.toInt + x.toInt := by rw [i32_add (by rw [m60]; omega) (by rw [m60]; omega), m60]
    have v6 : (c * 60 + x - 1).toInt.toNat = 60 * c.toInt.toNat + x.toInt.toNat - 1 := by
      have : (c * 60 + x - 1).toInt = 60 * c.toInt + x.toInt - 1 := by rw [i32_sub (by rw [a60, jl1]; omega) (by rw [a60, jl1]; omega), a60, jl1]
      omega
    have mc : ((61 : Int32) * c).toInt = 61 * c.toInt := by rw [i32_mul (by rw [j61]; omega) (by rw [j61]; omega), j61]
    have v13 : ((61 : Int32) * c + x).toInt.toNat = 61 * c.toInt.toNat + x.toInt.toNat := by
      have : ((61 : Int32) * c + x).toInt = 61 * c.toInt + x.toInt := by rw [i32_add (by rw [mc]; omega) (by rw [mc]; omega), mc]
      omega
    obtain ⟨k1, k2, k3⟩ := e1 c.toInt.toNat x.toInt.toNat (by omega) (by omega) (by omega)
    rw [v6]
    have nx : (x + 1).toInt = x.toInt + 1 := by rw [i32_add (by rw [jl1]; omega) (by rw [jl1]; omega), jl1]
    clear v6 a60 m60 mc
    -- the rest, for open or not
    have fin : ∀ (op cost : Int32), (op = 0 ∨ op = 1) → op = zI t 61 (61 * c.toInt.toNat + x.toInt.toNat) → cost = (if op = 0 then y2 * (3 + zI t 60 (61 * c.toInt.toNat + x.toInt.toNat)) else 0) → 0 ≤ cost.toInt → Pc (if (zS s p 5) < cost then some s else (vl (((zS s p 5) - cost)) fun v12 => (st (pS s p 5 v12) fun s13 => (st (pS s13 p 2 c) fun s14 => (st (pS s14 p 4 x) fun s15 => (vl (((zS s15 0 16) + (1 : Int32))) fun v16 => (st (pS s15 0 16 v16) fun s17 => (b1 (f_X0_isRefuge s17 c x) fun r18 => (jn (fun (t19_0 : Int32) => (gd (inB x 61) (st (pI s17 (p + 2) (x.toInt.toNat) t19_0) fun s21 => (jn (fun (s22 : SS)  => (vl (x + 1) fun v23 => (f_X11_boreOn_L7 p y2 n s22 v23))) fun k22 => (if r18 = (0 : Int32) then (k22 s21) else (st (pS s21 p 6 1) fun s25 => (vl (((zS s25 0 17) + (1 : Int32))) fun v26 => (st (pS s25 0 17 v26) fun s27 => (b1 (f_J9_min_7cf53 (zS s27 0 18) (zS s27 0 14)) fun r28 => (st (pS s27 0 18 r28) fun s29 => (k22 s29))))))))))) fun k19 => (if r18 = (0 : Int32) then (if op = (0 : Int32) then (k19 0) else (k19 1)) else (k19 2)))))))))) ) (fun r => Pc (gd (inB y1 120) (gd (inB y1 120) (if (zI t 67 i) < (zI t 66 i) then (gd (inB y1 120) (if (zI t 69 i) = (0 : Int32) then (gd (inB y1 120) (vl (((zI t 67 i) + (1 : Int32))) fun v7 => (gd (inB y1 120) (vl ((((61 : Int32) * y1) + v7)) fun v10 => (gd (inB v10 7320) (b1 (f_X12_held ((zI t 65 i) + (zI t 70 (v10.toInt.toNat))) (0 : Int32) (31 : Int32)) fun r12 => (vl ((((61 : Int32) * r12) + v7)) fun v13 => (gd (inB v13 1952) (jn (fun (t15_0 : Int32) => (gd (inB y1 120) (if (zI t 68 i) < t15_0 then some t else (gd (inB y1 120) (vl (((zI t 68 i) - t15_0)) fun v19 => (gd (inB y1 120) (st (pI t 68 i v19) fun s21 => (gd (inB y1 120) (st (pI s21 67 i v7) fun s23 => (gd (inB y1 120) (st (pI s23 65 i r12) fun s25 => (jn (fun (t26_0 : Int32) => (jn (fun (t27_0 : Int32) => (vl ((((61 : Int32) * y1) + v7)) fun v28 => (gd (inB v28 7320) (st (pI s25 71 (v28.toInt.toNat) t27_0) fun s30 => (jn (fun (s31 : SS)  => (f_X12_bore_L0 y1 y2 m s31)) fun k31 => (if t26_0 = (0 : Int32) then (k31 s30) else (vl (((zS s30 59 1) + (1 : Int32))) fun v33 => (gd (inB y1 120) (st (pI s30 69 i v33) fun s35 => (k31 s35)))))))))) fun k27 => (if t26_0 = (0 : Int32) then (gd (inB v13 1952) (if (zI s25 61 (v13.toInt.toNat)) = (0 : Int32) then (k27 0) else (k27 1))) else (k27 2)))) fun k26 => (jn ((k26 0)) fun k39 => (if (zS s25 59 21) < (0 : Int32) then k39 else (if v7 = (zS s25 59 24) then (b1 (f_X12_in r12 (zS s25 59 22) (zS s25 59 23)) fun r42 => (if r42 = (0 : Int32) then k39 else (k26 1))) else k39))))))))))))))) fun k15 => (if (zI t 61 (v13.toInt.toNat)) = (0 : Int32) then (gd (inB v13 1952) (k15 (y2 * ((3 : Int32) + (zI t 60 (v13.toInt.toNat)))))) else (k15 0))))))))))) else some t)) else some t))) (fun u => BW p i s t r u)) := by
      intro op cost hop eop ecost c0
      have rec_ : ∀ s1 t1, BW p i s t s1 t1 → zS s1 p 4 = x → (0 ≤ (zI t1 69 i).toInt ∧ (zI t1 69 i).toInt ≤ 1700) → Pc (f_X11_boreOn_L7 p y2 n s1 (x + 1)) (fun r => Pc (f_X12_bore_L0 y1 y2 m t1) (fun u => BW p i s t r u)) := by
        intro s1 t1 W e4' h69'
        have W' := W
        obtain ⟨q1, q2, q3, q4, q5, q6, q7, q8, q9, q10, q11, q12, q13⟩ := W'
        have ok1 : okH s1 p := by
          have e := q2.2.2
          unfold okH zT zN zL at *
          rw [e]
          exact o
        refine Pc.mono (bore_l hy1 hi hp n m s1 t1 (x + 1) ok1 q1 (E.w W) (by rw [nx, e4']) (by rw [e4']; omega) (by rw [q11]; exact h3) h69' q12 ⟨by omega, by omega⟩ ⟨?_, ?_⟩ (fun j => by rw [q4 2 j (by omega)]; exact hh j)) (fun r hr => Pc.mono hr (fun u hu => W.tr hu))
        · rcases q9 with ⟨z1, _⟩ | ⟨z1, z2, _⟩
          · rw [q8, z1]; omega
          · rw [q8, z1, z2, jl1, jl0]; omega
        · rw [q8]; omega
      -- the reference comes so far
      have mm : ∀ R : SS → Prop, Pc (gd (inB y1 120) (if (zI t 68 i) < cost then some t else (gd (inB y1 120) (vl (((zI t 68 i) - cost)) fun v19 => (gd (inB y1 120) (st (pI t 68 i v19) fun s21 => (gd (inB y1 120) (st (pI s21 67 i x) fun s23 => (gd (inB y1 120) (st (pI s23 65 i c) fun s25 => (jn (fun (t26_0 : Int32) => (jn (fun (t27_0 : Int32) => (vl ((((61 : Int32) * y1) + x)) fun v28 => (gd (inB v28 7320) (st (pI s25 71 (v28.toInt.toNat) t27_0) fun s30 => (jn (fun (s31 : SS)  => (f_X12_bore_L0 y1 y2 m s31)) fun k31 => (if t26_0 = (0 : Int32) then (k31 s30) else (vl (((zS s30 59 1) + (1 : Int32))) fun v33 => (gd (inB y1 120) (st (pI s30 69 i v33) fun s35 => (k31 s35)))))))))) fun k27 => (if t26_0 = (0 : Int32) then (gd (inB ((61 : Int32) * c + x) 1952) (if (zI s25 61 (((61 : Int32) * c + x).toInt.toNat)) = (0 : Int32) then (k27 0) else (k27 1))) else (k27 2)))) fun k26 => (jn ((k26 0)) fun k39 => (if (zS s25 59 21) < (0 : Int32) then k39 else (if x = (zS s25 59 24) then (b1 (f_X12_in c (zS s25 59 22) (zS s25 59 23)) fun r42 => (if r42 = (0 : Int32) then k39 else (k26 1))) else k39)))))))))))))) R → Pc (gd (inB y1 120) (gd (inB y1 120) (if (zI t 67 i) < (zI t 66 i) then (gd (inB y1 120) (if (zI t 69 i) = (0 : Int32) then (gd (inB y1 120) (vl (((zI t 67 i) + (1 : Int32))) fun v7 => (gd (inB y1 120) (vl ((((61 : Int32) * y1) + v7)) fun v10 => (gd (inB v10 7320) (b1 (f_X12_held ((zI t 65 i) + (zI t 70 (v10.toInt.toNat))) (0 : Int32) (31 : Int32)) fun r12 => (vl ((((61 : Int32) * r12) + v7)) fun v13 => (gd (inB v13 1952) (jn (fun (t15_0 : Int32) => (gd (inB y1 120) (if (zI t 68 i) < t15_0 then some t else (gd (inB y1 120) (vl (((zI t 68 i) - t15_0)) fun v19 => (gd (inB y1 120) (st (pI t 68 i v19) fun s21 => (gd (inB y1 120) (st (pI s21 67 i v7) fun s23 => (gd (inB y1 120) (st (pI s23 65 i r12) fun s25 => (jn (fun (t26_0 : Int32) => (jn (fun (t27_0 : Int32) => (vl ((((61 : Int32) * y1) + v7)) fun v28 => (gd (inB v28 7320) (st (pI s25 71 (v28.toInt.toNat) t27_0) fun s30 => (jn (fun (s31 : SS)  => (f_X12_bore_L0 y1 y2 m s31)) fun k31 => (if t26_0 = (0 : Int32) then (k31 s30) else (vl (((zS s30 59 1) + (1 : Int32))) fun v33 => (gd (inB y1 120) (st (pI s30 69 i v33) fun s35 => (k31 s35)))))))))) fun k27 => (if t26_0 = (0 : Int32) then (gd (inB v13 1952) (if (zI s25 61 (v13.toInt.toNat)) = (0 : Int32) then (k27 0) else (k27 1))) else (k27 2)))) fun k26 => (jn ((k26 0)) fun k39 => (if (zS s25 59 21) < (0 : Int32) then k39 else (if v7 = (zS s25 59 24) then (b1 (f_X12_in r12 (zS s25 59 22) (zS s25 59 23)) fun r42 => (if r42 = (0 : Int32) then k39 else (k26 1))) else k39))))))))))))))) fun k15 => (if (zI t 61 (v13.toInt.toNat)) = (0 : Int32) then (gd (inB v13 1952) (k15 (y2 * ((3 : Int32) + (zI t 60 (v13.toInt.toNat)))))) else (k15 0))))))))))) else some t)) else some t))) R := by
        intro R hR
        refine Pc_gd (fun _ => Pc_gd (fun _ => Pc_ift c1' (Pc_gd (fun _ => Pc_ift z69 (Pc_gd (fun _ => Pc_vl ?_))))))
        rw [← hy]
        refine Pc_gd (fun _ => Pc_vl (Pc_gd (fun _ => ?_)))
        rw [v10, ← w1, ← x2, heldM, hc]
        refine Pc_b1S (Pc_vl (Pc_gd (fun _ => Pc_jn ?_)))
        rw [v13, ← eop]
        rcases hop with rfl | rfl
        · refine Pc_ift rfl (Pc_gd (fun _ => ?_))
          rw [if_pos rfl] at ecost
          rw [v13, ecost] at hR
          exact hR
        · refine Pc_iff n10 ?_
          rw [if_neg n10] at ecost
          rw [v13, ecost] at hR
          exact hR
      by_cases k : zS s p 5 < cost
      · refine Pc_ift k (Pc_some (mm _ (Pc_gd (fun _ => Pc_ift (by rw [← x5]; exact k) (Pc_some rf)))))
      have k' : ¬ zI t 68 i < cost := by rw [← x5]; exact k
      rw [jlt] at k
      have em : (zS s p 5 - cost).toInt = (zS s p 5).toInt - cost.toInt := by rw [i32_sub (by rw [x5]; have := jlo cost; omega) (by rw [x5]; have := jlo (zI t 68 i); omega)]
      have hm : 0 ≤ (zS s p 5 - cost).toInt ∧ (zS s p 5 - cost).toInt ≤ (zI t 68 i).toInt := by rw [em, ← x5]; omega
      have r16 : zS (pS (pS (pS s p 5 (zS s p 5 - cost)) p 2 c) p 4 x) 0 16 = zS s 0 16 := by rw [zS_pS, if_neg (by omega), zS_pS, if_neg (by omega), zS_pS, if_neg (by omega)]
      refine Pc_iff (by rw [jlt]; exact k) (Pc_vl (Pc_st (Pc_st (Pc_st (Pc_vl (Pc_st ?_))))))
      rw [r16]
      have r15 : ∀ j, zS (pS (pS (pS (pS s p 5 (zS s p 5 - cost)) p 2 c) p 4 x) 0 16 (zS s 0 16 + 1)) 15 j = zS s 15 j := fun j => by rw [zS_pS, if_neg (by omega), zS_pS, if_neg (by omega), zS_pS, if_neg (by omega), zS_pS, if_neg (by omega)]
      rw [refX, r15, r15, r15, r15]
      have W1 : ∀ f, BW p i s t (b1X s p (zS s p 5 - cost) c x f) (b1M t i (zS s p 5 - cost) c x f) := fun f => BW.one o hi h (by rw [hx]) hxr hm ⟨by omega, by omega⟩
      have p4 : ∀ f, zS (b1X s p (zS s p 5 - cost) c x f) p 4 = x := fun f => by
        unfold b1X
        rw [zS_pI, zS_pS, if_neg (by omega), zS_pS, if_pos ⟨rfl, rfl⟩]
      have q4 : ∀ f, zS (b2X s p (zS s p 5 - cost) c x f) p 4 = x := fun f => by
        unfold b2X
        rw [zS_pS, if_neg (by omega), zS_pS, if_neg (by omega), zS_pS, if_neg (by omega)]
        exact p4 f
      -- the reference's yard, there or not
      have yd : ∀ (f : Int32) (R : SS → Prop), (¬ zS s 15 5 < 0 ∧ x = zS s 15 8 ∧ ¬ c < zS s 15 6 ∧ ¬ zS s 15 7 < c → f = 2 ∧ Pc (f_X12_bore_L0 y1 y2 m (b2M t i (zS s p 5 - cost) c x f)) R) → (¬ (¬ zS s 15 5 < 0 ∧ x = zS s 15 8 ∧ ¬ c < zS s 15 6 ∧ ¬ zS s 15 7 < c) → f = op ∧ Pc (f_X12_bore_L0 y1 y2 m (b1M t i (zS s p 5 - cost) c x f)) R) → Pc (gd (inB y1 120) (if (zI t 68 i) < cost then some t else (gd (inB y1 120) (vl (((zI t 68 i) - cost)) fun v19 => (gd (inB y1 120) (st (pI t 68 i v19) fun s21 => (gd (inB y1 120) (st (pI s21 67 i x) fun s23 => (gd (inB y1 120) (st (pI s23 65 i c) fun s25 => (jn (fun (t26_0 : Int32) => (jn (fun (t27_0 : Int32) => (vl ((((61 : Int32) * y1) + x)) fun v28 => (gd (inB v28 7320) (st (pI s25 71 (v28.toInt.toNat) t27_0) fun s30 => (jn (fun (s31 : SS)  => (f_X12_bore_L0 y1 y2 m s31)) fun k31 => (if t26_0 = (0 : Int32) then (k31 s30) else (vl (((zS s30 59 1) + (1 : Int32))) fun v33 => (gd (inB y1 120) (st (pI s30 69 i v33) fun s35 => (k31 s35)))))))))) fun k27 => (if t26_0 = (0 : Int32) then (gd (inB ((61 : Int32) * c + x) 1952) (if (zI s25 61 (((61 : Int32) * c + x).toInt.toNat)) = (0 : Int32) then (k27 0) else (k27 1))) else (k27 2)))) fun k26 => (jn ((k26 0)) fun k39 => (if (zS s25 59 21) < (0 : Int32) then k39 else (if x = (zS s25 59 24) then (b1 (f_X12_in c (zS s25 59 22) (zS s25 59 23)) fun r42 => (if r42 = (0 : Int32) then k39 else (k26 1))) else k39)))))))))))))) R := by
        intro f R ht hn
        refine Pc_gd (fun _ => Pc_iff k' (Pc_gd (fun _ => Pc_vl ?_)))
        refine Pc_gd (fun _ => Pc_st (Pc_gd (fun _ => Pc_st ?_)))
        refine Pc_gd (fun _ => Pc_st (Pc_jn (Pc_jn ?_)))
        have no : ¬ (¬ zS s 15 5 < 0 ∧ x = zS s 15 8 ∧ ¬ c < zS s 15 6 ∧ ¬ zS s 15 7 < c) → Pc (jn (fun (t27_0 : Int32) => (vl ((((61 : Int32) * y1) + x)) fun v28 => (gd (inB v28 7320) (st (pI (pI (pI (pI t 68 i (zI t 68 i - cost)) 67 i x) 65 i c) 71 (v28.toInt.toNat) t27_0) fun s30 => (jn (fun (s31 : SS)  => (f_X12_bore_L0 y1 y2 m s31)) fun k31 => (if (0 : Int32) = (0 : Int32) then (k31 s30) else (vl (((zS s30 59 1) + (1 : Int32))) fun v33 => (gd (inB y1 120) (st (pI s30 69 i v33) fun s35 => (k31 s35)))))))))) fun k27 => (if (0 : Int32) = (0 : Int32) then (gd (inB ((61 : Int32) * c + x) 1952) (if (zI (pI (pI (pI t 68 i (zI t 68 i - cost)) 67 i x) 65 i c) 61 (((61 : Int32) * c + x).toInt.toNat)) = (0 : Int32) then (k27 0) else (k27 1))) else (k27 2))) R := by
          intro z
          obtain ⟨ef, hb'⟩ := hn z
          refine Pc_jn (Pc_if00 (Pc_gd (fun _ => ?_)))
          rw [v13]
          have e61 : zI (pI (pI (pI t 68 i (zI t 68 i - cost)) 67 i x) 65 i c) 61 (61 * c.toInt.toNat + x.toInt.toNat) = op := by rw [zI_pI, if_neg (by omega), zI_pI, if_neg (by omega), zI_pI, if_neg (by omega)]; exact eop.symm
          rw [e61]
          unfold b1M at hb'
          rw [x5] at hb'
          rcases hop with rfl | rfl
          · refine Pc_ift rfl (Pc_vl (Pc_gd (fun _ => Pc_st (Pc_jn (Pc_if00 ?_)))))
            rw [v10, ← ef]
            exact hb'
          · refine Pc_iff n10 (Pc_vl (Pc_gd (fun _ => Pc_st (Pc_jn (Pc_if00 ?_)))))
            rw [v10, ← ef]
            exact hb'
        show Pc (if (zS t 59 21) < (0 : Int32) then _ else (if x = (zS t 59 24) then (b1 (f_X12_in c (zS t 59 22) (zS t 59 23)) fun r42 => _) else _)) R
        rw [← e4, ← e5, ← e6, ← e7]
        by_cases z5 : zS s 15 5 < 0
        · exact Pc_ift z5 (no (fun z => z.1 z5))
        by_cases z8 : x = zS s 15 8
        case neg => exact Pc_iff z5 (Pc_iff z8 (no (fun z => z8 z.2.1)))
        refine Pc_iff z5 (Pc_ift z8 ?_)
        by_cases zz : ¬ c < zS s 15 6 ∧ ¬ zS s 15 7 < c
        · rw [in_t (by have a := zz.1; have b := zz.2; rw [jlt] at a b; omega)]
          obtain ⟨ef, hb'⟩ := ht ⟨z5, z8, zz.1, zz.2⟩
          refine Pc_b1S (Pc_if10 (Pc_jn (Pc_if10 (Pc_vl ?_))))
          refine Pc_gd (fun _ => Pc_st (Pc_jn (Pc_if10 (Pc_vl ?_))))
          refine Pc_gd (fun _ => Pc_st ?_)
          unfold b2M b1M at hb'
          rw [x5] at hb'
          rw [v10, ← ef]
          exact hb'
        · rw [in_f (by intro w; exact zz ⟨by rw [jlt]; omega, by rw [jlt]; omega⟩)]
          exact Pc_b1S (Pc_if00 (no (fun z => zz ⟨z.2.2.1, z.2.2.2⟩)))
      by_cases th : ¬ zS s 15 5 < 0 ∧ x = zS s 15 8 ∧ ¬ c < zS s 15 6 ∧ ¬ zS s 15 7 < c
      · rw [if_pos th]
        refine Pc_b1S (Pc_jn (Pc_if10 (Pc_gd (fun _ => Pc_st (Pc_jn (Pc_if10 (Pc_st (Pc_vl (Pc_st ?_)))))))))
        rw [minJ]
        refine Pc_b1S (Pc_st (Pc_vl ?_))
        have W2 := BW.two (f := 2) o hi h z6 z69 e2 e3 (W1 2) ⟨h17.1, by rw [z6, jl0] at h17; omega⟩
        have es : pS (pS (pS (pI (pS (pS (pS (pS s p 5 (zS s p 5 - cost)) p 2 c) p 4 x) 0 16 (zS s 0 16 + 1)) (p + 2) x.toInt.toNat 2) p 6 1) 0 17 (zS (pS (pI (pS (pS (pS (pS s p 5 (zS s p 5 - cost)) p 2 c) p 4 x) 0 16 (zS s 0 16 + 1)) (p + 2) x.toInt.toNat 2) p 6 1) 0 17 + 1)) 0 18 (if zS (pS (pS (pI (pS (pS (pS (pS s p 5 (zS s p 5 - cost)) p 2 c) p 4 x) 0 16 (zS s 0 16 + 1)) (p + 2) x.toInt.toNat 2) p 6 1) 0 17 (zS (pS (pI (pS (pS (pS (pS s p 5 (zS s p 5 - cost)) p 2 c) p 4 x) 0 16 (zS s 0 16 + 1)) (p + 2) x.toInt.toNat 2) p 6 1) 0 17 + 1)) 0 14 < zS (pS (pS (pI (pS (pS (pS (pS s p 5 (zS s p 5 - cost)) p 2 c) p 4 x) 0 16 (zS s 0 16 + 1)) (p + 2) x.toInt.toNat 2) p 6 1) 0 17 (zS (pS (pI (pS (pS (pS (pS s p 5 (zS s p 5 - cost)) p 2 c) p 4 x) 0 16 (zS s 0 16 + 1)) (p + 2) x.toInt.toNat 2) p 6 1) 0 17 + 1)) 0 18 then zS (pS (pS (pI (pS (pS (pS (pS s p 5 (zS s p 5 - cost)) p 2 c) p 4 x) 0 16 (zS s 0 16 + 1)) (p + 2) x.toInt.toNat 2) p 6 1) 0 17 (zS (pS (pI (pS (pS (pS (pS s p 5 (zS s p 5 - cost)) p 2 c) p 4 x) 0 16 (zS s 0 16 + 1)) (p + 2) x.toInt.toNat 2) p 6 1) 0 17 + 1)) 0 14 else zS (pS (pS (pI (pS (pS (pS (pS s p 5 (zS s p 5 - cost)) p 2 c) p 4 x) 0 16 (zS s 0 16 + 1)) (p + 2) x.toInt.toNat 2) p 6 1) 0 17 (zS (pS (pI (pS (pS (pS (pS s p 5 (zS s p 5 - cost)) p 2 c) p 4 x) 0 16 (zS s 0 16 + 1)) (p + 2) x.toInt.toNat 2) p 6 1) 0 17 + 1)) 0 18) = b2X s p (zS s p 5 - cost) c x 2 := by
          have g : ∀ k, k = 14 ∨ k = 17 ∨ k = 18 → zS (pS (pI (pS (pS (pS (pS s p 5 (zS s p 5 - cost)) p 2 c) p 4 x) 0 16 (zS s 0 16 + 1)) (p + 2) x.toInt.toNat 2) p 6 1) 0 k = zS s 0 k := fun k hk => by rw [zS_pS, if_neg (by omega), zS_pI, zS_pS, if_neg (by omega), zS_pS, if_neg (by omega), zS_pS, if_neg (by omega), zS_pS, if_neg (by omega)]
          have g2 : ∀ v k, k = 14 ∨ k = 18 → zS (pS (pS (pI (pS (pS (pS (pS s p 5 (zS s p 5 - cost)) p 2 c) p 4 x) 0 16 (zS s 0 16 + 1)) (p + 2) x.toInt.toNat 2) p 6 1) 0 17 v) 0 k = zS s 0 k := fun v k hk => by rw [zS_pS, if_neg (by omega)]; exact g k (by omega)
          rw [g2 _ 14 (by omega), g2 _ 18 (by omega), g 17 (by omega)]
          rfl
        rw [es]
        refine Pc.mono (rec_ _ _ W2 (q4 2) ?_) (fun r hr => mm _ (yd 2 _ (fun _ => ⟨rfl, hr⟩) (fun z => absurd th z)))
        unfold b2M
        rw [zI_pI, if_pos ⟨rfl, rfl⟩, ← e2, i32_add (by rw [jl1]; omega) (by rw [jl1]; omega), jl1]
        omega
      · rw [if_neg th]
        have go : ∀ f, f = op → Pc (f_X11_boreOn_L7 p y2 n (b1X s p (zS s p 5 - cost) c x f) (x + 1)) (fun r => Pc (gd (inB y1 120) (gd (inB y1 120) (if (zI t 67 i) < (zI t 66 i) then (gd (inB y1 120) (if (zI t 69 i) = (0 : Int32) then (gd (inB y1 120) (vl (((zI t 67 i) + (1 : Int32))) fun v7 => (gd (inB y1 120) (vl ((((61 : Int32) * y1) + v7)) fun v10 => (gd (inB v10 7320) (b1 (f_X12_held ((zI t 65 i) + (zI t 70 (v10.toInt.toNat))) (0 : Int32) (31 : Int32)) fun r12 => (vl ((((61 : Int32) * r12) + v7)) fun v13 => (gd (inB v13 1952) (jn (fun (t15_0 : Int32) => (gd (inB y1 120) (if (zI t 68 i) < t15_0 then some t else (gd (inB y1 120) (vl (((zI t 68 i) - t15_0)) fun v19 => (gd (inB y1 120) (st (pI t 68 i v19) fun s21 => (gd (inB y1 120) (st (pI s21 67 i v7) fun s23 => (gd (inB y1 120) (st (pI s23 65 i r12) fun s25 => (jn (fun (t26_0 : Int32) => (jn (fun (t27_0 : Int32) => (vl ((((61 : Int32) * y1) + v7)) fun v28 => (gd (inB v28 7320) (st (pI s25 71 (v28.toInt.toNat) t27_0) fun s30 => (jn (fun (s31 : SS)  => (f_X12_bore_L0 y1 y2 m s31)) fun k31 => (if t26_0 = (0 : Int32) then (k31 s30) else (vl (((zS s30 59 1) + (1 : Int32))) fun v33 => (gd (inB y1 120) (st (pI s30 69 i v33) fun s35 => (k31 s35)))))))))) fun k27 => (if t26_0 = (0 : Int32) then (gd (inB v13 1952) (if (zI s25 61 (v13.toInt.toNat)) = (0 : Int32) then (k27 0) else (k27 1))) else (k27 2)))) fun k26 => (jn ((k26 0)) fun k39 => (if (zS s25 59 21) < (0 : Int32) then k39 else (if v7 = (zS s25 59 24) then (b1 (f_X12_in r12 (zS s25 59 22) (zS s25 59 23)) fun r42 => (if r42 = (0 : Int32) then k39 else (k26 1))) else k39))))))))))))))) fun k15 => (if (zI t 61 (v13.toInt.toNat)) = (0 : Int32) then (gd (inB v13 1952) (k15 (y2 * ((3 : Int32) + (zI t 60 (v13.toInt.toNat)))))) else (k15 0))))))))))) else some t)) else some t))) (fun u => BW p i s t r u)) := fun f ef => Pc.mono (rec_ _ _ (W1 f) (p4 f) (by
          unfold b1M
          rw [zI_pI, if_neg (by omega), zI_pI, if_neg (by omega), zI_pI, if_neg (by omega), zI_pI, if_neg (by omega)]
          exact h69)) (fun r hr => mm _ (yd f _ (fun z => absurd z th) (fun _ => ⟨ef, hr⟩)))
        rcases hop with rfl | rfl
        · exact Pc_b1S (Pc_jn (Pc_if00 (Pc_if00 (Pc_gd (fun _ => Pc_st (Pc_jn (Pc_if00 (Pc_vl (go 0 rfl)))))))))
        · exact Pc_b1S (Pc_jn (Pc_if00 (Pc_if10 (Pc_gd (fun _ => Pc_st (Pc_jn (Pc_if00 (Pc_vl (go 1 rfl)))))))))
    rcases k3 with k3 | k3
    · have c3 : 0 ≤ (y2 * (3 + zI t 60 (61 * c.toInt.toNat + x.toInt.toNat))).toInt := by
        rw [← k1]
        have a := hh (60 * c.toInt.toNat + x.toInt.toNat - 1)
        have b : 0 ≤ y2.toInt * (zI s 2 (60 * c.toInt.toNat + x.toInt.toNat - 1)).toInt := Int.mul_nonneg hp.1 a.1
        have d : y2.toInt * (zI s 2 (60 * c.toInt.toNat + x.toInt.toNat - 1)).toInt ≤ 60 * 9 := Int.mul_le_mul hp.2 a.2 a.1 (by omega)
        rw [i32_mul (by omega) (by omega)]
        exact b
      have F := fin 0 _ (Or.inl rfl) k3.symm (if_pos rfl).symm c3
      refine Pc_iff (by rw [k2, k3]; decide) (Pc_jn (Pc_if00 (Pc_gd (fun _ => ?_))))
      rw [k1]
      exact F
    · have F := fin 1 _ (Or.inr rfl) k3.symm (if_neg n10).symm (by decide)
      exact Pc_ift (by rw [k2, k3]) (Pc_jn (Pc_if10 F))
end BLs
