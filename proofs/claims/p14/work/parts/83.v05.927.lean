/-! A DRILLING HOUR: both sides -/
section DRx
variable {s s3 t u u0 : SS}
theorem GH.m {i m : Nat} {x : Int32} (C : CI s) (A : MA s t) (E : BE s t) (H : QHol s t) (Q : QSet s t) (K : QKep ((zS t 59 1).toInt - 1) t) (hp : ∀ m, m < 3 → 0 ≤ (zI t 78 m).toInt ∧ (zI t 78 m).toInt ≤ 60) (hd : ∀ j, 0 ≤ (zI s 2 j).toInt ∧ (zI s 2 j).toInt ≤ 9) (k4 : ∀ m i q, m < 3 → i < 120 → zR s 17 i = some q → act s m = some q → (∀ m', m' < 3 → m' ≠ m → act s m' ≠ some q) → oneM s s3 m q) (D : DK t u0 3) (hx : x.toInt = i) (hi : i < 120) (hm : m < 3) (ha : mac t m) (hi' : mat t m = i) (F : dFr u0 u) (R : sRw i u0 u) : Pc (f_X12_bore u x (zI u0 100 i)) (fun u' => GH s s3 t i u' ∧ mW i u u' ∧ ∀ q k, zS u' q k = zS u q k) := by
  obtain ⟨e1, e2, e3, e4, e5, e6, e7⟩ := id E
  obtain ⟨_, p, ap, rp⟩ := m_act A e2 C.2.1 Q hm ha
  rw [hi'] at rp
  have oth : ∀ m', m' < 3 → m' ≠ m → act s m' ≠ some p := fun m' hm' ne h => by
    obtain ⟨y1, y2, y3⟩ := act_m A e2 C.2.1 hm' h
    exact ne (mat_1 Q hm hm' ha y1 ((H.2.2.1 _ _ p y2 hi y3 rp).trans hi'.symm))
  obtain ⟨a, b, Ca, La, Sa, eb, Sb⟩ := k4 m i p hm hi rp ap oth
  obtain ⟨FD, d1, d2⟩ := id D
  obtain ⟨f1, f2, f3⟩ := d2 m hm ha
  rw [hi'] at f1 f2 f3
  have ra : zR a 17 i = some p := (La.R 17 i).trans rp
  have oa := Ca.1.2.2.1 i p hi ra
  have o1 := oa.1
  have bb := Ca.b
  have e3' : 0 ≤ (zS t 59 1).toInt ∧ (zS t 59 1).toInt ≤ 1699 := by rw [← e2]; exact e3
  have K' := K i hi
  have u68 : zI u 68 i = zI t 68 i + 60 := (R.1 68 (by omega) (by omega)).trans f1
  have n60 : (zI t 68 i + 60).toInt = (zI t 68 i).toInt + 60 := by rw [i32_add (by rw [jl60]; omega) (by rw [jl60]; omega), jl60]
  have rw' : ∀ q, q = 63 ∨ q = 64 ∨ q = 65 ∨ q = 66 ∨ q = 67 ∨ q = 69 ∨ q = 104 → zI u q i = zI t q i := fun q w => (R.1 q (by omega) (by omega)).trans (FD.2.1 q i (by rcases w with w | w | w | w | w | w | w <;> subst w <;> decide))
  have ry : ∀ q y, q = 70 ∨ q = 71 ∨ q = 72 ∨ q = 73 → 1 ≤ y → y ≤ 60 → zI u q (61 * i + y) = zI t q (61 * i + y) := fun q y w h1 h2 => (R.2 q y (by omega) (by omega) h1 h2).trans (FD.2.1 q _ (by rcases w with w | w | w | w <;> subst w <;> decide))
  have zk : ∀ k, k ≠ 5 → zS (pS a p 5 (zS a p 5 + 60)) p k = zS s p k := fun k hk => by rw [zS_pS, if_neg (by omega)]; exact Sa.1 k
  have z5 : zS (pS a p 5 (zS a p 5 + 60)) p 5 = zS s p 5 + 60 := by rw [zS_pS, if_pos ⟨rfl, rfl⟩, Sa.1 5]
  obtain ⟨x0, x1, x2, x3, x4, x5, x6, x7, x8⟩ := H.1 i p hi rp
  have X : HX (pS a p 5 (zS a p 5 + 60)) p u i := by
    refine ⟨?_, ?_, ?_, ?_, ?_, ?_, ?_, ?_, fun y y1 y2 => ?_⟩
    · rw [zk 0 (by omega), rw' 63 (by omega)]; exact x0
    · rw [zk 1 (by omega), rw' 64 (by omega)]; exact x1
    · rw [zk 2 (by omega), rw' 65 (by omega)]; exact x2
    · rw [zk 3 (by omega), rw' 66 (by omega)]; exact x3
    · rw [zk 4 (by omega), rw' 67 (by omega)]; exact x4
    · rw [z5, u68, x5]
    · rw [zk 6 (by omega), rw' 69 (by omega)]; exact x6
    · rw [zk 7 (by omega), rw' 104 (by omega)]; exact x7
    · have v := x8 y y1 y2
      have g1 : zI (pS a p 5 (zS a p 5 + 60)) (p + 1) y = zI s (p + 1) y := Sa.2.1 y
      have g2 : zI (pS a p 5 (zS a p 5 + 60)) (p + 2) y = zI s (p + 2) y := Sa.2.2.1 y
      have g3 : zI (pS a p 5 (zS a p 5 + 60)) (p + 3) y = zI s (p + 3) y := Sa.2.2.2 y
      rw [g1, g2, g3, ry 70 y (by omega) y1 y2, ry 71 y (by omega) y1 y2, ry 72 y (by omega) y1 y2, ry 73 y (by omega) y1 y2]
      exact v
  have us : ∀ k, zS u 59 k = zS t 59 k := fun k => (F.1 59 k).trans (FD.1 59 k rfl)
  have E' : BE a u := by
    refine ⟨fun c y h1 h2 h3 => ?_, ?_, ?_, ?_, ?_, ?_, ?_⟩
    · rw [La.2.1 2 _ (by omega), La.2.1 3 _ (by omega), F.2 60 _ (by omega) (by omega), F.2 61 _ (by omega) (by omega), FD.2.1 60 _ (by decide), FD.2.1 61 _ (by decide)]
      exact e1 c y h1 h2 h3
    · rw [La.1 0 14 (by omega) (by omega), us]; exact e2
    · rw [La.1 0 14 (by omega) (by omega)]; exact e3
    · rw [La.1 15 5 (by omega) (by omega), us]; exact e4
    · rw [La.1 15 6 (by omega) (by omega), us]; exact e5
    · rw [La.1 15 7 (by omega) (by omega), us]; exact e6
    · rw [La.1 15 8 (by omega) (by omega), us]; exact e7
  have hv := hp m hm
  rw [(A m hm).1] at eb
  rw [f3]
  have u69 := rw' 69 (by omega)
  refine Pc.mono (bm_l hx hi hv oa (Ca.2.2.2.1 i p hi ra) bb.1 bb.2 (fun j => by rw [La.2.1 2 j (by omega)]; exact hd j) X E' (by rw [u69]; exact H.2.2.2 i hi) (by rw [u68, n60]; omega) eb) (fun u' W => ?_)
  obtain ⟨w1, _, _, _, w5, w6, _, _, _, w10, _, w12, w13⟩ := W
  rw [u69, us] at w10
  have nh : (zS t 59 1 + 1).toInt = (zS t 59 1).toInt + 1 := by rw [i32_add (by rw [jl1]; omega) (by rw [jl1]; omega), jl1]
  refine ⟨⟨fun q hq => ?_, fun n => ?_, ?_, w10, w12, ?_⟩, w5, w6⟩
  · have : p = q := Option.some.inj (rp.symm.trans hq)
    rw [← this]
    exact w1.h Sb sRw.rf
  · rw [rp] at n; cases n
  · rcases w10 with w | ⟨_, w⟩
    · rw [w]; exact H.2.2.2 i hi
    · rw [w, nh]; omega
  · rw [u68, n60] at w13
    omega
/-- the two loops of the reference, after the flags -/
theorem dr_g (C : CI s) (A : MA s t) (E : BE s t) (H : QHol s t) (Q : QSet s t) (K : QKep ((zS t 59 1).toInt - 1) t) (hp : ∀ m, m < 3 → 0 ≤ (zI t 78 m).toInt ∧ (zI t 78 m).toInt ≤ 60) (hd : ∀ j, 0 ≤ (zI s 2 j).toInt ∧ (zI s 2 j).toInt ≤ 9) (hn : zS s 15 3 = zS t 59 4) (hn0 : 0 ≤ (zS s 15 3).toInt) (z99 : ∀ i : Nat, (i : Int) < (zS t 59 4).toInt → zI t 99 i = 0) (k3 : ∀ i q, i < 120 → zR s 17 i = some q → (∀ m, m < 3 → act s m ≠ some q) → sHp q s s3) (k4 : ∀ m i q, m < 3 → i < 120 → zR s 17 i = some q → act s m = some q → (∀ m', m' < 3 → m' ≠ m → act s m' ≠ some q) → oneM s s3 m q) : Pc (f_X12_drill_L36 (fun (s33 : SS) => (f_X12_drill_L119 4000 s33 0)) 4000 t 0) (fun r => (∀ q k, zS r q k = zS t q k) ∧ (∀ q j, q < 63 ∨ 73 < q → q ≠ 99 → q ≠ 100 → q ≠ 104 → zI r q j = zI t q j) ∧ ∀ i, i < 120 → GH s s3 t i r) := by
  obtain ⟨_, e2, e3, _⟩ := id E
  have b := C.2.1
  refine dr36_l Q.2 (fun u0 D => ?_) 4000 t 0 0 (by rw [jl0]; rfl) (by omega) ⟨Frm.rf, fun _ _ => ⟨rfl, rfl⟩, fun m hm => by omega⟩
  have F0 := D.1
  have n0 : zS u0 59 4 = zS t 59 4 := F0.1 59 4 rfl
  have noM : ∀ (i : Nat) u, i < 120 → (∀ m, m < 3 → mac t m → mat t m ≠ i) → sRw i u0 u → GH s s3 t i u := fun i u hi h hu => GH.n C A e2 e3.1 H K k3 D hi h hu
  have bN : (zS u0 59 4).toInt = (zS s 15 3).toInt := by rw [n0, hn]
  refine Pc.mono (dr119_l (u0 := u0) (G := GH s s3 t) ⟨by omega, by omega⟩ (fun i u u' h g => GH.g h g) (fun i u hi z hu => noM i u (by omega) (fun m hm ha e => ?_) hu) (fun i u x hx hi z F R => ?_) 4000 u0 0 0 (by rw [jl0]; rfl) (by omega) dFr.rf (fun _ _ => sRw.rf) (fun i hi => by omega)) (fun r h => ?_)
  · have := (D.2.2 m hm ha).2.1
    rw [e, z] at this
    exact absurd this (by decide)
  · by_cases c : ∃ m, m < 3 ∧ mac t m ∧ mat t m = i
    · obtain ⟨m, hm, ha, hi'⟩ := c
      exact GH.m C A E H Q K hp hd k4 D hx (by omega) hm ha hi' F R
    · refine absurd ?_ z
      rw [(D.2.1 i (fun m hm ha e => c ⟨m, hm, ha, e⟩)).2]
      exact z99 i (by rw [← n0]; exact hi)
  · obtain ⟨h1, h2, h3⟩ := h
    refine ⟨fun q k => (h1.1 q k).trans (F0.1 q k rfl), fun q j a1 a2 a3 a4 => (h1.2 q j a1 a4).trans (F0.2.1 q j ?_), fun i hi => ?_⟩
    · have : q ≠ 68 := by omega
      simp [this, a2, a3]
    · by_cases c : (i : Int) < (zS u0 59 4).toInt
      · exact h3 i c
      · refine noM i r hi (fun m hm ha e => ?_) (h2 i (by omega))
        have := (m_act A e2 b Q hm ha).1
        omega
end DRx
