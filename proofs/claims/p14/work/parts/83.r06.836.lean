/-! NEEDS, AIMS -/
theorem needM {t : SS} {a0 a1 : Int32} {n : Nat} (ha : ¬ a0 < 0) (c : 1 ≤ (a0 / 100).toInt ∧ (a0 / 100).toInt ≤ 9) (c2 : ¬ a0 % 100 = 0) (b : 0 ≤ a1.toInt ∧ a1.toInt ≤ 99) (h2 : ¬ zS t 59 67 = 10) (h3 : 0 ≤ (zS t 59 67).toInt ∧ (zS t 59 67).toInt < 10) (en : n = (zS t 59 67).toInt.toNat) : f_X12_need t a0 a1 = some (zS t 59 67 + 1, pS (pI (pI (pI t 106 n (a0 / 100)) 107 n (a0 % 100)) 108 n a1) 59 67 (zS t 59 67 + 1)) := by
  have gn : inB (zS t 59 67) 10 := ⟨by omega, by omega⟩
  unfold f_X12_need
  rw [if_neg ha, in_t (by rw [jl1, jl9]; omega), b1_some, if_neg (by decide), if_neg c2, in_t (by rw [jl0, jl99]; omega), b1_some, if_neg (by decide), if_neg h2]
  dsimp only [st, vl]
  rw [gd_t gn, gd_t (show inB (zS (pI t 106 (zS t 59 67).toInt.toNat (a0 / 100)) 59 67) 10 from gn), gd_t (show inB (zS (pI (pI t 106 (zS t 59 67).toInt.toNat (a0 / 100)) 107 (zS (pI t 106 (zS t 59 67).toInt.toNat (a0 / 100)) 59 67).toInt.toNat (a0 % 100)) 59 67) 10 from gn)]
  rw [en]
  rfl
theorem needX {s : SS} {x y z : Int32} {n : Nat} (h3 : 0 ≤ (zS s 34 3).toInt ∧ (zS s 34 3).toInt < 10) (en : n = (zS s 34 3).toInt.toNat) : f_X6_needTold s x y z = some (zS s 34 3 + 1, pS (pI (pI (pI s 35 n x) 36 n y) 37 n z) 34 3 (zS s 34 3 + 1)) := by
  have gn : inB (zS s 34 3) 10 := ⟨by omega, by omega⟩
  unfold f_X6_needTold
  rw [if_pos (by rw [jlt, jl10]; omega)]
  dsimp only [st, vl]
  rw [gd_t gn, gd_t (show inB (zS (pI s 35 (zS s 34 3).toInt.toNat x) 34 3) 10 from gn), gd_t (show inB (zS (pI (pI s 35 (zS s 34 3).toInt.toNat x) 36 (zS (pI s 35 (zS s 34 3).toInt.toNat x) 34 3).toInt.toNat y) 34 3) 10 from gn)]
  rw [en]
  rfl
theorem sa_need {s : SS} (G : GA s) (a0 : Int32) (a1 : Int32) : ∃ (rx : Int32) (s1 : SS) (rm : Int32) (s2 : SS), f_X11_need s a0 a1 = some (rx, s1) ∧ f_X12_need s1 a0 a1 = some (rm, s2) ∧ GA s2 ∧ FrB s s2 ∧ rx = rm := by
  have e := G.2.1.2.2.2.2.1
  have hf : 0 ≤ (zS s 34 3).toInt ∧ (zS s 34 3).toInt ≤ 10 := G.1.f (q := 34) (k := 3) rfl
  by_cases c : 100 ≤ a0.toInt ∧ a0.toInt ≤ 999
  · have hp : 0 ≤ a0.toInt := by omega
    have ed : (a0 / 100).toInt = a0.toInt / 100 := by rw [jd100, if_pos hp]
    have em : (a0 % 100).toInt = a0.toInt % 100 := by rw [jm100, if_pos hp]
    have n0 : ¬ a0 < 0 := by rw [jlt, jl0]; omega
    have nx : ¬ a0 < 100 ∧ ¬ 999 < a0 := ⟨by rw [jlt, jl100]; omega, by rw [jlt, jl999]; omega⟩
    have cd : 1 ≤ (a0 / 100).toInt ∧ (a0 / 100).toInt ≤ 9 := by omega
    by_cases c2 : a0 % 100 = 0
    · refine ⟨-1, s, -1, s, ?_, ?_, G, FrB.rf, rfl⟩
      · unfold f_X11_need
        rw [if_neg nx.1, if_neg nx.2, if_pos c2]
      · unfold f_X12_need
        rw [if_neg n0, in_t (by rw [jl1, jl9]; omega), b1_some, if_neg (by decide), if_pos c2]
    by_cases b : 0 ≤ a1.toInt ∧ a1.toInt ≤ 99
    · have bx : ¬ a1 < 0 ∧ ¬ 99 < a1 := ⟨by rw [jlt, jl0]; omega, by rw [jlt, jl99]; omega⟩
      by_cases d : (zS s 34 3).toInt < 10
      · have n1 : (zS s 34 3 + 1).toInt = (zS s 34 3).toInt + 1 := by rw [i32_add (by rw [jl1]; omega) (by rw [jl1]; omega), jl1]
        obtain ⟨n, en⟩ : ∃ n, n = (zS s 34 3).toInt.toNat := ⟨_, rfl⟩
        have f67 : zS (pS (pI (pI (pI s 35 n (a0 / 100)) 36 n (a0 % 100)) 37 n a1) 34 3 (zS s 34 3 + 1)) 59 67 = zS s 34 3 := e.symm
        refine ⟨zS s 34 3 + 1, pS (pI (pI (pI s 35 n (a0 / 100)) 36 n (a0 % 100)) 37 n a1) 34 3 (zS s 34 3 + 1), _, _, ?_, needM (n := n) n0 cd c2 b (fun z => by rw [f67] at z; rw [z, jl10] at d; omega) (by rw [f67]; omega) (by rw [f67]; exact en), ⟨?_, ?_⟩, (((((((FrB.rf.pI (by decide)).pI (by decide)).pI (by decide)).pS (by decide)).pI (by decide)).pI (by decide)).pI (by decide)).pS (by decide), ?_⟩
        · unfold f_X11_need
          rw [if_neg nx.1, if_neg nx.2, if_neg c2, if_neg bx.1, if_neg bx.2, needX ⟨hf.1, d⟩ en]
          rfl
        · rw [f67]
          exact (((((((G.1.wI (q := 35) (by decide) trivial).wI (q := 36) (by decide) trivial).wI (q := 37) (by decide) trivial).wF (q := 34) (k := 3) (by decide) (by decide) ⟨by omega, by omega⟩).wI (q := 106) (by decide) ⟨by omega, by omega⟩).wI (q := 107) (by decide) ⟨by omega, by omega⟩).wI (q := 108) (by decide) ⟨by omega, by omega⟩).wF (q := 59) (k := 67) (by decide) (by decide) ⟨by omega, by omega⟩
        · rw [f67]
          refine RG.cnt G.2 (fun q k h h1 h2 h3 h4 h5 h6 => ?_) G.2.1.2.1 rfl G.2.1.2.2.2.2.2 (fun q j h => ?_) (fun _ _ _ => rfl) (fun _ => rfl)
          · rw [zS_pS, if_neg h4, zS_pI, zS_pI, zS_pI, zS_pS, if_neg h3, zS_pI, zS_pI, zS_pI]
          · rw [zI_pS, zIf h (by decide), zIf h (by decide), zIf h (by decide), zI_pS, zIf h (by decide), zIf h (by decide), zIf h (by decide)]
        · rw [f67]
      · refine ⟨-3, s, -3, s, ?_, ?_, G, FrB.rf, rfl⟩
        · unfold f_X11_need f_X6_needTold
          rw [if_neg nx.1, if_neg nx.2, if_neg c2, if_neg bx.1, if_neg bx.2, if_neg (by rw [jlt, jl10]; exact d)]
          rfl
        · unfold f_X12_need
          rw [if_neg n0, in_t (by rw [jl1, jl9]; omega), b1_some, if_neg (by decide), if_neg c2, in_t (by rw [jl0, jl99]; omega), b1_some, if_neg (by decide), if_pos (by rw [← e]; exact Int32.toInt_inj.1 (by rw [jl10]; omega))]
    · refine ⟨-1, s, -1, s, ?_, ?_, G, FrB.rf, rfl⟩
      · unfold f_X11_need
        rw [if_neg nx.1, if_neg nx.2, if_neg c2]
        by_cases h : a1 < 0
        · rw [if_pos h]
        · rw [if_neg h, if_pos (by rw [jlt, jl99]; rw [jlt, jl0] at h; omega)]
      · unfold f_X12_need
        rw [if_neg n0, in_t (by rw [jl1, jl9]; omega), b1_some, if_neg (by decide), if_neg c2, in_f (by rw [jl0, jl99]; omega), b1_some, if_pos rfl]
  · refine ⟨-1, s, -1, s, ?_, ?_, G, FrB.rf, rfl⟩
    · unfold f_X11_need
      by_cases h : a0 < 100
      · rw [if_pos h]
      · rw [if_neg h, if_pos (by rw [jlt, jl999]; rw [jlt, jl100] at h; omega)]
    · unfold f_X12_need
      by_cases h : a0 < 0
      · rw [if_pos h]
      · have hp : 0 ≤ a0.toInt := by rw [jlt, jl0] at h; omega
        have ed : (a0 / 100).toInt = a0.toInt / 100 := by rw [jd100, if_pos hp]
        rw [if_neg h, in_f (by rw [jl1, jl9]; omega), b1_some, if_pos rfl]
theorem aimM {t : SS} {a0 a1 : Int32} {n : Nat} (c : 0 ≤ a0.toInt ∧ a0.toInt ≤ 31) (b : 0 ≤ a1.toInt ∧ a1.toInt ≤ 9) (h2 : ¬ zS t 59 76 = 6) (h3 : 0 ≤ (zS t 59 76).toInt ∧ (zS t 59 76).toInt < 6) (en : n = (zS t 59 76).toInt.toNat) : f_X12_aim t a0 a1 = some (zS t 59 76 + 1, pS (pI t 112 n a1) 59 76 (zS t 59 76 + 1)) := by
  have gn : inB (zS t 59 76) 6 := ⟨by omega, by omega⟩
  unfold f_X12_aim
  rw [in_t (by rw [jl0, jl31]; omega), b1_some, if_neg (by decide), in_t (by rw [jl0, jl9]; omega), b1_some, if_neg (by decide), if_neg h2]
  dsimp only [st, vl]
  rw [gd_t gn, en]
  rfl
theorem sa_aim {s : SS} (G : GA s) (a0 : Int32) (a1 : Int32) : ∃ (rx : Int32) (s1 : SS) (rm : Int32) (s2 : SS), f_X11_aim s a0 a1 = some (rx, s1) ∧ f_X12_aim s1 a0 a1 = some (rm, s2) ∧ GA s2 ∧ FrB s s2 ∧ rx = rm := by
  have e := G.2.1.2.2.2.2.2
  have hf : 0 ≤ (zS s 34 9).toInt ∧ (zS s 34 9).toInt ≤ 6 := G.1.f (q := 34) (k := 9) rfl
  by_cases c : 0 ≤ a0.toInt ∧ a0.toInt ≤ 31
  · have cx : ¬ a0 < 0 ∧ a0 < 32 := ⟨by rw [jlt, jl0]; omega, by rw [jlt, jl32]; omega⟩
    by_cases b : 0 ≤ a1.toInt ∧ a1.toInt ≤ 9
    · have bx : ¬ a1 < 0 ∧ ¬ 9 < a1 := ⟨by rw [jlt, jl0]; omega, by rw [jlt, jl9]; omega⟩
      by_cases d : (zS s 34 9).toInt < 6
      · have n1 : (zS s 34 9 + 1).toInt = (zS s 34 9).toInt + 1 := by rw [i32_add (by rw [jl1]; omega) (by rw [jl1]; omega), jl1]
        obtain ⟨n, en⟩ : ∃ n, n = (zS s 34 9).toInt.toNat := ⟨_, rfl⟩
        have f76 : zS (pS (pI s 41 n a1) 34 9 (zS s 34 9 + 1)) 59 76 = zS s 34 9 := e.symm
        refine ⟨zS s 34 9 + 1, pS (pI s 41 n a1) 34 9 (zS s 34 9 + 1), _, _, ?_, aimM (n := n) c b (fun z => by rw [f76] at z; rw [z, jl6] at d; omega) (by rw [f76]; omega) (by rw [f76]; exact en), ⟨?_, ?_⟩, (((FrB.rf.pI (by decide)).pS (by decide)).pI (by decide)).pS (by decide), ?_⟩
        · unfold f_X11_aim f_X6_aimTold
          rw [if_neg cx.1, if_pos cx.2, if_neg bx.1, if_neg bx.2, if_pos (by rw [jlt, jl6]; exact d)]
          dsimp only [st, vl]
          rw [gd_t ⟨by omega, by omega⟩, en]
          rfl
        · rw [f76]
          exact (((G.1.wI (q := 41) (by decide) trivial).wF (q := 34) (k := 9) (by decide) (by decide) ⟨by omega, by omega⟩).wI (q := 112) (by decide) trivial).wF (q := 59) (k := 76) (by decide) (by decide) ⟨by omega, by omega⟩
        · rw [f76]
          refine RG.cnt G.2 (fun q k h h1 h2 h3 h4 h5 h6 => ?_) G.2.1.2.1 G.2.1.2.2.2.2.1 rfl (fun q j h => ?_) (fun _ _ _ => rfl) (fun _ => rfl)
          · rw [zS_pS, if_neg h6, zS_pI, zS_pS, if_neg h5, zS_pI]
          · rw [zI_pS, zIf h (by decide), zI_pS, zIf h (by decide)]
        · rw [f76]
      · refine ⟨-3, s, -3, s, ?_, ?_, G, FrB.rf, rfl⟩
        · unfold f_X11_aim f_X6_aimTold
          rw [if_neg cx.1, if_pos cx.2, if_neg bx.1, if_neg bx.2, if_neg (by rw [jlt, jl6]; exact d)]
          rfl
        · unfold f_X12_aim
          rw [in_t (by rw [jl0, jl31]; omega), b1_some, if_neg (by decide), in_t (by rw [jl0, jl9]; omega), b1_some, if_neg (by decide), if_pos (by rw [← e]; exact Int32.toInt_inj.1 (by rw [jl6]; omega))]
    · refine ⟨-1, s, -1, s, ?_, ?_, G, FrB.rf, rfl⟩
      · unfold f_X11_aim
        rw [if_neg cx.1, if_pos cx.2]
        by_cases h : a1 < 0
        · rw [if_pos h]
        · rw [if_neg h, if_pos (by rw [jlt, jl9]; rw [jlt, jl0] at h; omega)]
      · unfold f_X12_aim
        rw [in_t (by rw [jl0, jl31]; omega), b1_some, if_neg (by decide), in_f (by rw [jl0, jl9]; omega), b1_some, if_pos rfl]
  · refine ⟨-1, s, -1, s, ?_, ?_, G, FrB.rf, rfl⟩
    · unfold f_X11_aim
      by_cases h : a0 < 0
      · rw [if_pos h]
      · rw [if_neg h, if_neg (by rw [jlt, jl32]; rw [jlt, jl0] at h; omega)]
    · unfold f_X12_aim
      rw [in_f (by rw [jl0, jl31]; omega), b1_some, if_pos rfl]
/-! ORDER, AIMED: the counters go back -/
theorem sa_order {s : SS} (G : GA s) : ∃ (rx : Int32) (s1 : SS) (rm : Int32) (s2 : SS), f_X11_order s = some (rx, s1) ∧ f_X12_order s1 = some (rm, s2) ∧ GA s2 ∧ FrB s s2 ∧ True := by
  have e := G.2.1.2.2.2.2.1
  by_cases c : zS s 34 3 = 0
  · refine ⟨-1, s, -1, s, ?_, ?_, G, FrB.rf, trivial⟩
    · unfold f_X11_order
      rw [if_pos c]
    · unfold f_X12_order
      rw [if_pos (by rw [← e]; exact c)]
  obtain ⟨⟨rx, s1⟩, ex, t, K1, e1⟩ := w_X6_leastLateness (Lk.rf G.1)
  have e1' : s1 = pS t 34 3 0 := e1
  have I1 : Iv s1 := by
    rw [e1']
    exact K1.1.wF (q := 34) (k := 3) (by decide) (by decide) ⟨by decide, by decide⟩
  have F1 := K1.2.2.a
  have f67 : zS s1 59 67 = zS s 34 3 := by
    rw [e1', zS_pS, if_neg (by decide), F1.1 59 67 rfl]
    exact e.symm
  obtain ⟨⟨rm, s2⟩, em, t2, K2, e2⟩ := w_X12_order (Lk.rf I1) (by rw [f67]; exact c)
  have e2' : s2 = pS t2 59 67 0 := e2
  have F2 := K2.2.2.a
  refine ⟨rx, s1, rm, s2, ?_, em, ⟨?_, ?_⟩, by rw [e2']; exact FrB.pS (FrB.tr (by rw [e1']; exact FrB.pS K1.2.2.b (by decide)) K2.2.2.b) (by decide), trivial⟩
  · unfold f_X11_order
    rw [if_neg c, ex]
    rfl
  · rw [e2']
    exact K2.1.wF (q := 59) (k := 67) (by decide) (by decide) ⟨by decide, by decide⟩
  · have h : ∀ q k, fSA q k = true → ¬ (q = 34 ∧ k = 3) → ¬ (q = 59 ∧ k = 67) → zS s2 q k = zS s q k := fun q k h h3 h4 => by rw [e2', zS_pS, if_neg h4, F2.1 q k h, e1', zS_pS, if_neg h3, F1.1 q k h]
    refine RG.cnt G.2 (fun q k h0 h1 h2 h3 h4 h5 h6 => h q k h0 h3 h4) ?_ ?_ ?_ (fun q j h0 => ?_) (fun q j h0 => ?_) (fun j => ?_)
    · rw [h 0 5 rfl (by decide) (by decide), h 59 30 rfl (by decide) (by decide)]
      exact G.2.1.2.1
    · rw [e2', zS_pS, if_neg (by decide), zS_pS, if_pos ⟨rfl, rfl⟩, F2.1 34 3 rfl, e1', zS_pS, if_pos ⟨rfl, rfl⟩]
    · rw [h 34 9 rfl (by decide) (by decide), h 59 76 rfl (by decide) (by decide)]
      exact G.2.1.2.2.2.2.2
    · rw [e2', zI_pS, F2.2.1 q j h0, e1', zI_pS, F1.2.1 q j h0]
    · rw [e2']
      show zJ t2 q j = _
      rw [F2.2.2 q j h0, e1']
      exact F1.2.2 q j h0
    · rw [e2']
      show zR t2 17 j = _
      rw [K2.zR_, e1']
      exact K1.zR_ 17 j
def AQ (s : SS) (a0 a1 a2 c : Int32) : Prop := (1 ≤ a0.toInt ∧ a0.toInt ≤ 4) ∧ (1 ≤ a1.toInt ∧ a1.toInt ≤ 60) ∧ (1 ≤ a2.toInt ∧ a2.toInt ≤ 2) ∧ ¬ c = 0 ∧ ¬ (a2 = 2 ∧ c < 2)
theorem aimedX {b0 s : SS} {a0 a1 a2 : Int32} (K : Lk b0 s) (h : AQ s a0 a1 a2 (zS s 34 9)) : Ok (f_X11_aimed s a0 a1 a2) (fun r => Zo b0 34 9 r.2) := by
  obtain ⟨h1, h2, h3, h4, h5⟩ := h
  unfold f_X11_aimed
  rw [if_neg (by rw [jlt, jl1]; omega), if_neg (by rw [jlt, jl4]; omega), yard_t h2, b1_some, if_neg (by decide), if_neg (by rw [jlt, jl1]; omega), if_neg (by rw [jlt, jl2]; omega), if_neg h4]
  have k8 : Ok (b1 (f_X6_weighPlaces s a0 a1) fun s10 => (jn (fun (s11 : SS) (t11_0 : Int32) => (st (pS s11 34 9 0) fun s12 => some (t11_0, s12))) fun k11 => (if a2 = (1 : Int32) then (bd (f_X6_soonestOne s10) fun r15 s15 => (k11 s15 r15)) else (bd (f_X6_soonestTwo s10) fun r14 s14 => (k11 s14 r14))))) (fun r => Zo b0 34 9 r.2) := by
    with_reducible refine Ok_b1 ((w_X6_weighPlaces K).mono (fun s10 K10 => ?_))
    with_reducible refine Ok_jn ?_
    with_reducible refine Ok_if (fun _ => ?_) (fun _ => ?_)
    · with_reducible refine Ok_bd ((w_X6_soonestOne K10).mono (fun r K => ?_))
      with_reducible refine Ok_st ?_
      exact Ok_some (Zo.mk K)
    · with_reducible refine Ok_bd ((w_X6_soonestTwo K10).mono (fun r K => ?_))
      with_reducible refine Ok_st ?_
      exact Ok_some (Zo.mk K)
  dsimp only [jn] at k8 ⊢
  by_cases c : a2 = 2
  · rw [if_pos c, if_neg (fun z => h5 ⟨c, z⟩)]
    exact k8
  · rw [if_neg c]
    exact k8
theorem aimedM {b0 s : SS} {a0 a1 a2 : Int32} (K : Lk b0 s) (h : AQ s a0 a1 a2 (zS s 59 76)) : Ok (f_X12_aimed s a0 a1 a2) (fun r => Zo b0 59 76 r.2) := by
  obtain ⟨h1, h2, h3, h4, h5⟩ := h
  unfold f_X12_aimed
  rw [in_t (by rw [jl1, jl4]; omega), b1_some, if_neg (by decide), in_t (by rw [jl1, jl60]; omega), b1_some, if_neg (by decide), in_t (by rw [jl1, jl2]; omega), b1_some, if_neg (by decide), if_neg h4]
  have k8 : Ok (f_X12_aimed_L61 (fun (s41 : SS) (x41_4 : Int32) => (st (pS s41 59 79 a2) fun s42 => (st (pS s42 59 76 0) fun s43 => some (x41_4, s43)))) a0 a1 a2 4000 s 2147483647 0) (fun r => Zo b0 59 76 r.2) := by
    refine w_X12_aimed_L61 (b0 := b0) h1 (fun s41 z0 K41 => ?_) 4000 s _ _ K (by decide) (by decide)
    with_reducible refine Ok_st ?_
    with_reducible refine Ok_st ?_
    exact Ok_some (Zo.mk (K41.wF (q := 59) (k := 79) (by decide) (by decide) (by decide) ⟨by omega, by omega⟩))
  dsimp only [jn]
  by_cases c : a2 = 2
  · rw [if_pos c, if_neg (fun z => h5 ⟨c, z⟩)]
    exact k8
  · rw [if_neg c]
    exact k8
theorem aimedNX {s : SS} {a0 a1 a2 : Int32} (h : ¬ AQ s a0 a1 a2 (zS s 34 9)) : ∃ v, f_X11_aimed s a0 a1 a2 = some (v, s) := by
  unfold f_X11_aimed
  by_cases c1 : a0 < 1
  · exact ⟨_, by rw [if_pos c1]⟩
  by_cases c2 : 4 < a0
  · exact ⟨_, by rw [if_neg c1, if_pos c2]⟩
  rw [if_neg c1, if_neg c2]
  rw [jlt, jl1] at c1
  rw [jlt, jl4] at c2
  by_cases c3 : 1 ≤ a1.toInt ∧ a1.toInt ≤ 60
  · rw [yard_t c3, b1_some, if_neg (by decide)]
    by_cases c4 : a2 < 1
    · exact ⟨_, by rw [if_pos c4]⟩
    by_cases c5 : 2 < a2
    · exact ⟨_, by rw [if_neg c4, if_pos c5]⟩
    rw [if_neg c4, if_neg c5]
    rw [jlt, jl1] at c4
    rw [jlt, jl2] at c5
    by_cases c6 : zS s 34 9 = 0
    · exact ⟨_, by rw [if_pos c6]⟩
    rw [if_neg c6]
    dsimp only [jn]
    by_cases c7 : a2 = 2 ∧ zS s 34 9 < 2
    · exact ⟨_, by rw [if_pos c7.1, if_pos c7.2]⟩
    · exact absurd ⟨⟨by omega, by omega⟩, c3, ⟨by omega, by omega⟩, c6, c7⟩ h
  · exact ⟨_, by rw [yard_f c3, b1_some, if_pos rfl]⟩
theorem aimedNM {s : SS} {a0 a1 a2 : Int32} (h : ¬ AQ s a0 a1 a2 (zS s 59 76)) : ∃ v, f_X12_aimed s a0 a1 a2 = some (v, s) := by
  unfold f_X12_aimed
  by_cases c1 : 1 ≤ a0.toInt ∧ a0.toInt ≤ 4
  · rw [in_t (by rw [jl1, jl4]; omega), b1_some, if_neg (by decide)]
    by_cases c3 : 1 ≤ a1.toInt ∧ a1.toInt ≤ 60
    · rw [in_t (by rw [jl1, jl60]; omega), b1_some, if_neg (by decide)]
      by_cases c4 : 1 ≤ a2.toInt ∧ a2.toInt ≤ 2
      · rw [in_t (by rw [jl1, jl2]; omega), b1_some, if_neg (by decide)]
        by_cases c6 : zS s 59 76 = 0
        · exact ⟨_, by rw [if_pos c6]⟩
        rw [if_neg c6]
        dsimp only [jn]
        by_cases c7 : a2 = 2 ∧ zS s 59 76 < 2
        · exact ⟨_, by rw [if_pos c7.1, if_pos c7.2]⟩
        · exact absurd ⟨c1, c3, c4, c6, c7⟩ h
      · exact ⟨_, by rw [in_f (by rw [jl1, jl2]; omega), b1_some, if_pos rfl]⟩
    · exact ⟨_, by rw [in_f (by rw [jl1, jl60]; omega), b1_some, if_pos rfl]⟩
  · exact ⟨_, by rw [in_f (by rw [jl1, jl4]; omega), b1_some, if_pos rfl]⟩
theorem sa_aimed {s : SS} (G : GA s) (a0 : Int32) (a1 : Int32) (a2 : Int32) : ∃ (rx : Int32) (s1 : SS) (rm : Int32) (s2 : SS), f_X11_aimed s a0 a1 a2 = some (rx, s1) ∧ f_X12_aimed s1 a0 a1 a2 = some (rm, s2) ∧ GA s2 ∧ FrB s s2 ∧ True := by
  have e := G.2.1.2.2.2.2.2
  by_cases c : AQ s a0 a1 a2 (zS s 34 9)
  · obtain ⟨⟨rx, s1⟩, ex, t, K1, e1⟩ := aimedX (Lk.rf G.1) c
    have e1' : s1 = pS t 34 9 0 := e1
    have I1 : Iv s1 := by
      rw [e1']
      exact K1.1.wF (q := 34) (k := 9) (by decide) (by decide) ⟨by decide, by decide⟩
    have F1 := K1.2.2.a
    have f76 : zS s1 59 76 = zS s 34 9 := by
      rw [e1', zS_pS, if_neg (by decide), F1.1 59 76 rfl]
      exact e.symm
    obtain ⟨⟨rm, s2⟩, em, t2, K2, e2⟩ := aimedM (Lk.rf I1) (a0 := a0) (a1 := a1) (a2 := a2) (by rw [f76]; exact c)
    have e2' : s2 = pS t2 59 76 0 := e2
    have F2 := K2.2.2.a
    refine ⟨rx, s1, rm, s2, ex, em, ⟨?_, ?_⟩, by rw [e2']; exact FrB.pS (FrB.tr (by rw [e1']; exact FrB.pS K1.2.2.b (by decide)) K2.2.2.b) (by decide), trivial⟩
    · rw [e2']
      exact K2.1.wF (q := 59) (k := 76) (by decide) (by decide) ⟨by decide, by decide⟩
    · have h : ∀ q k, fSA q k = true → ¬ (q = 34 ∧ k = 9) → ¬ (q = 59 ∧ k = 76) → zS s2 q k = zS s q k := fun q k h h3 h4 => by rw [e2', zS_pS, if_neg h4, F2.1 q k h, e1', zS_pS, if_neg h3, F1.1 q k h]
      refine RG.cnt G.2 (fun q k h0 h1 h2 h3 h4 h5 h6 => h q k h0 h5 h6) ?_ ?_ ?_ (fun q j h0 => ?_) (fun q j h0 => ?_) (fun j => ?_)
      · rw [h 0 5 rfl (by decide) (by decide), h 59 30 rfl (by decide) (by decide)]
        exact G.2.1.2.1
      · rw [h 34 3 rfl (by decide) (by decide), h 59 67 rfl (by decide) (by decide)]
        exact G.2.1.2.2.2.2.1
      · rw [e2', zS_pS, if_neg (by decide), zS_pS, if_pos ⟨rfl, rfl⟩, F2.1 34 9 rfl, e1', zS_pS, if_pos ⟨rfl, rfl⟩]
      · rw [e2', zI_pS, F2.2.1 q j h0, e1', zI_pS, F1.2.1 q j h0]
      · rw [e2']
        show zJ t2 q j = _
        rw [F2.2.2 q j h0, e1']
        exact F1.2.2 q j h0
      · rw [e2']
        show zR t2 17 j = _
        rw [K2.zR_, e1']
        exact K1.zR_ 17 j
  · obtain ⟨v, ex⟩ := aimedNX c
    obtain ⟨w, em⟩ := aimedNM (s := s) (a0 := a0) (a1 := a1) (a2 := a2) (by rw [← e]; exact c)
    exact ⟨v, s, w, s, ex, em, G, FrB.rf, trivial⟩
