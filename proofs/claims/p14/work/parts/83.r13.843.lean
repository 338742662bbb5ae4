/-! ROCK, MOVES, THE HOUR: class cells of s, reference's cells of t -/
def RTx (s t : SS) : Prop := zS s 0 14 = zS t 59 1 ∧ zS s 1 4 = zS t 59 56 ∧ (∀ i, zI s 4 i = zI t 97 i) ∧ (∀ i, zI s 5 i = zI t 98 i) ∧ 0 ≤ (zS s 0 14).toInt ∧ (zS s 0 14).toInt ≤ 1699
def RKx (s t : SS) : Prop := ∀ c y, c < 32 → 1 ≤ y → y ≤ 60 → zI s 2 (60 * c + y - 1) = 3 + zI t 60 (61 * c + y) ∧ zI s 3 (60 * c + y - 1) = zI t 61 (61 * c + y) ∧ (zI t 61 (61 * c + y) = 0 ∨ zI t 61 (61 * c + y) = 1)
/-- the traces alike -/
def TR (s t : SS) : Prop := zS s 15 11 = zS t 59 87 ∧ ∀ i, zI s 18 i = zI t 119 i
def xn (s : SS) : Int := (zS s 24 1).toInt
/-- tapes alike: bytes of the class from 0 to 255, of the reference signed -/
def TP (s t : SS) : Prop := zS s 24 1 = zS t 59 37 ∧ (0 ≤ xn s ∧ xn s ≤ 160) ∧ ∀ i, i < 160 → 0 ≤ (zI s 25 i).toInt ∧ (zI s 25 i).toInt ≤ 255 ∧ (zI t 86 i).toInt = if (zI s 25 i).toInt < 128 then (zI s 25 i).toInt else (zI s 25 i).toInt - 256
def TT (s : SS) : Prop := TP s s ∧ zS s 0 8 = zS s 59 38
theorem TT.c {s r : SS} (T : TT s) (F : FrB s r) : TT r := by
  obtain ⟨⟨a1, a2, a3⟩, b⟩ := T
  refine ⟨⟨by rw [F.1 24 1 rfl, F.1 59 37 rfl]; exact a1, by unfold xn; rw [F.1 24 1 rfl]; exact a2, fun i hi => by rw [F.2 25 i rfl, F.2 86 i rfl]; exact a3 i hi⟩, by rw [F.1 0 8 rfl, F.1 59 38 rfl]; exact b⟩
def TK (s : SS) : Prop := RTx s s ∧ RKx s s ∧ TR s s ∧ TT s
theorem TK.c {s r : SS} (T : TK s) (F : FrB s r) : TK r := by
  obtain ⟨⟨t1, t2, t3, t4, t6⟩, t5, ⟨t7, t8⟩, t9⟩ := T
  refine ⟨⟨?_, ?_, fun i => ?_, fun i => ?_, by rw [F.1 0 14 rfl]; exact t6⟩, fun c y h1 h2 h3 => ?_, ⟨by rw [F.1 15 11 rfl, F.1 59 87 rfl]; exact t7, fun i => by rw [F.2 18 i rfl, F.2 119 i rfl]; exact t8 i⟩, t9.c F⟩
  · rw [F.1 0 14 rfl, F.1 59 1 rfl]; exact t1
  · rw [F.1 1 4 rfl, F.1 59 56 rfl]; exact t2
  · rw [F.2 4 i rfl, F.2 97 i rfl]; exact t3 i
  · rw [F.2 5 i rfl, F.2 98 i rfl]; exact t4 i
  · rw [F.2 2 _ rfl, F.2 60 _ rfl, F.2 3 _ rfl, F.2 61 _ rfl]; exact t5 c y h1 h2 h3
def GI (s : SS) : Prop := GA s ∧ TK s
theorem GI.go {s s1 r : SS} (G : GI s) (F1 : Fr s s1) (h1 : ∀ i, zR s1 17 i = zR s 17 i) (F2 : Fr s1 r) (h2 : ∀ i, zR r 17 i = zR s1 17 i) (I : Iv r) : GI r := ⟨G.1.go (F1.tr F2).a (fun i => (h2 i).trans (h1 i)) I, G.2.c (F1.tr F2).b⟩
def Vc (a : Int32) : Prop := 0 ≤ a.toInt ∧ a.toInt / 100 < 32 ∧ 1 ≤ a.toInt % 100 ∧ a.toInt % 100 ≤ 60
def cC (a : Int32) : Nat := (a.toInt / 100).toNat
def cY (a : Int32) : Nat := (a.toInt % 100).toNat
theorem Vc.b {a : Int32} (h : Vc a) : cC a < 32 ∧ 1 ≤ cY a ∧ cY a ≤ 60 := by
  unfold Vc at h
  unfold cC cY
  omega
theorem d100 {a : Int32} (h : 0 ≤ a.toInt) : (a / 100).toInt = a.toInt / 100 := by rw [jd100, if_pos h]
theorem m100 {a : Int32} (h : 0 ≤ a.toInt) : (a % 100).toInt = a.toInt % 100 := by rw [jm100, if_pos h]
theorem plX_t {a : Int32} (h : Vc a) : f_X11_placeOf a = some (nI (60 * cC a + cY a - 1)) := by
  obtain ⟨h1, h2, h3, h4⟩ := h
  have e1 := d100 h1
  have e2 := m100 h1
  unfold f_X11_placeOf
  rw [if_neg (by rw [jlt, jl0]; omega), if_pos (by rw [jlt, jl32]; omega), yard_t (by omega), b1_some, if_neg (by decide)]
  have j60 : (60 : Int32).toInt = 60 := rfl
  have m1 : (a / 100 * 60).toInt = a.toInt / 100 * 60 := by rw [i32_mul (by rw [j60]; omega) (by rw [j60]; omega), j60, e1]
  have m2 : (a / 100 * 60 + a % 100).toInt = a.toInt / 100 * 60 + a.toInt % 100 := by rw [i32_add (by omega) (by omega), m1, e2]
  congr 1
  apply Int32.toInt_inj.1
  unfold cC cY
  rw [i32_sub (by rw [m2, jl1]; omega) (by rw [m2, jl1]; omega), m2, jl1, nI_t (by omega)]
  omega
theorem plX_f {a : Int32} (h : ¬ Vc a) : f_X11_placeOf a = some (-1) := by
  unfold f_X11_placeOf
  by_cases c : a < 0
  · rw [if_pos c]
  have h1 : 0 ≤ a.toInt := by rw [jlt, jl0] at c; omega
  have e1 := d100 h1
  have e2 := m100 h1
  rw [if_neg c]
  by_cases d : a / 100 < 32
  · rw [if_pos d, yard_f, b1_some, if_pos rfl]
    rw [jlt, jl32] at d
    intro z
    exact h ⟨h1, by omega, by omega, by omega⟩
  · rw [if_neg d]
theorem cel_t {a : Int32} (h : Vc a) : f_X12_isCell a = some 1 := by
  obtain ⟨h1, h2, h3, h4⟩ := h
  have e1 := d100 h1
  have e2 := m100 h1
  unfold f_X12_isCell
  rw [if_neg (by rw [jlt, jl0]; omega), if_pos (by rw [jlt, jl32]; omega), in_t (by rw [jl1, jl60]; omega), b1_some, if_neg (by decide)]
theorem cel_f {a : Int32} (h : ¬ Vc a) : f_X12_isCell a = some 0 := by
  unfold f_X12_isCell
  by_cases c : a < 0
  · rw [if_pos c]
  have h1 : 0 ≤ a.toInt := by rw [jlt, jl0] at c; omega
  have e1 := d100 h1
  have e2 := m100 h1
  rw [if_neg c]
  by_cases d : a / 100 < 32
  · rw [if_pos d, in_f, b1_some, if_pos rfl]
    rw [jlt, jl32] at d
    rw [jl1, jl60]
    intro z
    exact h ⟨h1, by omega, by omega, by omega⟩
  · rw [if_neg d]
theorem plM {a : Int32} (h1 : 0 ≤ a.toInt) (h2 : a.toInt < 3200) : f_X12_placeOf a = some (nI (61 * cC a + cY a)) := by
  have e1 := d100 h1
  have e2 := m100 h1
  unfold f_X12_placeOf
  have j61 : (61 : Int32).toInt = 61 := rfl
  have m1 : (61 * (a / 100)).toInt = 61 * (a.toInt / 100) := by rw [i32_mul (by rw [j61]; omega) (by rw [j61]; omega), j61, e1]
  congr 1
  apply Int32.toInt_inj.1
  unfold cC cY
  rw [i32_add (by omega) (by omega), m1, e2, nI_t (by omega)]
  omega
theorem Vc.lt {a : Int32} (h : Vc a) : a.toInt < 3200 := by
  unfold Vc at h
  omega
theorem nnI {k : Nat} (h : k < 4000) : (nI k).toInt = (k : Int) ∧ (nI k).toInt.toNat = k := by
  have := nI_t (k := k) (by omega)
  omega
/-- a cell of the rock is written in both -/
theorem TK.w2 {s : SS} {a v w : Int32} (T : TK s) (h : Vc a) (e : v = 3 + w) : TK (pI (pI s 2 (60 * cC a + cY a - 1) v) 60 (61 * cC a + cY a) w) := by
  obtain ⟨b1, b2, b3⟩ := h.b
  obtain ⟨T1, T2, T3⟩ := T
  refine ⟨T1, fun c y h1 h2 h3 => ?_, T3⟩
  obtain ⟨r1, r2, r3⟩ := T2 c y h1 h2 h3
  refine ⟨?_, r2, r3⟩
  rw [zI_pI, if_neg (by omega), zI_pI, zI_pI]
  by_cases z : 60 * c + y - 1 = 60 * cC a + cY a - 1
  · rw [if_pos ⟨rfl, z⟩, if_pos ⟨rfl, by omega⟩]; exact e
  · rw [if_neg (by omega), if_neg (by omega), zI_pI, if_neg (by omega)]; exact r1
theorem TK.w3 {s : SS} {a v w : Int32} (T : TK s) (h : Vc a) (e : v = w) (hw : w = 0 ∨ w = 1) : TK (pI (pI s 3 (60 * cC a + cY a - 1) v) 61 (61 * cC a + cY a) w) := by
  obtain ⟨b1, b2, b3⟩ := h.b
  obtain ⟨T1, T2, T3⟩ := T
  refine ⟨T1, fun c y h1 h2 h3 => ?_, T3⟩
  obtain ⟨r1, r2, r3⟩ := T2 c y h1 h2 h3
  have e1 : zI (pI (pI s 3 (60 * cC a + cY a - 1) v) 61 (61 * cC a + cY a) w) 3 (60 * c + y - 1) = if 60 * c + y - 1 = 60 * cC a + cY a - 1 then v else zI s 3 (60 * c + y - 1) := by
    rw [zI_pI, if_neg (by omega), zI_pI]
    by_cases z : 60 * c + y - 1 = 60 * cC a + cY a - 1
    · rw [if_pos ⟨rfl, z⟩, if_pos z]
    · rw [if_neg (by omega), if_neg z]
  have e2 : zI (pI (pI s 3 (60 * cC a + cY a - 1) v) 61 (61 * cC a + cY a) w) 61 (61 * c + y) = if 60 * c + y - 1 = 60 * cC a + cY a - 1 then w else zI s 61 (61 * c + y) := by
    rw [zI_pI]
    by_cases z : 60 * c + y - 1 = 60 * cC a + cY a - 1
    · rw [if_pos ⟨rfl, by omega⟩, if_pos z]
    · rw [if_neg (by omega), if_neg z, zI_pI, if_neg (by omega)]
  refine ⟨r1, ?_, ?_⟩
  · rw [e1, e2]
    by_cases z : 60 * c + y - 1 = 60 * cC a + cY a - 1
    · rw [if_pos z, if_pos z]; exact e
    · rw [if_neg z, if_neg z]; exact r2
  · rw [e2]
    by_cases z : 60 * c + y - 1 = 60 * cC a + cY a - 1
    · rw [if_pos z]; exact hw
    · rw [if_neg z]; exact r3
theorem FrA.pI2 {s : SS} {q1 q2 i1 i2 : Nat} {v w : Int32} (h1 : fIA q1 = false) (h2 : fIA q2 = false) : FrA s (pI (pI s q1 i1 v) q2 i2 w) := ⟨fun _ _ _ => rfl, fun q j h => by rw [zIf h h2, zIf h h1], fun _ _ _ => rfl⟩
theorem st_hard {s : SS} (G : GI s) (a0 : Int32) (a1 : Int32) : ∃ (rx : Int32) (s1 : SS) (rm : Int32) (s2 : SS), f_X11_hard s a0 a1 = some (rx, s1) ∧ f_X12_hard s1 a0 a1 = some (rm, s2) ∧ GI s2 ∧ rx = rm := by
  by_cases c : Vc a0
  · obtain ⟨b1, b2, b3⟩ := c.b
    have nx := nnI (k := 60 * cC a0 + cY a0 - 1) (by omega)
    have nm := nnI (k := 61 * cC a0 + cY a0) (by omega)
    by_cases d : 1 ≤ a1.toInt ∧ a1.toInt ≤ 9
    · have e3 : a1 = 3 + (a1 - 3) := by
        apply Int32.toInt_inj.1
        have j3 : (3 : Int32).toInt = 3 := rfl
        have m1 : (a1 - 3).toInt = a1.toInt - 3 := by rw [i32_sub (by rw [j3]; omega) (by rw [j3]; omega), j3]
        rw [i32_add (by rw [m1, j3]; omega) (by rw [m1, j3]; omega), m1, j3]
        omega
      refine ⟨zI s 2 (60 * cC a0 + cY a0 - 1), pI s 2 (60 * cC a0 + cY a0 - 1) a1, 3 + zI s 60 (61 * cC a0 + cY a0), pI (pI s 2 (60 * cC a0 + cY a0 - 1) a1) 60 (61 * cC a0 + cY a0) (a1 - 3), ?_, ?_, ⟨G.1.go (FrA.pI2 (by decide) (by decide)) (fun _ => rfl) ((G.1.1.wI (q := 2) (by decide) trivial).wI (q := 60) (by decide) trivial), G.2.w2 c e3⟩, (G.2.2.1 _ _ b1 b2 b3).1⟩
      · unfold f_X11_hard
        rw [plX_t c, b1_some, if_neg (by rw [jlt, jl0]; omega), if_neg (by rw [jlt, jl1]; omega), if_neg (by rw [jlt, jl9]; omega), gd_t ⟨by omega, by omega⟩, vl, gd_t ⟨by omega, by omega⟩, st, nx.2]
      · unfold f_X12_hard
        rw [cel_t c, b1_some, if_neg (by decide), in_t (by rw [jl1, jl9]; omega), b1_some, if_neg (by decide), plM c.1 c.lt, b1_some, gd_t ⟨by omega, by omega⟩, vl, b1_some, vl, gd_t ⟨by omega, by omega⟩, st, nm.2]
        rfl
    · refine ⟨-1, s, -1, s, ?_, ?_, G, rfl⟩
      · unfold f_X11_hard
        rw [plX_t c, b1_some, if_neg (by rw [jlt, jl0]; omega)]
        by_cases h : a1 < 1
        · rw [if_pos h]
        · rw [if_neg h, if_pos (by rw [jlt, jl9]; rw [jlt, jl1] at h; omega)]
      · unfold f_X12_hard
        rw [cel_t c, b1_some, if_neg (by decide), in_f (by rw [jl1, jl9]; omega), b1_some, if_pos rfl]
  · refine ⟨-1, s, -1, s, ?_, ?_, G, rfl⟩
    · unfold f_X11_hard
      rw [plX_f c, b1_some, if_pos (by decide)]
    · unfold f_X12_hard
      rw [cel_f c, b1_some, if_pos rfl]
theorem st_open {s : SS} (G : GI s) (a0 : Int32) (a1 : Int32) : ∃ (rx : Int32) (s1 : SS) (rm : Int32) (s2 : SS), f_X11_open s a0 a1 = some (rx, s1) ∧ f_X12_open s1 a0 a1 = some (rm, s2) ∧ GI s2 ∧ rx = rm := by
  by_cases c : Vc a0
  · obtain ⟨u1, u2, u3⟩ := c.b
    have nx := nnI (k := 60 * cC a0 + cY a0 - 1) (by omega)
    have nm := nnI (k := 61 * cC a0 + cY a0) (by omega)
    by_cases d : 0 ≤ a1.toInt ∧ a1.toInt ≤ 1
    · have d1 : a1 = 0 ∨ a1 = 1 := by
        have h : a1.toInt = 0 ∨ a1.toInt = 1 := by omega
        exact h.imp (fun z => Int32.toInt_inj.1 z) (fun z => Int32.toInt_inj.1 z)
      obtain ⟨_, r2, r3⟩ := G.2.2.1 _ _ u1 u2 u3
      have fin : ∀ w, w = a1 → GI (pI (pI s 3 (60 * cC a0 + cY a0 - 1) a1) 61 (61 * cC a0 + cY a0) w) := fun w hw => ⟨G.1.go (FrA.pI2 (by decide) (by decide)) (fun _ => rfl) ((G.1.1.wI (q := 3) (by decide) trivial).wI (q := 61) (by decide) trivial), G.2.w3 c hw.symm (by rw [hw]; exact d1)⟩
      have hx : f_X11_open s a0 a1 = some (zI s 3 (60 * cC a0 + cY a0 - 1), pI s 3 (60 * cC a0 + cY a0 - 1) a1) := by
        unfold f_X11_open
        rw [plX_t c, b1_some, if_neg (by rw [jlt, jl0]; omega), if_neg (by rw [jlt, jl0]; omega), if_neg (by rw [jlt, jl1]; omega), gd_t ⟨by omega, by omega⟩, vl, gd_t ⟨by omega, by omega⟩, st, nx.2]
      have hm : ∀ t, (zI t 61 (61 * cC a0 + cY a0) = 0 ∨ zI t 61 (61 * cC a0 + cY a0) = 1) → ∃ w, w = a1 ∧ f_X12_open t a0 a1 = some (zI t 61 (61 * cC a0 + cY a0), pI t 61 (61 * cC a0 + cY a0) w) := by
        intro t ht
        refine ⟨(if a1 = 1 then (1 : Int32) else 0) &&& 1, ?_, ?_⟩
        · rcases d1 with rfl | rfl <;> decide
        · unfold f_X12_open
          have g : inB (nI (61 * cC a0 + cY a0)) 1952 := ⟨by omega, by omega⟩
          have key : ∀ t7 : Int32, (b1 (some (nI (61 * cC a0 + cY a0))) fun r8 => (jn (fun (t10_0 : Int32) => (gd (inB r8 1952) (st (pI t 61 (r8.toInt.toNat) (t10_0 &&& 1)) fun s12 => some (t7, s12)))) fun k10 => (if a1 = (1 : Int32) then (k10 1) else (k10 0)))) = some (t7, pI t 61 (61 * cC a0 + cY a0) ((if a1 = 1 then (1 : Int32) else 0) &&& 1)) := by
            intro t7
            rw [b1_some, jn]
            by_cases z : a1 = 1
            · rw [if_pos z, if_pos z]
              show gd _ _ = _
              rw [gd_t g, st, nm.2]
            · rw [if_neg z, if_neg z]
              show gd _ _ = _
              rw [gd_t g, st, nm.2]
          rw [cel_t c, b1_some, if_neg (by decide), in_t (by rw [jl0, jl1]; omega), b1_some, if_neg (by decide), plM c.1 c.lt, b1_some, gd_t g, jn, nm.2]
          rcases ht with h | h
          · rw [if_pos h, h]
            exact key 0
          · rw [if_neg (by rw [h]; decide), h]
            exact key 1
      obtain ⟨w, hw, e⟩ := hm (pI s 3 (60 * cC a0 + cY a0 - 1) a1) r3
      exact ⟨_, _, _, _, hx, e, fin w hw, r2⟩
    · refine ⟨-1, s, -1, s, ?_, ?_, G, rfl⟩
      · unfold f_X11_open
        rw [plX_t c, b1_some, if_neg (by rw [jlt, jl0]; omega)]
        by_cases h : a1 < 0
        · rw [if_pos h]
        · rw [if_neg h, if_pos (by rw [jlt, jl1]; rw [jlt, jl0] at h; omega)]
      · unfold f_X12_open
        rw [cel_t c, b1_some, if_neg (by decide), in_f (by rw [jl0, jl1]; omega), b1_some, if_pos rfl]
  · refine ⟨-1, s, -1, s, ?_, ?_, G, rfl⟩
    · unfold f_X11_open
      rw [plX_f c, b1_some, if_pos (by decide)]
    · unfold f_X12_open
      rw [cel_f c, b1_some, if_pos rfl]
theorem st_ofCell {s : SS} (G : GI s) (a0 : Int32) (a1 : Int32) : ∃ (rx : Int32) (s1 : SS) (rm : Int32) (s2 : SS), f_X11_ofCell s a0 a1 = some rx ∧ f_X12_ofCell s a0 a1 = some rm ∧ GI s ∧ rx = rm := by
  by_cases c : Vc a0
  · obtain ⟨b1, b2, b3⟩ := c.b
    have nx := nnI (k := 60 * cC a0 + cY a0 - 1) (by omega)
    have nm := nnI (k := 61 * cC a0 + cY a0) (by omega)
    obtain ⟨r1, r2, r3⟩ := G.2.2.1 _ _ b1 b2 b3
    by_cases d : 0 ≤ a1.toInt ∧ a1.toInt ≤ 1
    · by_cases z : a1 = 0
      · refine ⟨zI s 2 (60 * cC a0 + cY a0 - 1), s, 3 + zI s 60 (61 * cC a0 + cY a0), s, ?_, ?_, G, r1⟩
        · unfold f_X11_ofCell
          rw [plX_t c, b1_some, if_neg (by rw [jlt, jl0]; omega), if_neg (by rw [jlt, jl0]; omega), if_neg (by rw [jlt, jl1]; omega), if_pos z, gd_t ⟨by omega, by omega⟩, nx.2]
        · unfold f_X12_ofCell
          rw [cel_t c, b1_some, if_neg (by decide), in_t (by rw [jl0, jl1]; omega), b1_some, if_neg (by decide), if_pos z, plM c.1 c.lt, b1_some, gd_t ⟨by omega, by omega⟩, nm.2]
      · refine ⟨zI s 3 (60 * cC a0 + cY a0 - 1), s, zI s 61 (61 * cC a0 + cY a0), s, ?_, ?_, G, r2⟩
        · unfold f_X11_ofCell
          rw [plX_t c, b1_some, if_neg (by rw [jlt, jl0]; omega), if_neg (by rw [jlt, jl0]; omega), if_neg (by rw [jlt, jl1]; omega), if_neg z, gd_t ⟨by omega, by omega⟩, nx.2]
        · unfold f_X12_ofCell
          rw [cel_t c, b1_some, if_neg (by decide), in_t (by rw [jl0, jl1]; omega), b1_some, if_neg (by decide), if_neg z, plM c.1 c.lt, b1_some, gd_t ⟨by omega, by omega⟩, nm.2]
          rcases r3 with h | h
          · rw [if_pos h, h]
          · rw [if_neg (by rw [h]; decide), h]
    · refine ⟨-1, s, -1, s, ?_, ?_, G, rfl⟩
      · unfold f_X11_ofCell
        rw [plX_t c, b1_some, if_neg (by rw [jlt, jl0]; omega)]
        by_cases h : a1 < 0
        · rw [if_pos h]
        · rw [if_neg h, if_pos (by rw [jlt, jl1]; rw [jlt, jl0] at h; omega)]
      · unfold f_X12_ofCell
        rw [cel_t c, b1_some, if_neg (by decide), in_f (by rw [jl0, jl1]; omega), b1_some, if_pos rfl]
  · refine ⟨-1, s, -1, s, ?_, ?_, G, rfl⟩
    · unfold f_X11_ofCell
      rw [plX_f c, b1_some, if_pos (by decide)]
    · unfold f_X12_ofCell
      rw [cel_f c, b1_some, if_pos rfl]
theorem st_breaks {s : SS} (G : GI s) (a0 : Int32) (a1 : Int32) : ∃ (rx : Int32) (s1 : SS) (rm : Int32) (s2 : SS), f_X11_breaks s a0 a1 = some (rx, s1) ∧ f_X12_breaks s1 a0 a1 = some (rm, s2) ∧ GI s2 ∧ rx = rm := by
  have e := G.2.1.1
  by_cases c : 0 ≤ a0.toInt ∧ a0.toInt < 3
  · by_cases d : (zS s 0 14).toInt ≤ a1.toInt ∧ a1.toInt ≤ 1699
    · have f1 : ∀ q k, fS q k = true → zS (pS s (20 + a0.toInt.toNat) 2 a1) q k = zS s q k := fun q k h => by
        rw [zS_pS, if_neg]
        rintro ⟨z1, z2⟩
        rw [z1, z2] at h
        have h' : fS (20 + a0.toInt.toNat) 2 = false := fS_M ⟨by omega, by omega⟩ rfl
        rw [h'] at h
        cases h
      have F : Fr s (pI (pS s (20 + a0.toInt.toNat) 2 a1) 80 a0.toInt.toNat a1) := Fr.pI ⟨f1, fun _ _ _ => rfl, fun _ _ _ => rfl⟩ (by decide)
      have e1 : zS (pS s (20 + a0.toInt.toNat) 2 a1) 59 1 = zS s 0 14 := by rw [f1 59 1 rfl]; exact e.symm
      refine ⟨1, pS s (20 + a0.toInt.toNat) 2 a1, 1, pI (pS s (20 + a0.toInt.toNat) 2 a1) 80 a0.toInt.toNat a1, ?_, ?_, ⟨G.1.go F.a (fun _ => rfl) ((G.1.1.wM ⟨by omega, by omega⟩).wI (q := 80) (by decide) trivial), G.2.c F.b⟩, rfl⟩
      · unfold f_X11_breaks
        rw [mach_t G.1.1 c, b1_some, on_some, if_neg (by rw [jlt]; omega), if_neg (by rw [jlt, jl1699]; omega)]
        rfl
      · unfold f_X12_breaks
        rw [ismach_t c, b1_some, if_neg (by decide), in_t (by rw [e1, jl1699]; omega), b1_some, if_neg (by decide), gd_t ⟨c.1, c.2⟩]
        rfl
    · refine ⟨-1, s, -1, s, ?_, ?_, G, rfl⟩
      · unfold f_X11_breaks
        rw [mach_t G.1.1 c, b1_some, on_some]
        by_cases h : a1 < zS s 0 14
        · rw [if_pos h]
        · rw [if_neg h, if_pos (by rw [jlt, jl1699]; rw [jlt] at h; omega)]
      · unfold f_X12_breaks
        rw [ismach_t c, b1_some, if_neg (by decide), in_f (by rw [← e, jl1699]; omega), b1_some, if_pos rfl]
  · refine ⟨-1, s, -1, s, ?_, ?_, G, rfl⟩
    · unfold f_X11_breaks
      rw [mach_f c, b1_some, on_none]
    · unfold f_X12_breaks
      rw [ismach_f c, b1_some, if_pos rfl]
