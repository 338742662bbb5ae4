/-! operands: numbers, names, brackets -/
def dg (c : Int32) : Prop := 48 ≤ c.toInt ∧ c.toInt ≤ 57
def nmJ (c : Nat) : Int32 := ixN (((Int32.ofNat c).toUInt32 % 65536).toInt32)
set_option maxRecDepth 20000 in
theorem nm_all : ∀ c, c < 256 → f_X12_nameOf ((Int32.ofNat c).toInt8.toInt32) = some (nmJ c) ∧ ((Int32.ofNat c).toInt8.toInt32).toInt = (if c < 128 then (c : Int) else (c : Int) - 256) ∧ (Int32.ofNat c).toInt = (c : Int) ∧ ((nmJ c = -1) ∨ (0 ≤ (nmJ c).toInt ∧ (nmJ c).toInt ≤ 7 ∧ 57 < c ∧ tkA (-1 - nmJ c) = 2 ∧ tkW (-1 - nmJ c) = nmJ c)) := by decide +kernel
theorem isd_g {s t : SS} {d : Int32} (G : Rd s t d) : f_X7_isDigit s = some (if 48 ≤ (cuX s).toInt ∧ (cuX s).toInt ≤ 57 then 1 else 0) := by
  obtain ⟨⟨e1, hn, tp⟩, e2, _, e4, ha, _⟩ := G
  unfold xa xn at ha
  unfold xn at hn
  have j48 : (48 : Int32).toInt = 48 := rfl
  have j57 : (57 : Int32).toInt = 57 := rfl
  unfold f_X7_isDigit cuX
  by_cases h : zS s 24 4 < zS s 24 1
  · rw [if_pos h, if_pos h, vl]
    rw [jlt] at h
    rw [gd_t ⟨by omega, by omega⟩]
    by_cases z : zI s 25 (zS s 24 4).toInt.toNat < 48
    · rw [if_pos z, if_neg]
      rw [jlt, j48] at z
      omega
    · rw [if_neg z, vl, gd_t ⟨by omega, by omega⟩]
      rw [jlt, j48] at z
      by_cases w : (57 : Int32) < zI s 25 (zS s 24 4).toInt.toNat
      · rw [if_pos w, if_neg]
        rw [jlt, j57] at w
        omega
      · rw [if_neg w, if_pos]
        rw [jlt, j57] at w
        omega
  · rw [if_neg h, if_neg h, if_neg (by decide)]
/-- the reference's byte, for a digit and for none -/
theorem Rd.dg {s t : SS} {d : Int32} (G : Rd s t d) : (dg (cuX s) ↔ dg (cuM t)) ∧ (dg (cuX s) → cuM t = cuX s) := by
  obtain ⟨⟨e1, hn, tp⟩, _, _, e4, ha, _⟩ := G
  unfold xa xn at ha
  unfold xn at hn
  show ((48 ≤ (cuX s).toInt ∧ (cuX s).toInt ≤ 57) ↔ (48 ≤ (cuM t).toInt ∧ (cuM t).toInt ≤ 57)) ∧ ((48 ≤ (cuX s).toInt ∧ (cuX s).toInt ≤ 57) → cuM t = cuX s)
  unfold cuX cuM
  rw [← e4, ← e1]
  by_cases h : zS s 24 4 < zS s 24 1
  · rw [if_pos h, if_pos h]
    rw [jlt] at h
    obtain ⟨b1, b2, b3⟩ := tp (zS s 24 4).toInt.toNat (by omega)
    by_cases w : (zI s 25 (zS s 24 4).toInt.toNat).toInt < 128
    · rw [if_pos w] at b3
      exact ⟨by rw [b3], fun _ => Int32.toInt_inj.1 b3⟩
    · rw [if_neg w] at b3
      refine ⟨⟨fun z => by omega, fun z => by omega⟩, fun z => by omega⟩
  · rw [if_neg h, if_neg h]
    exact ⟨Iff.rfl, fun _ => rfl⟩
theorem Rd.nm {s t : SS} {d : Int32} (G : Rd s t d) : ∃ j : Int32, f_X12_nameOf (cuM t) = some j ∧ (zS s 24 4 < zS s 24 1 → ixN (((zI s 25 (zS s 24 4).toInt.toNat).toUInt32 % 65536).toInt32) = j) ∧ (j = -1 ∨ (0 ≤ j.toInt ∧ j.toInt ≤ 7 ∧ 57 < (cuX s).toInt ∧ zS s 24 4 < zS s 24 1 ∧ tkA (-1 - j) = 2 ∧ tkW (-1 - j) = j)) ∧ (¬ zS s 24 4 < zS s 24 1 → j = -1) := by
  obtain ⟨⟨e1, hn, tp⟩, _, _, e4, ha, _⟩ := G
  unfold xa xn at ha
  unfold xn at hn
  unfold cuM cuX
  rw [← e4, ← e1]
  by_cases h : zS s 24 4 < zS s 24 1
  · rw [if_pos h, if_pos h]
    have h' := h
    rw [jlt] at h'
    obtain ⟨b1, b2, b3⟩ := tp (zS s 24 4).toInt.toNat (by omega)
    obtain ⟨c, ec⟩ : ∃ c : Nat, (zI s 25 (zS s 24 4).toInt.toNat).toInt = c := ⟨_, (Int.toNat_of_nonneg b1).symm⟩
    rw [ec] at b2 b3
    obtain ⟨n1, n2, n3, n4⟩ := nm_all c (by omega)
    have ex : zI s 25 (zS s 24 4).toInt.toNat = Int32.ofNat c := Int32.toInt_inj.1 (by rw [ec, n3])
    have eM : zI t 86 (zS s 24 4).toInt.toNat = (Int32.ofNat c).toInt8.toInt32 := by
      refine Int32.toInt_inj.1 ?_
      rw [b3, n2]
      by_cases w : c < 128
      · rw [if_pos w, if_pos (by omega)]
      · rw [if_neg w, if_neg (by omega)]
    rw [eM, ex]
    refine ⟨nmJ c, n1, fun _ => rfl, ?_, fun z => absurd h z⟩
    rcases n4 with z | ⟨z1, z2, z3, z4⟩
    · exact Or.inl z
    · exact Or.inr ⟨z1, z2, by rw [n3]; omega, h, z4⟩
  · rw [if_neg h, if_neg h]
    exact ⟨-1, by decide, fun z => absurd z h, Or.inl rfl, fun _ => rfl⟩
def nv (k v : Int) : Prop := (k = 0 ∧ v = 0) ∨ (k = 1 ∧ 0 ≤ v ∧ v ≤ 9) ∨ (k = 2 ∧ 0 ≤ v ∧ v ≤ 99) ∨ (k = 3 ∧ 0 ≤ v ∧ v ≤ 999) ∨ (k = 4 ∧ 0 ≤ v ∧ v ≤ 9999) ∨ (k = 5 ∧ 0 ≤ v ∧ v ≤ 99999)
/-- digits: the class's loop and the reference's -/
theorem num_l {d : Int32} {q0 : SS → Int32 → Option SS} {rm : SS → Option SS} {q1 : SS → Int32 → Int32 → Option SS} : ∀ (n : Nat) (s t : SS) (v k : Int32), Rd s t d → nv k.toInt v.toInt → 5 - k.toInt < n → ∃ s' t' v' k', f_X7_number_L4 q0 n s v k = q0 s' v' ∧ f_X12_operand_L148 rm q1 n t k v = q1 t' k' v' ∧ Rd s' t' d ∧ nv k'.toInt v'.toInt ∧ (k'.toInt = 5 ∨ ¬ dg (cuX s')) ∧ PkX s s' ∧ PkM t t' ∧ xa s' = xa s + (k'.toInt - k.toInt) ∧ Em s s' [] ∧ Ly t t' [] ∧ k.toInt ≤ k'.toInt ∧ (dg (cuX s) → k.toInt < 5 → k.toInt < k'.toInt)
  | 0, s, t, v, k, _, h, hn => by
    unfold nv at h
    omega
  | n + 1, s, t, v, k, G, h, hn => by
    have j5 : (5 : Int32).toInt = 5 := rfl
    have j10 : (10 : Int32).toInt = 10 := rfl
    have j48 : (48 : Int32).toInt = 48 := rfl
    have j57 : (57 : Int32).toInt = 57 := rfl
    have hv : nv k.toInt v.toInt := h
    unfold nv at h
    rw [f_X7_number_L4, f_X7_number_L4_b, f_X12_operand_L148, f_X12_operand_L148_b]
    have stop : (k.toInt = 5 ∨ ¬ dg (cuX s)) → ∃ s' t' v' k', q0 s v = q0 s' v' ∧ q1 t k v = q1 t' k' v' ∧ Rd s' t' d ∧ nv k'.toInt v'.toInt ∧ (k'.toInt = 5 ∨ ¬ dg (cuX s')) ∧ PkX s s' ∧ PkM t t' ∧ xa s' = xa s + (k'.toInt - k.toInt) ∧ Em s s' [] ∧ Ly t t' [] ∧ k.toInt ≤ k'.toInt ∧ (dg (cuX s) → k.toInt < 5 → k.toInt < k'.toInt) := fun z => ⟨s, t, v, k, rfl, rfl, G, hv, z, PkX.rf, PkM.rf, by omega, Em.nil rfl (fun _ => rfl), Ly.nil rfl (fun _ => rfl) (fun _ => rfl), by omega, fun w u => by
      rcases z with z | z
      · omega
      · exact absurd w z⟩
    by_cases hk : k < 5
    · rw [if_pos hk, if_pos hk, isd_g G, b1_some, G.look, b1_some]
      rw [jlt, j5] at hk
      by_cases z : dg (cuX s)
      · have zm := G.dg.1.1 z
        have lt := (G.lt (k := cuX s) (by unfold dg at z; omega) rfl)
        rw [if_pos (show 48 ≤ (cuX s).toInt ∧ (cuX s).toInt ≤ 57 from z), if_neg (by decide), in_t (by rw [j48, j57]; exact zm), b1_some, if_neg (by decide), b1_some, G.dg.2 z]
        have ha := G.2.2.2.2.1
        have h160 := G.1.2.1
        unfold xa xn at ha
        unfold xn at h160
        have ec : cuX s = zI s 25 (zS s 24 4).toInt.toNat := by unfold cuX; rw [if_pos lt.1]
        have lt' := lt.1
        rw [jlt] at lt'
        rw [vl, gd_t ⟨by omega, by omega⟩, vl, vl, st, vl, vl, vl, vl, st, ← ec]
        obtain ⟨G1, ea1⟩ := G.av lt.2
        have m1 : (v * 10).toInt = v.toInt * 10 := by rw [i32_mul (by rw [j10]; omega) (by rw [j10]; omega), j10]
        have m2 : (v * 10 + cuX s).toInt = v.toInt * 10 + (cuX s).toInt := by
          unfold dg at z
          rw [i32_add (by omega) (by omega), m1]
        have m3 : (v * 10 + cuX s - 48).toInt = v.toInt * 10 + (cuX s).toInt - 48 := by
          unfold dg at z
          rw [i32_sub (by rw [m2, j48]; omega) (by rw [m2, j48]; omega), m2, j48]
        have k1 : (k + 1).toInt = k.toInt + 1 := by rw [i32_add (by rw [jl1]; omega) (by rw [jl1]; omega), jl1]
        have nv1 : nv (k + 1).toInt (v * 10 + cuX s - 48).toInt := by
          unfold dg at z
          unfold nv
          rw [m3, k1]
          clear stop
          omega
        have hv0 : 0 ≤ k.toInt := by omega
        rw [show (10 : Int32) * v = v * 10 from Int32.mul_comm _ _]
        obtain ⟨s', t', v', k', eX, eM, G', n', st', P', Q', xa', em', ly', le', _⟩ := num_l (d := d) (q0 := q0) (rm := rm) (q1 := q1) n (avX s) (avM t) (v * 10 + cuX s - 48) (k + 1) G1 nv1 (by omega)
        rw [k1] at le' xa'
        have h1 : xa s' = xa s + (k'.toInt - k.toInt) := by rw [xa', ea1]; omega
        have h2 : k.toInt ≤ k'.toInt := by omega
        have h3 : k.toInt < k'.toInt := by omega
        refine ⟨s', t', v', k', eX, eM, G', n', st', PkX.av.tr P', PkM.av.tr Q', h1, ?_, ?_, h2, fun _ _ => h3⟩
        · have emA : Em s (avX s) [] := Em.nil (by unfold avX; rw [zS_pS, if_neg (by omega)]) (fun _ => rfl)
          exact emA.tr G.2.2.2.2.2.2.1.1 em'
        · have lyA : Ly t (avM t) [] := Ly.nil (by unfold avM; rw [zS_pS, if_neg (by omega)]) (fun _ => rfl) (fun _ => rfl)
          exact lyA.tr G.2.2.2.2.2.2.2.1.1 G.2.2.2.2.2.2.2.2.1 (by unfold mr avM; rw [zS_pS, if_neg (by omega)]) ly'
      · have zm : ¬ dg (cuM t) := fun w => z (G.dg.1.2 w)
        rw [if_neg (show ¬ (48 ≤ (cuX s).toInt ∧ (cuX s).toInt ≤ 57) from z), if_pos rfl, in_f (by rw [j48, j57]; exact zm), b1_some, if_pos rfl]
        exact stop (Or.inr z)
    · rw [if_neg hk, if_neg hk]
      rw [jlt, j5] at hk
      exact stop (Or.inl (by omega))
