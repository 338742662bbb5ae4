/-! THE READERS: class and reference read alike. Class cells of s, reference's of t -/
def xa (s : SS) : Int := (zS s 24 4).toInt
def xz (s : SS) : Int := (zS s 24 3).toInt
def mh (t : SS) : Int := (zS t 59 47).toInt
def ml (t : SS) : Int := (zS t 59 51).toInt
def mr (t : SS) : Int := (zS t 59 50).toInt
/-- the byte ahead, -1 at the end -/
def cuX (s : SS) : Int32 := if zS s 24 4 < zS s 24 1 then zI s 25 (zS s 24 4).toInt.toNat else -1
def cuM (t : SS) : Int32 := if zS t 59 47 < zS t 59 37 then zI t 86 (zS t 59 47).toInt.toNat else -1
def avX (s : SS) : SS := pS s 24 4 (zS s 24 4 + 1)
def avM (t : SS) : SS := pS t 59 47 (zS t 59 47 + 1)
/-- both at work: no fault, the same place, d brackets deep -/
def Rd (s t : SS) (d : Int32) : Prop := TP s t ∧ zS s 24 5 = -1 ∧ zS t 59 48 = -1 ∧ zS s 24 4 = zS t 59 47 ∧ (0 ≤ xa s ∧ xa s ≤ xn s) ∧ zS t 59 49 = d ∧ (0 ≤ xz s ∧ xz s ≤ xa s) ∧ (0 ≤ ml t ∧ ml t ≤ xa s) ∧ (0 ≤ mr t ∧ mr t ≤ 15)
theorem Rd.ch {s t : SS} {d : Int32} (G : Rd s t d) {k : Int32} (hk : 0 ≤ k.toInt ∧ k.toInt < 128) : cuX s = k ↔ cuM t = k := by
  obtain ⟨⟨e1, hn, tp⟩, _, _, e4, ha, _⟩ := G
  unfold xa xn at ha
  unfold xn at hn
  unfold cuX cuM
  rw [← e4, ← e1]
  by_cases h : zS s 24 4 < zS s 24 1
  · rw [if_pos h, if_pos h]
    rw [jlt] at h
    obtain ⟨b1, b2, b3⟩ := tp (zS s 24 4).toInt.toNat (by omega)
    refine ⟨fun z => Int32.toInt_inj.1 ?_, fun z => Int32.toInt_inj.1 ?_⟩
    · rw [b3, z, if_pos hk.2]
    · rw [z] at b3
      by_cases w : (zI s 25 (zS s 24 4).toInt.toNat).toInt < 128
      · rw [if_pos w] at b3; omega
      · rw [if_neg w] at b3; omega
  · rw [if_neg h, if_neg h]
theorem Rd.lt {s t : SS} {d : Int32} (G : Rd s t d) {k : Int32} (hk : 0 ≤ k.toInt) (h : cuX s = k) : zS s 24 4 < zS s 24 1 ∧ xa s < xn s := by
  by_cases z : zS s 24 4 < zS s 24 1
  · exact ⟨z, by rw [jlt] at z; exact z⟩
  · unfold cuX at h
    rw [if_neg z] at h
    rw [← h] at hk
    exact absurd hk (by decide)
theorem jm1 : (-1 : Int32).toInt = -1 := rfl
theorem j160 : (160 : Int32).toInt = 160 := rfl
theorem j161 : (161 : Int32).toInt = 161 := rfl
theorem takes_g {s t : SS} {d k : Int32} (G : Rd s t d) (hk : 0 ≤ k.toInt) : f_X7_takes s k = if cuX s = k then some (1, avX s) else some (0, s) := by
  obtain ⟨⟨e1, hn, tp⟩, e2, _, e4, ha, _⟩ := G
  unfold xa xn at ha
  unfold xn at hn
  unfold f_X7_takes cuX avX
  rw [if_pos (by rw [e2]; decide)]
  by_cases h : zS s 24 4 < zS s 24 1
  · rw [if_pos h, if_pos h, vl]
    rw [jlt] at h
    rw [gd_t ⟨by omega, by omega⟩]
    by_cases z : zI s 25 (zS s 24 4).toInt.toNat = k
    · rw [if_pos z, if_pos z, vl, st]
    · rw [if_neg z, if_neg z]
  · rw [if_neg h, if_neg h, if_neg (fun z => by rw [← z] at hk; exact absurd hk (by decide))]
/-- no sign is taken where there is a fault, or another byte ahead -/
theorem takes_f {s : SS} {k : Int32} (h : ¬ zS s 24 5 < 0) : f_X7_takes s k = some (0, s) := by
  unfold f_X7_takes
  rw [if_neg h]
theorem look_g {t : SS} (h0 : 0 ≤ mh t) (h1 : (zS t 59 37).toInt ≤ 160) : f_X12_look t = some (cuM t) := by
  unfold f_X12_look cuM
  unfold mh at h0
  by_cases h : zS t 59 47 < zS t 59 37
  · rw [if_pos h, if_pos h, vl]
    rw [jlt] at h
    rw [gd_t ⟨h0, by omega⟩]
  · rw [if_neg h, if_neg h]
theorem Rd.look {s t : SS} {d : Int32} (G : Rd s t d) : f_X12_look t = some (cuM t) := by
  obtain ⟨⟨e1, hn, _⟩, _, _, e4, ha, _⟩ := G
  unfold xa at ha
  unfold xn at hn
  exact look_g (by unfold mh; rw [← e4]; exact ha.1) (by rw [← e1]; exact hn.2)
/-- one code more -/
def emX (s : SS) (c : Int32) : SS := pS (pI s 26 (zS s 24 3).toInt.toNat c) 24 3 (zS s 24 3 + 1)
def lyM (t : SS) (a w : Int32) : SS := pS (pI (pI t 93 (170 * mr t + ml t).toNat a) 94 (170 * mr t + ml t).toNat w) 59 51 (zS t 59 51 + 1)
theorem emit_g {s : SS} {c : Int32} (h : zS s 24 5 < 0) (hz : 0 ≤ xz s ∧ xz s < 161) : f_X7_emit s c = some (emX s c) := by
  unfold xz at hz
  unfold f_X7_emit emX
  rw [if_pos h, if_pos (by rw [jlt, j161]; exact hz.2), vl, gd_t ⟨hz.1, hz.2⟩, st, vl, st, zS_pI]
theorem emit_f {s : SS} {c : Int32} (h : ¬ zS s 24 5 < 0) : f_X7_emit s c = some s := by
  unfold f_X7_emit
  rw [if_neg h]
theorem lay_g {t : SS} {a w : Int32} (hr : 0 ≤ mr t ∧ mr t ≤ 15) (hl : 0 ≤ ml t ∧ ml t ≤ 165) : f_X12_lay t a w = some (lyM t a w) := by
  unfold lyM mr ml
  unfold mr at hr
  unfold ml at hl
  have j170 : (170 : Int32).toInt = 170 := rfl
  have m1 : (170 * zS t 59 50).toInt = 170 * (zS t 59 50).toInt := by rw [i32_mul (by rw [j170]; omega) (by rw [j170]; omega), j170]
  have m2 : (170 * zS t 59 50 + zS t 59 51).toInt = 170 * (zS t 59 50).toInt + (zS t 59 51).toInt := by rw [i32_add (by omega) (by omega), m1]
  unfold f_X12_lay
  rw [vl, gd_t ⟨by omega, by omega⟩, st, zS_pI, zS_pI, vl, gd_t ⟨by omega, by omega⟩, st, zS_pI, zS_pI, vl, st, m2]
