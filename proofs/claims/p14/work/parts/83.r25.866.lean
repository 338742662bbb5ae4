/-! an operand -/
def opM (t : SS) : SS := pS (pS t 59 49 (zS t 59 49 + 1)) 59 47 (zS t 59 47 + 1)
def clM (t : SS) : SS := pS t 59 49 (zS t 59 49 - 1)
theorem PkM.op {t : SS} : PkM t (opM t) := ⟨fun q k z => by unfold opM; rw [zS_pS, if_neg (by omega), zS_pS, if_neg (by omega)], fun _ _ _ _ => rfl, rfl⟩
theorem PkM.cl {t : SS} : PkM t (clM t) := ⟨fun q k z => by unfold clM; rw [zS_pS, if_neg (by omega)], fun _ _ _ _ => rfl, rfl⟩
theorem opM_S {t : SS} {k : Nat} (h : k ≠ 49 ∧ k ≠ 47) : zS (opM t) 59 k = zS t 59 k := by unfold opM; rw [zS_pS, if_neg (by omega), zS_pS, if_neg (by omega)]
theorem clM_S {t : SS} {k : Nat} (h : k ≠ 49) : zS (clM t) 59 k = zS t 59 k := by unfold clM; rw [zS_pS, if_neg (by omega)]
theorem avM_S {t : SS} {k : Nat} (h : k ≠ 47) : zS (avM t) 59 k = zS t 59 k := by unfold avM; rw [zS_pS, if_neg (by omega)]
theorem avX_S {t : SS} {k : Nat} (h : k ≠ 4) : zS (avX t) 24 k = zS t 24 k := by unfold avX; rw [zS_pS, if_neg (by omega)]
theorem lyM_S {t : SS} {a w : Int32} {k : Nat} (h : k ≠ 51) : zS (lyM t a w) 59 k = zS t 59 k := by unfold lyM; rw [zS_pS, if_neg (by omega), zS_pI, zS_pI]
theorem av_ly {t : SS} {a w : Int32} : avM (lyM t a w) = lyM (avM t) a w := by
  show pS (lyM t a w) 59 47 (zS (lyM t a w) 59 47 + 1) = _
  rw [lyM_S (by omega)]
  show (up2 (up2 t.1 59 51 (zS t 59 51 + 1)) 59 47 (zS t 59 47 + 1), _) = (up2 (up2 t.1 59 47 (zS t 59 47 + 1)) 59 51 (zS (avM t) 59 51 + 1), _)
  rw [avM_S (by omega)]
  congr 1
  funext q k
  unfold up2
  by_cases h1 : q = 59 ∧ k = 47
  · rw [if_pos h1, if_neg (by omega), if_pos h1]
  · rw [if_neg h1]
    by_cases h2 : q = 59 ∧ k = 51
    · rw [if_pos h2, if_pos h2]
    · rw [if_neg h2, if_neg h2, if_neg h1]
theorem Rd.op {s t : SS} {d : Int32} (G : Rd s t d) (h : xa s < xn s) : Rd (avX s) (opM t) (d + 1) ∧ xa (avX s) = xa s + 1 := by
  obtain ⟨⟨T, e2, e3, e4, ha, ho, hz, hl, hr⟩, ea⟩ := G.av h
  refine ⟨⟨G.1.c PkX.av PkM.op, e2, ?_, ?_, ha, ?_, hz, ?_, ?_⟩, ea⟩
  · rw [opM_S (by omega)]; exact G.2.2.1
  · rw [e4]
    unfold avM opM
    rw [zS_pS, if_pos ⟨rfl, rfl⟩, zS_pS, if_pos ⟨rfl, rfl⟩]
  · unfold opM
    rw [zS_pS, if_neg (by omega), zS_pS, if_pos ⟨rfl, rfl⟩, G.2.2.2.2.2.1]
  · have e : ml (opM t) = ml (avM t) := by unfold ml; rw [opM_S (by omega), avM_S (by omega)]
    rw [e]; exact hl
  · have e : mr (opM t) = mr (avM t) := by unfold mr; rw [opM_S (by omega), avM_S (by omega)]
    rw [e]; exact hr
theorem Rd.cl {s t : SS} {d : Int32} (G : Rd s t (d + 1)) : Rd s (clM t) d := by
  obtain ⟨T, e2, e3, e4, ha, ho, hz, hl, hr⟩ := G
  refine ⟨T.c PkX.rf PkM.cl, e2, by rw [clM_S (by omega)]; exact e3, by rw [clM_S (by omega)]; exact e4, ha, ?_, hz, ?_, ?_⟩
  · unfold clM
    rw [zS_pS, if_pos ⟨rfl, rfl⟩, ho, Int32.add_sub_cancel]
  · unfold ml; rw [clM_S (by omega)]; exact hl
  · unfold mr; rw [clM_S (by omega)]; exact hr
theorem Ly.op {t : SS} : Ly t (opM t) [] := Ly.nil (opM_S (by omega)) (fun _ => rfl) (fun _ => rfl)
theorem Ly.cl {t : SS} : Ly t (clM t) [] := Ly.nil (clM_S (by omega)) (fun _ => rfl) (fun _ => rfl)
theorem Ly.av {t : SS} : Ly t (avM t) [] := Ly.nil (avM_S (by omega)) (fun _ => rfl) (fun _ => rfl)
theorem Em.av {t : SS} : Em t (avX t) [] := Em.nil (avX_S (by omega)) (fun _ => rfl)
/-- both fail here -/
theorem failP {E : Nat → List Int32 → Prop} {m : Nat} {s t : SS} {d : Int32} (G : Rd s t d) : f_X7_fails s = some (pS s 24 5 (zS s 24 4)) ∧ f_X12_faultHere t = some (pS t 59 48 (zS t 59 47)) ∧ PE E m s t (pS s 24 5 (zS s 24 4)) (pS t 59 48 (zS t 59 47)) d := by
  obtain ⟨T, e2, e3, e4, ha, ho, hz, hl, hr⟩ := G
  refine ⟨?_, ?_, ⟨fun q k z => by rw [zS_pS, if_neg (by omega)], fun _ _ _ => rfl, rfl⟩, ⟨fun q k z => by rw [zS_pS, if_neg (by omega)], fun _ _ _ _ => rfl, rfl⟩, Or.inr ⟨zS s 24 4, ha.1, Or.inl ?_, ?_, ?_, ?_, ?_, ?_⟩⟩
  · unfold f_X7_fails
    rw [if_pos (by rw [e2]; decide), vl, st]
  · unfold f_X12_faultHere
    rw [if_pos (by rw [e3]; decide), vl, st]
  · rw [zS_pS, if_pos ⟨rfl, rfl⟩]
  · rw [zS_pS, if_pos ⟨rfl, rfl⟩, e4]
  · unfold xz; rw [zS_pS, if_neg (by omega)]; exact hz.1
  · unfold ml; rw [zS_pS, if_neg (by omega)]; exact hl.1
  · have := T.2.1
    have e : mh (pS t 59 48 (zS t 59 47)) = xa s := by
      show (zS (pS t 59 48 (zS t 59 47)) 59 47).toInt = (zS s 24 4).toInt
      rw [zS_pS, if_neg (by omega), e4]
    omega
  · have e : mh (pS t 59 48 (zS t 59 47)) = mh t := by
      show (zS (pS t 59 48 (zS t 59 47)) 59 47).toInt = (zS t 59 47).toInt
      rw [zS_pS, if_neg (by omega)]
    have e' : ml (pS t 59 48 (zS t 59 47)) = ml t := by unfold ml; rw [zS_pS, if_neg (by omega)]
    omega
def HM (d : Int32) : Nat := 1 + 5 * (8 - d.toInt).toNat
theorem Eup {E : Nat → List Int32 → Prop} (HE : EC E) {l : List Int32} {m : Nat} : ∀ k, E m l → E (m + k) l
  | 0, h => h
  | k + 1, h => HE.2.2.2.2 _ _ (Eup HE k h)
/-- a number -/
theorem numP {E : Nat → List Int32 → Prop} (HE : EC E) {m : Nat} {s t : SS} {d : Int32} {rm : SS → Option SS} (G : Rd s t d) (z : dg (cuX s)) : ∃ s' t', f_X7_number s = some s' ∧ (f_X12_operand_L148 rm (fun (s26 : SS) (x26_2 : Int32) (x26_3 : Int32) => (jn ((b1 (f_X12_faultHere s26) fun s28 => some s28)) fun k27 => (if x26_2 = (0 : Int32) then k27 else (b1 (f_X12_look s26) fun r30 => (b1 (f_X12_in r30 (48 : Int32) (57 : Int32)) fun r31 => (if r31 = (0 : Int32) then (b1 (f_X12_lay s26 1 x26_3) fun s33 => some s33) else k27)))))) 4000 t 0 0) = some t' ∧ PE E (1 + m) s t s' t' d := by
  have j48 : (48 : Int32).toInt = 48 := rfl
  have j57 : (57 : Int32).toInt = 57 := rfl
  obtain ⟨s1, t1, v, k, eX, eM, G1, n1, sp, P1, Q1, xa1, em1, ly1, le, lt⟩ := num_l (d := d) (q0 := fun (s11 : SS) (x11_1 : Int32) => (b1 (f_X7_emit s11 x11_1) fun s12 => some s12)) (rm := rm) (q1 := fun (s26 : SS) (x26_2 : Int32) (x26_3 : Int32) => (jn ((b1 (f_X12_faultHere s26) fun s28 => some s28)) fun k27 => (if x26_2 = (0 : Int32) then k27 else (b1 (f_X12_look s26) fun r30 => (b1 (f_X12_in r30 (48 : Int32) (57 : Int32)) fun r31 => (if r31 = (0 : Int32) then (b1 (f_X12_lay s26 1 x26_3) fun s33 => some s33) else k27)))))) 4000 s t 0 0 G (Or.inl ⟨rfl, rfl⟩) (by decide)
  have lt1 := lt z (by decide)
  rw [jl0] at lt1 xa1
  have k0 : ¬ k = 0 := fun e => by rw [e, jl0] at lt1; omega
  have hv0 : 0 ≤ v.toInt := by unfold nv at n1; omega
  have ha1 := G1.2.2.2.2.1
  have h160 := G1.1.2.1
  have hz1 := G1.2.2.2.2.2.2.1
  have hl1 := G1.2.2.2.2.2.2.2.1
  have hr1 := G1.2.2.2.2.2.2.2.2
  have ez : xz s1 = xz s := by have := em1.1; simp at this; exact this
  have el : ml t1 = ml t := by have := ly1.1; simp at this; exact this
  have gz := G.2.2.2.2.2.2.1
  have gl := G.2.2.2.2.2.2.2.1
  have er : mr t1 = mr t := by unfold mr; rw [Q1.r]
  unfold f_X7_number
  rw [eX, eM, emit_g (by rw [G1.2.1]; decide) ⟨hz1.1, by omega⟩, b1_some, jn, if_neg k0, G1.look, b1_some]
  by_cases w : dg (cuX s1)
  · have wm := G1.dg.1.1 w
    obtain ⟨-, f2, Q2, -⟩ := failP (E := E) (m := m) G1
    obtain ⟨f1, f2', -, Qf, -⟩ := failP (E := E) (m := m) G1
    rw [in_t (by rw [j48, j57]; exact wm), b1_some, if_neg (by decide), f2', b1_some]
    have la := (G1.lt (k := cuX s1) (by unfold dg at w; omega) rfl)
    refine ⟨_, _, rfl, rfl, P1.tr PkX.em, Q1.tr Qf, Or.inr ⟨zS s1 24 4, ha1.1, Or.inr ⟨?_, ?_, ?_, ?_, ?_, ?_⟩, ?_, ?_, ?_, ?_, ?_⟩⟩
    · unfold emX; rw [zS_pS, if_neg (by omega), zS_pI]; exact G1.2.1
    · unfold emX; rw [zS_pS, if_neg (by omega), zS_pI]
    · unfold emX; rw [zS_pS, if_neg (by omega), zS_pI, zS_pS, if_neg (by omega), zS_pI]; exact la.1
    · have := la.2
      unfold xa at this
      omega
    · rw [PkX.em.2.1 25 _ (by omega)]
      have : cuX s1 = zI s1 25 (zS s1 24 4).toInt.toNat := by unfold cuX; rw [if_pos la.1]
      rw [← this]; exact w.1
    · rw [PkX.em.2.1 25 _ (by omega)]
      have : cuX s1 = zI s1 25 (zS s1 24 4).toInt.toNat := by unfold cuX; rw [if_pos la.1]
      rw [← this]; exact w.2
    · rw [zS_pS, if_pos ⟨rfl, rfl⟩]; exact G1.2.2.2.1.symm
    · rw [(Em.one (c := v) ⟨hz1.1, by omega⟩).1]; omega
    · unfold ml; rw [zS_pS, if_neg (by omega)]; exact hl1.1
    · have e : mh (pS t1 59 48 (zS t1 59 47)) = mh t1 := by
        show (zS (pS t1 59 48 (zS t1 59 47)) 59 47).toInt = (zS t1 59 47).toInt
        rw [zS_pS, if_neg (by omega)]
      rw [e, G1.mh]
      omega
    · have e : mh (pS t1 59 48 (zS t1 59 47)) = mh t1 := by
        show (zS (pS t1 59 48 (zS t1 59 47)) 59 47).toInt = (zS t1 59 47).toInt
        rw [zS_pS, if_neg (by omega)]
      have e' : ml (pS t1 59 48 (zS t1 59 47)) = ml t1 := by unfold ml; rw [zS_pS, if_neg (by omega)]
      rw [e, e', G1.mh, G.mh, el]
      omega
  · have wm : ¬ dg (cuM t1) := fun q => w (G1.dg.1.2 q)
    rw [in_f (by rw [j48, j57]; exact wm), b1_some, if_pos rfl, lay_g hr1 ⟨hl1.1, by omega⟩, b1_some]
    obtain ⟨G2, ea2⟩ := G1.em (c := v) (a := 1) (w := v) (by omega) (by omega)
    have tA : tkA v = 1 := by unfold tkA; rw [if_pos (by rw [jlt, jm1]; omega)]
    have tW : tkW v = v := by unfold tkW; rw [if_pos (by rw [jlt, jm1]; omega)]
    refine ⟨_, _, rfl, rfl, P1.tr PkX.em, Q1.tr PkM.ly, Or.inl ⟨G2, [v], Nat.le_refl _, ?_, ?_, ?_, Eup HE m (HE.1 v hv0)⟩⟩
    · rw [ea2]
      have : (([v] : List Int32).length : Int) = 1 := rfl
      omega
    · exact em1.tr gz.1 (Em.one (c := v) ⟨hz1.1, by omega⟩)
    · exact ly1.tr gl.1 G.2.2.2.2.2.2.2.2.1 er (Ly.one (c := v) (a := 1) (w := v) ⟨hl1.1, by omega⟩ hr1.1 tA tW)
