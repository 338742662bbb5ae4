/-! THE STEPS -/
/-- rows and machines apart, nothing that the relation reads has changed -/
theorem Q4.r {s t s' t' : SS} (Q : Q4 s t) (S : Sh s) (hL : s'.2.2.2 = s.2.2.2) (b3 : (zS s 15 3).toInt ≤ 120) (hS : ∀ q k, vS q k = true → q < 59 ∨ 126 ≤ q → zS s' q k = zS s q k) (hI : ∀ q i, vI q = true → q < 59 ∨ 126 ≤ q → zI s' q i = zI s q i) (mS : ∀ k, vS 59 k = true → zS t' 59 k = zS t 59 k) (mI : ∀ q i, vI q = true → 59 ≤ q → q < 126 → q ≠ 79 → q ≠ 120 → q ≠ 123 → zI t' q i = zI t q i) (S10 : QSet s' t') (R13 : QRow t') : Q4 s' t' := by
  obtain ⟨Q1, Q2, Q3, Q5, Q6, Q7, Q8, Q9, Q10, Q11, Q12, Q13, Q14⟩ := Q
  have eR : ∀ q i, zR s' q i = zR s q i := fun q i => by unfold zR; rw [hL]
  have eN : ∀ q, zN s' q = zN s q := fun q => by unfold zN; rw [hL]
  have dS : ∀ q k, 126 ≤ q → zS s' q k = zS s q k := fun q k h => hS q k (vS_d h) (Or.inr h)
  have dI : ∀ q j, 126 ≤ q → zI s' q j = zI s q j := fun q j h => hI q j (vI_d h) (Or.inr h)
  have sS : ∀ q k, q < 59 → vS q k = true → zS s' q k = zS s q k := fun q k h1 h2 => hS q k h2 (Or.inl h1)
  have sI : ∀ q k, q < 59 → vI q = true → zI s' q k = zI s q k := fun q k h1 h2 => hI q k h2 (Or.inl h1)
  refine ⟨Q1.c S dS dI (eR 17) (fun q j h1 h2 => mI q j ?_ (by omega) (by omega) (by omega) (by omega) (by omega)), Q2.c (fun i => sI 7 i (by omega) rfl) (fun i => sI 8 i (by omega) rfl) (fun i => sI 10 i (by omega) rfl) (fun i => sI 16 i (by omega) rfl) (sS 15 3 (by omega) rfl) (sS 6 4 (by omega) rfl) (fun i => mI 74 i rfl (by omega) (by omega) (by omega) (by omega) (by omega)) (fun i => mI 75 i rfl (by omega) (by omega) (by omega) (by omega) (by omega)) (fun i => mI 77 i rfl (by omega) (by omega) (by omega) (by omega) (by omega)), Q3.c (fun k h => sS 0 k (by omega) (by rcases h with rfl | rfl <;> rfl)) (sS 15 4 (by omega) rfl) (eR 17) (fun i => mI 67 i rfl (by omega) (by omega) (by omega) (by omega) (by omega)) (fun i => mI 69 i rfl (by omega) (by omega) (by omega) (by omega) (by omega)), Q5.c (sS 0 18 (by omega) rfl) (sS 0 14 (by omega) rfl) (fun i => mI 69 i rfl (by omega) (by omega) (by omega) (by omega) (by omega)), Q6.c (fun k => sS 30 k (by omega) rfl) (sS 0 14 (by omega) rfl) (fun q i h1 h2 => sI q i (by omega) ?_) (fun k h => mS k (by rcases h with rfl | rfl | rfl <;> rfl)) (fun q i h1 h2 => mI q i ?_ (by omega) (by omega) (by omega) (by omega) (by omega)), Q7.c (fun k h1 h2 => sS 15 k (by omega) (Nat.ble_eq.mpr h2)) (fun k h1 h2 => mS k ?_), Q8.c (fun i hi => sS _ 2 (by omega) ?_) (fun i => mI 80 i rfl (by omega) (by omega) (by omega) (by omega) (by omega)), Q9.c (fun k h1 h2 => sS 6 k (by omega) ?_) (fun i => sI 13 i (by omega) rfl) (fun k h => mS k (by rcases h with rfl | rfl <;> rfl)) (fun i => mI 116 i rfl (by omega) (by omega) (by omega) (by omega) (by omega)) (fun i => mI 118 i rfl (by omega) (by omega) (by omega) (by omega) (by omega)), S10, Q11.c S (sS 0 5 (by omega) rfl) dS dI (eR 23) (fun q j h1 h2 => mI q j ?_ (by omega) (by omega) (by omega) (by omega) (by omega)), Q12.c S (sS 0 8 (by omega) rfl) dS dI (eR 27) (fun q _ => eN q) (fun q j h1 h2 => mI q j ?_ (by omega) (by omega) (by omega) (by omega) (by omega)), R13, Q14.c (sS 0 14 (by omega) rfl) (fun i => mI 68 i rfl (by omega) (by omega) (by omega) (by omega) (by omega))⟩
  · have h : q = 63 ∨ q = 64 ∨ q = 65 ∨ q = 66 ∨ q = 67 ∨ q = 68 ∨ q = 69 ∨ q = 70 ∨ q = 71 ∨ q = 72 ∨ q = 73 ∨ q = 104 := by omega
    rcases h with rfl | rfl | rfl | rfl | rfl | rfl | rfl | rfl | rfl | rfl | rfl | rfl <;> rfl
  · have h : q = 31 ∨ q = 32 ∨ q = 33 := by omega
    rcases h with rfl | rfl | rfl <;> rfl
  · have h : q = 102 ∨ q = 103 ∨ q = 105 := by omega
    rcases h with rfl | rfl | rfl <;> rfl
  · have h : k = 22 ∨ k = 23 ∨ k = 24 ∨ k = 25 := by omega
    rcases h with rfl | rfl | rfl | rfl <;> rfl
  · have h : i = 0 ∨ i = 1 ∨ i = 2 := by omega
    rcases h with rfl | rfl | rfl <;> rfl
  · have h : k = 10 ∨ k = 11 ∨ k = 12 := by omega
    rcases h with rfl | rfl | rfl <;> rfl
  · have h : q = 81 ∨ q = 82 ∨ q = 83 ∨ q = 84 ∨ q = 85 := by omega
    rcases h with rfl | rfl | rfl | rfl | rfl <;> rfl
  · have h : q = 87 ∨ q = 88 ∨ q = 89 ∨ q = 90 ∨ q = 91 ∨ q = 92 ∨ q = 93 ∨ q = 94 := by omega
    rcases h with rfl | rfl | rfl | rfl | rfl | rfl | rfl | rfl <;> rfl
theorem nbq {a b : Nat} (h : a ≠ b) : Nat.beq a b = false := by
  cases e : Nat.beq a b with
  | false => rfl
  | true => exact absurd (Nat.eq_of_beq_eq_true e) h
section GXs
variable {s s1 s2 r : SS} {c : Nat}
/-- ranges -/
def GX (s : SS) : Prop := QRng s s ∧ QSm s ∧ (∀ i, i < 3 → (zI s 80 i).toInt ≤ 1699) ∧ H25 s
def GW (c : Nat) (s : SS) : Prop := GQ s ∧ GX s ∧ QTub s (1699 + 9 * (c : Int))
def xS (q k : Nat) : Bool := Nat.beq q 59 && (Nat.beq k 25 || Nat.beq k 29)
def xI (q : Nat) : Bool := Nat.beq q 2 || Nat.beq q 63 || Nat.beq q 73 || Nat.beq q 78 || Nat.beq q 80 || Nat.beq q 104
theorem GX.e (X : GX s) (e2 : ∀ j, zI r 2 j = zI s 2 j) (e63 : ∀ j, zI r 63 j = zI s 63 j) (e73 : ∀ j, zI r 73 j = zI s 73 j) (e78 : ∀ j, zI r 78 j = zI s 78 j) (e80 : ∀ j, zI r 80 j = zI s 80 j) (e25 : zS r 59 25 = zS s 59 25) (e29 : zS r 59 29 = zS s 59 29) : GX r := by
  obtain ⟨⟨a1, a2⟩, ⟨b1, b2, b3⟩, d, e⟩ := X
  exact ⟨⟨fun m hm => by rw [e78]; exact a1 m hm, fun j => by rw [e2]; exact a2 j⟩, ⟨fun j => by rw [e73]; exact b1 j, by rw [e29]; exact b2, fun n => by rw [e63]; exact b3 n⟩, fun i hi => by rw [e80]; exact d i hi, by unfold H25; rw [e25]; exact e⟩
theorem GX.f {WS : List (Nat × Nat)} {WI WJ : List Nat} (X : GX s) (F : Frm WS WI WJ s r) (h1 : WS.all (fun p => !xS p.1 p.2) = true) (h2 : WI.all (fun q => !xI q) = true) : GX r := X.e (fun j => F.2.1 2 j (nct h2 rfl)) (fun j => F.2.1 63 j (nct h2 rfl)) (fun j => F.2.1 73 j (nct h2 rfl)) (fun j => F.2.1 78 j (nct h2 rfl)) (fun j => F.2.1 80 j (nct h2 rfl)) (F.1 59 25 (nct h1 rfl)) (F.1 59 29 (nct h1 rfl))
theorem GX.m {WS : List (Nat × Nat)} {WI WJ : List Nat} (X : GX s) (m : mSm s s1) (e2 : ∀ j, zI s1 2 j = zI s 2 j) (F : Frm WS WI WJ s1 s2) (h1 : WS.all (fun p => !xS p.1 p.2) = true) (h2 : WI.all (fun q => !xI q) = true) : GX s2 := (X.e e2 (fun j => m.2.1 63 j (by omega) (by omega)) (fun j => m.2.1 73 j (by omega) (by omega)) (fun j => m.2.1 78 j (by omega) (by omega)) (fun j => m.2.1 80 j (by omega) (by omega)) (m.1 59 25 (by omega) (by omega)) (m.1 59 29 (by omega) (by omega))).f F h1 h2
theorem QTub.u (U : QTub s (1699 + 9 * (c : Int))) (e : ∀ j, zI r 104 j = zI s 104 j) : QTub r (1699 + 9 * ((c + 1 : Nat) : Int)) := fun i hi => by
  have := U i hi
  rw [e]
  omega
/-- a method that touches nothing of all this -/
theorem GW.go {WS : List (Nat × Nat)} {WI WJ : List Nat} (W : GW c s) (G2 : GI r) (F : Frm WS WI WJ s r) (h1 : WS.all (fun p => !vS p.1 p.2) = true) (h2 : WI.all (fun q => !vI q) = true) (h3 : WJ.contains 122 = false) (x1 : WS.all (fun p => !xS p.1 p.2) = true) (x2 : WI.all (fun q => !xI q) = true) : GW (c + 1) r := ⟨W.1.go G2 F h1 h2 h3, W.2.1.f F x1 x2, W.2.2.u (fun j => F.2.1 104 j (nct x2 rfl))⟩
theorem GW.rd (W : GW c s) : GW (c + 1) s := ⟨W.1, W.2.1, W.2.2.u (fun _ => rfl)⟩
/-- two calls, one behind the other -/
theorem GW.two {WS : List (Nat × Nat)} {WI WJ : List Nat} (W : GW c s) (m : mSm s s1) (e2 : ∀ j, zI s1 2 j = zI s 2 j) (F : Frm WS WI WJ s1 s2) (hm : moW WS WI WJ = true) (G2 : GI s2) (h : Q4 s1 s2) (x1 : WS.all (fun p => !xS p.1 p.2) = true) (x2 : WI.all (fun q => !xI q) = true) : GW (c + 1) s2 := ⟨GQ.fin G2 h (F.cs hm) G2.1.1.1.1, W.2.1.m m e2 F x1 x2, W.2.2.u (fun j => (F.2.1 104 j (nct x2 rfl)).trans (m.2.1 104 j (by omega) (by omega)))⟩
theorem GW.b1 (W : GW c s) (m : mSm s s1) : B1 s s1 := W.1.1.B1.X m
theorem GW.q4 (W : GW c s) (m : mSm s s1) : Q4 s s1 := W.1.2.X W.1.sh W.1.b3.2 m
/-- rows and machines -/
theorem GW.rm {WS WS' : List (Nat × Nat)} {WI WJ WI' WJ' : List Nat} (W : GW c s) (F1 : Frm WS WI WJ s s1) (F2 : Frm WS' WI' WJ' s1 s2) (k1 : clW WS WI WJ = true) (k2 : moW WS' WI' WJ' = true) (G2 : GI s2) (S10 : QSet s s2) (R13 : QRow s2) (h1 : WS.all (fun p => !vS p.1 p.2) = true) (h2 : WI.all (fun q => !vI q) = true) (h3 : WS'.all (fun p => !vS p.1 p.2) = true) (h4 : WI'.all (fun q => !vI q || Nat.beq q 79 || Nat.beq q 120 || Nat.beq q 123) = true) (x1 : WS'.all (fun p => !xS p.1 p.2) = true) (x2 : WI'.all (fun q => !xI q) = true) (x3 : WI.contains 2 = false) : GW (c + 1) s2 := by
  have m := F1.ms k1
  have cs := F2.cs k2
  have Q := W.q4 m
  have L1 : ∀ q k, vS q k = true → zS s1 q k = zS s q k := fun q k e => F1.1 q k (nct h1 (by show (!vS q k) = false; rw [e]; rfl))
  have L2 : ∀ q i, vI q = true → zI s1 q i = zI s q i := fun q i e => F1.2.1 q i (nct h2 (by show (!vI q) = false; rw [e]; rfl))
  have S1 : QSet s1 s2 := S10.c (by rw [L1 15 3 rfl]; exact Int.le_refl _) (fun i _ h => by rw [F1.zR_]; exact h) W.1.b3.2 (fun _ => rfl)
  have h : Q4 s1 s2 := by
    refine Q.r W.1.sh F1.2.2.2 W.1.b3.2 (fun q k e _ => L1 q k e) (fun q i e _ => L2 q i e) (fun k e => F2.1 59 k (nct h3 (by show (!vS 59 k) = false; rw [e]; rfl))) (fun q i e _ _ n1 n2 n3 => F2.2.1 q i (nct h4 ?_)) S1 R13
    show (!vI q || Nat.beq q 79 || Nat.beq q 120 || Nat.beq q 123) = false
    have b1 : Nat.beq q 79 = false := nbq n1
    have b2 : Nat.beq q 120 = false := nbq n2
    have b3 : Nat.beq q 123 = false := nbq n3
    rw [e, b1, b2, b3]
    rfl
  exact W.two m (fun j => F1.2.1 2 j x3) F2 k2 G2 h x1 x2
end GXs
/-! class methods that make objects: what they leave alone -/
section KOs
variable {s r : SS}
/-- the reference's cells, and the rock -/
def mR (s r : SS) : Prop := mSm s r ∧ ∀ j, zI r 2 j = zI s 2 j
theorem mR.wS {q k : Nat} {v : Int32} (h : mR s r) (hq : q < 59 ∨ 126 ≤ q) : mR s (pS r q k v) := ⟨⟨fun a b h1 h2 => by rw [zS_pS, if_neg (by omega)]; exact h.1.1 a b h1 h2, h.1.2⟩, h.2⟩
theorem mR.wI {q i : Nat} {v : Int32} (h : mR s r) (hq : q < 59 ∨ 126 ≤ q) (h2 : q ≠ 2) : mR s (pI r q i v) := ⟨⟨h.1.1, fun a b h1 h2 => by rw [zI_pI, if_neg (by omega)]; exact h.1.2.1 a b h1 h2, h.1.2.2⟩, fun j => by rw [zI_pI, if_neg (by omega)]; exact h.2 j⟩
theorem mR.rf : mR s s := ⟨mSm.rf, fun _ => rfl⟩
theorem mR.nh {c w : Int32} {i : Nat} {o : Option Nat} (h : mR s r) (hl : 126 ≤ zL r) : mR s (pR (pHole r c w) 17 i o) := by
  refine ⟨⟨fun a b h1 h2 => ?_, fun a b h1 h2 => ?_, h.1.2.2⟩, fun j => ?_⟩
  · show (if a = zL r then holeF c w b else zS r a b) = _
    rw [if_neg (by omega)]; exact h.1.1 a b h1 h2
  · show (if a = zL r + 1 then 0 else if a = zL r + 2 then 0 else if a = zL r + 3 then (-2000000000) else zI r a b) = _
    rw [if_neg (by omega), if_neg (by omega), if_neg (by omega)]; exact h.1.2.1 a b h1 h2
  · show (if 2 = zL r + 1 then 0 else if 2 = zL r + 2 then 0 else if 2 = zL r + 3 then (-2000000000) else zI r 2 j) = _
    rw [if_neg (by omega), if_neg (by omega), if_neg (by omega)]; exact h.2 j
theorem mR.nm {c w y : Int32} {i : Nat} {o : Option Nat} (h : mR s r) (hl : 126 ≤ zL r) : mR s (pR (pMap r c w y) 23 i o) := by
  refine ⟨⟨fun a b h1 h2 => ?_, fun a b h1 h2 => ?_, h.1.2.2⟩, fun j => ?_⟩
  · show (if a = zL r then mapF c w y b else zS r a b) = _
    rw [if_neg (by omega)]; exact h.1.1 a b h1 h2
  · show (if a = zL r + 1 then 0 else zI r a b) = _
    rw [if_neg (by omega)]; exact h.1.2.1 a b h1 h2
  · show (if 2 = zL r + 1 then 0 else zI r 2 j) = _
    rw [if_neg (by omega)]; exact h.2 j
theorem mR.nt {x y c e : Int32} {N i : Nat} {o : Option Nat} (h : mR s r) (hl : 126 ≤ zL r) : mR s (pR (pText r x y c e N) 27 i o) := by
  refine ⟨⟨fun a b h1 h2 => ?_, fun a b h1 h2 => ?_, h.1.2.2⟩, fun j => ?_⟩
  · show (if a = zL r then textF x y c e b else zS r a b) = _
    rw [if_neg (by omega)]; exact h.1.1 a b h1 h2
  · show (if a = zL r + 1 then zI r 26 b else zI r a b) = _
    rw [if_neg (by omega)]; exact h.1.2.1 a b h1 h2
  · show (if 2 = zL r + 1 then zI r 26 j else zI r 2 j) = _
    rw [if_neg (by omega)]; exact h.2 j
theorem K_hole (S : Sh s) (a0 a1 : Int32) : Pc (f_X11_hole s a0 a1) (fun x => mR s x.2) := by
  have R : mR s s := mR.rf
  have hL := S.1
  unfold f_X11_hole
  refine Pc_if (fun _ => Pc_some R) (fun _ => Pc_if (fun _ => Pc_some R) (fun _ => Pc_if (fun _ => Pc_some R) (fun _ => Pc_vl (Pc_vl (Pc_if (fun _ => Pc_if (fun _ => Pc_some R) (fun _ => Pc_bd ?_)) (fun _ => Pc_some R))))))
  unfold f_X0_addedHole
  have A : Pc (f_X0_added s a0) (fun x => mR s x.2 ∧ 126 ≤ zL x.2) := by
    unfold f_X0_added
    exact Pc_if (fun _ => Pc_vl (Pc_gd (fun _ => Pc_st (Pc_vl (Pc_st (Pc_some ⟨(R.wI (Or.inl (by omega)) (by omega)).wS (Or.inl (by omega)), hL⟩)))))) (fun _ => Pc_some ⟨R, hL⟩)
  exact Pc_bd (Pc.mono A (fun x hx => Pc_if (fun _ => Pc_some (Pc_some hx.1)) (fun _ => Pc_gd (fun _ => Pc_st (Pc_vl (Pc_st (Pc_some (Pc_some ((hx.1.nh hx.2).wS (Or.inl (by omega)))))))))))
theorem K_map (S : Sh s) (a0 a1 : Int32) : Pc (f_X11_map s a0 a1) (fun x => mR s x.2) := by
  have R : mR s s := mR.rf
  have hL := S.1
  unfold f_X11_map
  exact Pc_b1x (fun _ => Pc_if (fun _ => Pc_some R) (fun _ => Pc_b1x (fun _ => Pc_if (fun _ => Pc_some R) (fun _ => Pc_if (fun _ => Pc_vl (Pc_gd (fun _ => Pc_st (Pc_vl (Pc_st (Pc_some ((R.nm hL).wS (Or.inl (by omega))))))))) (fun _ => Pc_some R)))))
theorem K_textX (S : Sh s) (T : TP s s) (hr : 0 ≤ (zS s 59 38).toInt ∧ (zS s 59 38).toInt ≤ 16) (e8 : zS s 0 8 = zS s 59 38) (a0 a1 : Int32) : Pc (f_X11_text s a0 a1) (fun x => mR s x.2) := by
  have R : mR s s := mR.rf
  have j16 : (16 : Int32).toInt = 16 := rfl
  unfold f_X11_text
  refine Pc_b1x (fun _ => Pc_if (fun _ => Pc_some R) (fun _ => Pc_if (fun _ => Pc_some R) (fun _ => Pc_if (fun _ => Pc_some R) (fun _ => Pc_lt (fun f => ?_) (fun _ => Pc_some R)))))
  rw [e8, j16] at f
  obtain ⟨fx, s6, t', ec, eQ, PX, PR, O⟩ := comp_l WoE T ⟨hr.1, by omega⟩ a0 a1 (fun u => some (0, u))
  rw [ec]
  have R6 : mR s s6 := ⟨⟨fun q k h1 h2 => PX.1 q k (by omega), fun q i h1 h2 => PX.2.1 q i (by omega), fun q i _ _ => by unfold zJ; rw [PX.2.2]⟩, fun j => PX.2.1 2 j (by omega)⟩
  have R7 : mR s (pS s6 24 1 0) := R6.wS (Or.inl (by omega))
  have l7 : 126 ≤ zL (pS s6 24 1 0) := by
    have : zL (pS s6 24 1 0) = zL s := by
      show s6.2.2.2.2.2.2 = s.2.2.2.2.2.2
      rw [PX.2.2]
    rw [this]; exact S.1
  refine Pc_bdS (Pc_st (Pc_if (fun _ => Pc_vl (Pc_gd (fun _ => Pc_gd (fun _ => Pc_st (Pc_vl (Pc_st (Pc_some ((R7.nt l7).wS (Or.inl (by omega))))))))) ) (fun _ => Pc_some R7)))
theorem K_hiv : ∀ (n : Nat) (r : SS) (x y : Int32), Iv r → Pc (f_X11_hours_L27 y n r x) (fun u => Iv u.2)
  | 0, _, _, _, _ => Pc_none
  | n + 1, r, x, y, I => by
    show Pc (f_X11_hours_L27_b y (f_X11_hours_L27 y n) r x) _
    unfold f_X11_hours_L27_b
    refine Pc_if (fun _ => Pc_b1 (fun u eu => Pc_vl (K_hiv n u _ y ?_))) (fun _ => Pc_some I)
    obtain ⟨u', eu', I', _⟩ := hourX I
    rw [eu] at eu'
    rw [Option.some.inj eu']
    exact I'
theorem K_hoursI (I : Iv s) (a : Int32) : Pc (f_X11_hours s a) (fun x => Iv x.2) := by
  unfold f_X11_hours
  exact Pc_if (fun _ => Pc_some I) (fun _ => Pc_if (fun _ => Pc_some I) (fun _ => Pc_if (fun _ => Pc_some I) (fun _ => K_hiv 4000 s 0 a I)))
end KOs
/-! the reference's text: what it leaves alone -/
section KFs
variable {b s t : SS}
def KF (b s : SS) : Prop := (∀ q k, ¬ (q = 59 ∧ 47 ≤ k ∧ k ≤ 51) → zS s q k = zS b q k) ∧ (∀ q i, q < 90 ∨ 94 < q → zI s q i = zI b q i) ∧ s.2.2 = b.2.2
theorem KF.rf : KF b b := ⟨fun _ _ _ => rfl, fun _ _ _ => rfl, rfl⟩
theorem KF.wS {k : Nat} {v : Int32} (h : KF b s) (hk : 47 ≤ k ∧ k ≤ 51) : KF b (pS s 59 k v) := ⟨fun q j w => by rw [zS_pS, if_neg (by omega)]; exact h.1 q j w, h.2⟩
theorem KF.wI {q i : Nat} {v : Int32} (h : KF b s) (hq : 90 ≤ q ∧ q ≤ 94) : KF b (pI s q i v) := ⟨h.1, fun a j w => by rw [zI_pI, if_neg (by omega)]; exact h.2.1 a j w, h.2.2⟩
theorem KF.k : rdK (KF b) := by
  refine ⟨fun s k v hk h => h.wS (by omega), fun s a c h => ?_⟩
  unfold f_X12_lay
  exact Pc_vl (Pc_gd (fun _ => Pc_st (Pc_vl (Pc_gd (fun _ => Pc_st (Pc_vl (Pc_st (Pc_some (((h.wI (by omega)).wI (by omega)).wS (by omega))))))))))
theorem KF.line (h : KF b s) : Pc (f_X12_readLine s) (KF b) := by
  unfold f_X12_readLine
  refine Pc_vl (Pc_gd (fun _ => Pc_vl (Pc_vl (Pc_b1 (Pc.mono (K_eith (P := KF b) KF.k (K_operand KF.k 12) h) (fun s5 h5 => Pc_gd (fun _ => Pc_st (Pc_jnS (P := KF b) (fun s8 h8 => ?_) (fun k hk => Pc_if (fun _ => Pc_b1x (fun _ => Pc_if (fun _ => Pc_vl (Pc_st (Pc_vl (Pc_gd (fun _ => Pc_st (Pc_b1 ?_)))))) (fun _ => hk _ (h5.wI (by omega))))) (fun _ => hk _ (h5.wI (by omega)))))))))))) 
  · exact Pc_vl (Pc_gd (fun _ => Pc_st (Pc_vl (Pc_gd (fun _ => Pc_vl (Pc_vl (Pc_gd (fun _ => Pc_st (Pc_some ((h8.wI (by omega)).wI (by omega)))))))))))
  · exact Pc.mono (K_eith (P := KF b) KF.k (K_operand KF.k 12) (((h5.wI (by omega)).wS (by omega)).wI (by omega))) (fun u hu => hk u hu)
theorem KF.txt {q0 : SS → Option (Int32 × SS)} {y1 y2 : Int32} {R : Int32 × SS → Prop} (hq : ∀ u, KF b u → Pc (q0 u) R) : ∀ (n : Nat) (s : SS), KF b s → Pc (f_X12_text_L77 q0 y1 y2 n s) R
  | 0, _, _ => Pc_none
  | n + 1, s, h => by
    show Pc (f_X12_text_L77_b q0 y1 y2 (f_X12_text_L77 q0 y1 y2 n) s) _
    unfold f_X12_text_L77_b
    exact Pc_if (fun _ => Pc_b1x (fun _ => Pc_if (fun _ => Pc_vl (Pc_st (Pc_b1 (Pc.mono (KF.line (h.wS (by omega))) (fun u hu => KF.txt hq n u hu))))) (fun _ => hq s h))) (fun _ => hq s h)
def KT (b s : SS) : Prop := (∀ q k, ¬ (q = 59 ∧ (k = 37 ∨ k = 38 ∨ (47 ≤ k ∧ k ≤ 51))) → zS s q k = zS b q k) ∧ (∀ q i, q < 87 ∨ 94 < q → zI s q i = zI b q i) ∧ s.2.2 = b.2.2
theorem KF.kt (h : KF b s) : KT b s := ⟨fun q k w => h.1 q k (by omega), fun q i w => h.2.1 q i (by omega), h.2.2⟩
theorem KT.wS {k : Nat} {v : Int32} (h : KT b s) (hk : k = 37 ∨ k = 38) : KT b (pS s 59 k v) := ⟨fun q j w => by rw [zS_pS, if_neg (by omega)]; exact h.1 q j w, h.2⟩
theorem KT.wI {q i : Nat} {v : Int32} (h : KT b s) (hq : 87 ≤ q ∧ q ≤ 89) : KT b (pI s q i v) := ⟨h.1, fun a j w => by rw [zI_pI, if_neg (by omega)]; exact h.2.1 a j w, h.2.2⟩
theorem K_textM (a0 a1 : Int32) : Pc (f_X12_text t a0 a1) (fun m => KT t m.2) := by
  have R : KT t t := KF.rf.kt
  unfold f_X12_text
  refine Pc_b1x (fun _ => Pc_if (fun _ => Pc_some R) (fun _ => Pc_b1x (fun _ => Pc_if (fun _ => Pc_some R) (fun _ => Pc_if (fun _ => Pc_some R) (fun _ => ?_)))))
  refine Pc_vl (Pc_st (Pc_vl (Pc_gd (fun _ => Pc_st (Pc_st (Pc_st (Pc_st (Pc_st (Pc_b1 ?_)))))))))
  refine Pc.mono (KF.line (b := t) ((((((KF.rf.wS (by omega)).wI (by omega)).wS (by omega)).wS (by omega)).wS (by omega)).wS (by omega))) (fun u hu => KF.txt (b := t) (fun v hv => ?_) 4000 u hu)
  refine Pc_jnS (P := KF t) (fun w hw => Pc_st (Pc_if (fun _ => ?_) (fun _ => Pc_some (hw.kt.wS (by omega))))) (fun k hk => Pc_if (fun _ => Pc_if (fun _ => Pc_b1 (Pc.mono (K_fault KF.k hv) (fun w hw => hk w hw))) (fun _ => hk v hv)) (fun _ => hk v hv))
  exact Pc_vl (Pc_gd (fun _ => Pc_st (Pc_vl (Pc_vl (Pc_gd (fun _ => Pc_st (Pc_vl (Pc_gd (fun _ => Pc_st (Pc_vl (Pc_st (Pc_some (((((hw.kt.wS (by omega)).wI (by omega)).wI (by omega)).wI (by omega)).wS (by omega))))))))))))))
end KFs
/-! ranges: the methods that write them -/
section RXs
variable {s t : SS}
theorem N_hard (h : ∀ j, 0 ≤ (zI s 2 j).toInt ∧ (zI s 2 j).toInt ≤ 9) (a0 a1 : Int32) : Pc (f_X11_hard s a0 a1) (fun x => ∀ j, 0 ≤ (zI x.2 2 j).toInt ∧ (zI x.2 2 j).toInt ≤ 9) := by
  have j9 : (9 : Int32).toInt = 9 := rfl
  unfold f_X11_hard
  refine Pc_b1x (fun r1 => Pc_if (fun _ => Pc_some h) (fun _ => Pc_lt (fun _ => Pc_some h) (fun l => Pc_lt (fun _ => Pc_some h) (fun u => Pc_gd (fun _ => Pc_vl (Pc_gd (fun _ => Pc_st (Pc_some (fun j => ?_)))))))))
  show 0 ≤ (zI (pI s 2 r1.toInt.toNat a1) 2 j).toInt ∧ (zI (pI s 2 r1.toInt.toNat a1) 2 j).toInt ≤ 9
  rw [jl1] at l
  rw [j9] at u
  rw [zI_pI]
  by_cases z : 2 = 2 ∧ j = r1.toInt.toNat
  · rw [if_pos z]; omega
  · rw [if_neg z]; exact h j
theorem N_speed (h : ∀ m, m < 3 → 0 ≤ (zI t 78 m).toInt ∧ (zI t 78 m).toInt ≤ 60) (a0 a1 : Int32) : Pc (f_X12_speed t a0 a1) (fun x => ∀ m, m < 3 → 0 ≤ (zI x.2 78 m).toInt ∧ (zI x.2 78 m).toInt ≤ 60) := by
  have j10 : (10 : Int32).toInt = 10 := rfl
  have j60 : (60 : Int32).toInt = 60 := rfl
  unfold f_X12_speed
  refine Pc_b1x (fun _ => Pc_if (fun _ => Pc_some h) (fun _ => ?_))
  by_cases c : (10 : Int32).toInt ≤ a1.toInt ∧ a1.toInt ≤ (60 : Int32).toInt
  · rw [in_t c]
    rw [j10, j60] at c
    refine Pc_b1S (Pc_if10 (Pc_gd (fun _ => Pc_vl (Pc_gd (fun _ => Pc_st (Pc_some (fun m hm => ?_)))))))
    show 0 ≤ (zI (pI t 78 a0.toInt.toNat a1) 78 m).toInt ∧ (zI (pI t 78 a0.toInt.toNat a1) 78 m).toInt ≤ 60
    rw [zI_pI]
    by_cases z : 78 = 78 ∧ m = a0.toInt.toNat
    · rw [if_pos z]; omega
    · rw [if_neg z]; exact h m hm
  · rw [in_f c]
    exact Pc_b1S (Pc_if00 (Pc_some h))
theorem N_breaks (h : ∀ m, m < 3 → (zI t 80 m).toInt ≤ 1699) (a0 a1 : Int32) : Pc (f_X12_breaks t a0 a1) (fun x => ∀ m, m < 3 → (zI x.2 80 m).toInt ≤ 1699) := by
  unfold f_X12_breaks
  refine Pc_b1x (fun _ => Pc_if (fun _ => Pc_some h) (fun _ => ?_))
  by_cases c : (zS t 59 1).toInt ≤ a1.toInt ∧ a1.toInt ≤ (1699 : Int32).toInt
  · rw [in_t c]
    rw [jl1699] at c
    refine Pc_b1S (Pc_if10 (Pc_gd (fun _ => Pc_st (Pc_some (fun m hm => ?_)))))
    show (zI (pI t 80 a0.toInt.toNat a1) 80 m).toInt ≤ 1699
    rw [zI_pI]
    by_cases z : 80 = 80 ∧ m = a0.toInt.toNat
    · rw [if_pos z]; omega
    · rw [if_neg z]; exact h m hm
  · rw [in_f c]
    exact Pc_b1S (Pc_if00 (Pc_some h))
theorem N_spread (h : 0 ≤ (zS t 59 29).toInt ∧ (zS t 59 29).toInt ≤ 8) (a0 : Int32) : Pc (f_X12_spread t a0) (fun x => 0 ≤ (zS x.2 59 29).toInt ∧ (zS x.2 59 29).toInt ≤ 8) := by
  have j8 : (8 : Int32).toInt = 8 := rfl
  unfold f_X12_spread
  by_cases c : (0 : Int32).toInt ≤ a0.toInt ∧ a0.toInt ≤ (8 : Int32).toInt
  · rw [in_t c]
    rw [jl0, j8] at c
    exact Pc_b1S (Pc_if10 (Pc_vl (Pc_st (Pc_some c))))
  · rw [in_f c]
    exact Pc_b1S (Pc_if00 (Pc_some h))
theorem N_hole (h : ∀ n, 0 ≤ (zI t 63 n).toInt ∧ (zI t 63 n).toInt ≤ 31) (a0 a1 : Int32) : Pc (f_X12_hole t a0 a1) (fun x => ∀ n, 0 ≤ (zI x.2 63 n).toInt ∧ (zI x.2 63 n).toInt ≤ 31) := by
  have j32 : (32 : Int32).toInt = 32 := rfl
  unfold f_X12_hole
  refine Pc_b1x (fun _ => Pc_if (fun _ => Pc_some h) (fun _ => Pc_lt (fun _ => Pc_some h) (fun l => Pc_lt (fun u => Pc_if (fun _ => Pc_some h) (fun _ => Pc_if (fun _ => Pc_some h) (fun _ => Pc_bd ?_))) (fun _ => Pc_some h))))
  rw [jl0] at l
  rw [j32, d100 l] at u
  refine Pc.mono (v_X12_add (WS := [(59, 4)]) (WI := [62]) (WJ := []) (b := t) rfl rfl Frm.rf) (fun x F => Pc_vl (Pc_gd (fun _ => Pc_st (Pc_vl (Pc_gd (fun _ => Pc_st (Pc_vl (Pc_gd (fun _ => Pc_st (Pc_some (fun n => ?_)))))))))))
  show 0 ≤ (zI (pI (pI (pI x.2 63 x.1.toInt.toNat (a1 / 100)) 65 x.1.toInt.toNat (a1 / 100)) 64 x.1.toInt.toNat (a1 % 100)) 63 n).toInt ∧ (zI (pI (pI (pI x.2 63 x.1.toInt.toNat (a1 / 100)) 65 x.1.toInt.toNat (a1 / 100)) 64 x.1.toInt.toNat (a1 % 100)) 63 n).toInt ≤ 31
  rw [zI_pI, if_neg (by omega), zI_pI, if_neg (by omega), zI_pI]
  by_cases z : 63 = 63 ∧ n = x.1.toInt.toNat
  · rw [if_pos z, d100 l]; omega
  · rw [if_neg z, F.2.1 63 n rfl]; exact h n
end RXs
/-! THE FRESH STATE, all relations -/
theorem z32 : (0 : Int32).toInt = 0 := rfl
theorem ySum_0f {f : Nat → Int} (h : ∀ i, f i = 0) (n : Nat) : ySum f n = 0 := by
  induction n with
  | zero => rfl
  | succ n ih =>
    show ySum f n + f n = 0
    rw [ih, h n]
    rfl
theorem Q4_fr : Q4 sFr sFr := by
  have i0 : ∀ i : Nat, ¬ (i : Int) < (0 : Int32).toInt := fun i => by rw [z32]; omega
  refine ⟨⟨fun i p _ e => (by cases e), fun i _ _ => ⟨rfl, rfl, rfl, rfl, rfl, fun y _ _ => ⟨rfl, rfl, rfl, ?_⟩⟩, fun i j p _ _ e => (by cases e), fun i _ => ?_⟩, ⟨fun i _ => ⟨rfl, rfl, rfl, Or.inl rfl, fun z => ?_⟩, ?_⟩, ⟨?_, ?_, ?_⟩, Or.inl ⟨rfl, fun i _ => ?_⟩, ⟨rfl, rfl, rfl, fun _ => rfl, fun i _ h => absurd h (i0 i)⟩, ⟨rfl, rfl, rfl, rfl, fun z => ?_⟩, fun i hi => ?_, Or.inl ⟨rfl, rfl⟩, ⟨fun i _ => Or.inl rfl, fun i j _ _ _ z => ?_⟩, ⟨fun i _ h => absurd h (i0 i), fun i _ _ => rfl, fun i j p _ _ e => (by cases e)⟩, fun i _ h => absurd h (i0 i), ⟨fun _ => Or.inl rfl, fun i _ h => ?_⟩, fun i _ => ?_⟩
  · show (0 : Int32) ≠ -2000000000
    decide
  · show 0 ≤ (0 : Int32).toInt ∧ (0 : Int32).toInt ≤ 1700
    decide
  · have z' : (0 : Int32) = 1 := z
    exact absurd z' (by decide)
  · exact (ySum_0f (fun _ => rfl) 120).symm
  · exact (ySum_0f (fun _ => rfl) 120).symm
  · refine (ySum_0f (fun i => ?_) 120).symm
    show (if 0 < (0 : Int32).toInt then (1 : Int) else 0) = 0
    rw [if_neg (by decide)]
  · refine (ySum_0f (fun i => ?_) 120).symm
    show (if (none : Option Nat) = none then (0 : Int) else 1) = 0
    rw [if_pos rfl]
  · show ¬ 0 < (0 : Int32).toInt
    decide
  · have z' : 0 ≤ (-1 : Int32).toInt := z
    exact absurd z' (by decide)
  · have h : i = 0 ∨ i = 1 ∨ i = 2 := by omega
    rcases h with rfl | rfl | rfl <;> rfl
  · have z' : 0 ≤ (-1 : Int32).toInt := z
    exact absurd z' (by decide)
  · have h' : (-1 : Int32) = -5 ∨ (-1 : Int32) = -6 := h
    rcases h' with z | z <;> exact absurd z (by decide)
  · show 0 ≤ (0 : Int32).toInt ∧ (0 : Int32).toInt ≤ 60 * (0 : Int32).toInt
    decide
theorem GW_fr : GW 0 sFr := by
  refine ⟨⟨GI_fr, Q4_fr⟩, ⟨⟨fun m _ => ?_, fun j => ?_⟩, ⟨fun j => ?_, ?_, fun n => ?_⟩, fun i _ => ?_, Or.inl rfl⟩, fun i _ => ?_⟩
  · show 0 ≤ (20 : Int32).toInt ∧ (20 : Int32).toInt ≤ 60
    decide
  · show 0 ≤ (3 : Int32).toInt ∧ (3 : Int32).toInt ≤ 9
    decide
  · show -9999 ≤ (0 : Int32).toInt ∧ (0 : Int32).toInt ≤ 9999
    decide
  · show 0 ≤ (2 : Int32).toInt ∧ (2 : Int32).toInt ≤ 8
    decide
  · show 0 ≤ (0 : Int32).toInt ∧ (0 : Int32).toInt ≤ 31
    decide
  · show (-1 : Int32).toInt ≤ 1699
    decide
  · show (0 : Int32).toInt ≤ 1699 + 9 * ((0 : Nat) : Int)
    decide
