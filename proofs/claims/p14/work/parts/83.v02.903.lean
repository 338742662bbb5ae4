/-! THE OTHER RELATIONS, class cells of s and reference's cells of t -/
def B0 (s t : SS) : Prop := (zS s 15 3 = zS t 59 4 ∧ zS s 15 5 = zS t 59 21 ∧ zS s 0 5 = zS t 59 30 ∧ zS s 0 8 = zS t 59 38 ∧ zS s 0 15 = zS t 59 29) ∧ (∀ i, zI s 16 i = zI t 62 i) ∧ (∀ i, zI s 9 i = zI t 76 i) ∧ (∀ i, i < 3 → zS s (20 + i) 0 = zI t 78 i ∧ zS s (20 + i) 1 = zI t 79 i) ∧ RH s ∧ Sh s ∧ (∀ q k, q < 59 → bF q k (zS s q k)) ∧ (∀ q k, zT s q = 3 → bH k (zS s q k))
def B1 (s t : SS) : Prop := B0 s t ∧ RTx s t ∧ RKx s t ∧ ∀ i, cellOK (zI t 97 i)
section B0s
variable {s t : SS}
theorem B0.tot (B : B0 s t) : zS s 15 3 = zS t 59 4 ∧ 0 ≤ (zS s 15 3).toInt ∧ (zS s 15 3).toInt ≤ 120 := ⟨B.1.1, B.2.2.2.2.2.2.1 15 3 (by omega)⟩
theorem B0.sh (B : B0 s t) : Sh s := B.2.2.2.2.2.1
theorem B0.rh (B : B0 s t) : RH s := B.2.2.2.2.1
theorem B0.kd (B : B0 s t) (i : Nat) : zI s 16 i = zI t 62 i := B.2.1 i
theorem B0.fx (B : B0 s t) {q k : Nat} (h : q < 59) : bF q k (zS s q k) := B.2.2.2.2.2.2.1 q k h
theorem B0.h3 (B : B0 s t) {p : Nat} (o : okH s p) : 0 ≤ (zS s p 3).toInt ∧ (zS s p 3).toInt ≤ 60 := B.2.2.2.2.2.2.2 p 3 o.2.2.1
theorem B0.h4 (B : B0 s t) {p : Nat} (o : okH s p) : 0 ≤ (zS s p 4).toInt ∧ (zS s p 4).toInt ≤ 60 := B.2.2.2.2.2.2.2 p 4 o.2.2.1
theorem GI.B1 (G : GI s) : B1 s s := ⟨⟨⟨G.1.2.1.2.2.1, G.1.2.1.2.2.2.1, G.1.2.1.2.1, G.2.2.2.2.2, G.1.2.1.1⟩, G.1.2.2.1.2.1, G.1.2.2.1.2.2, G.1.2.2.2.1, G.1.2.2.2.2.1, G.1.1.1.1, fun q k h => G.1.1.1.2.1 q k (by omega), G.1.1.1.2.2.2.1⟩, G.2.1, G.2.2.1, fun i => G.1.1.1.2.2.1 97 i (by omega)⟩
end B0s
def clW (WS : List (Nat × Nat)) (WI WJ : List Nat) : Bool := WS.all (fun p => Nat.blt p.1 59) && WI.all (fun q => Nat.blt q 59) && WJ.all (fun q => Nat.blt q 59)
def moW (WS : List (Nat × Nat)) (WI WJ : List Nat) : Bool := WS.all (fun p => Nat.ble 59 p.1 && Nat.blt p.1 126) && WI.all (fun q => Nat.ble 59 q && Nat.blt q 126) && WJ.all (fun q => Nat.ble 59 q && Nat.blt q 126)
/-- the reference's cells as they were; the class's -/
def mSm (s r : SS) : Prop := (∀ q k, 59 ≤ q → q < 126 → zS r q k = zS s q k) ∧ (∀ q i, 59 ≤ q → q < 126 → zI r q i = zI s q i) ∧ ∀ q i, 59 ≤ q → q < 126 → zJ r q i = zJ s q i
def cSm (s r : SS) : Prop := (∀ q k, q < 59 ∨ 126 ≤ q → zS r q k = zS s q k) ∧ (∀ q i, q < 59 ∨ 126 ≤ q → zI r q i = zI s q i) ∧ r.2.2.2 = s.2.2.2
section SMs
variable {WS : List (Nat × Nat)} {WI WJ : List Nat} {s s1 r : SS}
theorem nct {α : Type} [BEq α] [LawfulBEq α] {L : List α} {x : α} {f : α → Bool} (h : L.all f = true) (hx : f x = false) : L.contains x = false := by
  cases e : L.contains x with
  | false => rfl
  | true =>
    have := List.all_eq_true.mp h x (List.contains_iff_mem.mp e)
    rw [hx] at this
    cases this
theorem Frm.ms (F : Frm WS WI WJ s r) (h : clW WS WI WJ = true) : mSm s r := by
  unfold clW at h
  simp only [Bool.and_eq_true] at h
  refine ⟨fun q k h1 _ => F.1 q k (nct h.1.1 ?_), fun q i h1 _ => F.2.1 q i (nct h.1.2 ?_), fun q i h1 _ => F.2.2.1 q i (nct h.2 ?_)⟩ <;>
  · cases e : Nat.blt q 59 with
    | false => rfl
    | true => have : q < 59 := by simpa using e
              omega
theorem Frm.cs (F : Frm WS WI WJ s r) (h : moW WS WI WJ = true) : cSm s r := by
  unfold moW at h
  simp only [Bool.and_eq_true] at h
  refine ⟨fun q k h1 => F.1 q k (nct h.1.1 ?_), fun q i h1 => F.2.1 q i (nct h.1.2 ?_), F.2.2.2⟩ <;>
  · cases e : (Nat.ble 59 q && Nat.blt q 126) with
    | false => first | exact e | rfl
    | true => simp only [Bool.and_eq_true] at e
              have a : 59 ≤ q := by simpa using e.1
              have b : q < 126 := by simpa using e.2
              omega
theorem mSm.rf : mSm s s := ⟨fun _ _ _ _ => rfl, fun _ _ _ _ => rfl, fun _ _ _ _ => rfl⟩
theorem cSm.rf : cSm s s := ⟨fun _ _ _ => rfl, fun _ _ _ => rfl, rfl⟩
theorem Q4.X {t : SS} (Q : Q4 s t) (S : Sh s) (b : (zS s 15 3).toInt ≤ 120) (m : mSm t s1) : Q4 s s1 := Q.c S rfl b (fun _ _ _ _ => rfl) (fun _ _ _ _ => rfl) (fun k _ => m.1 59 k (by omega) (by omega)) (fun q i _ h1 h2 => m.2.1 q i h1 h2) (fun i => m.2.2 122 i (by omega) (by omega))
theorem Q4.M {t : SS} (Q : Q4 s t) (S : Sh s) (b : (zS s 15 3).toInt ≤ 120) (m : cSm s r) : Q4 r t := Q.c S m.2.2 b (fun q k _ h => m.1 q k h) (fun q i _ h => m.2.1 q i h) (fun _ _ => rfl) (fun _ _ _ _ _ => rfl) (fun _ => rfl)
theorem B1.X {t : SS} (B : B1 s t) (m : mSm t s1) : B1 s s1 := by
  obtain ⟨⟨⟨a1, a2, a3, a4, a5⟩, b, c, d, e, f, g, k⟩, ⟨t1, t2, t3, t4, t5⟩, kx, cx⟩ := B
  have u : ∀ k, zS s1 59 k = zS t 59 k := fun k => m.1 59 k (by omega) (by omega)
  have v : ∀ q i, 59 ≤ q → q < 126 → zI s1 q i = zI t q i := fun q i h1 h2 => m.2.1 q i h1 h2
  refine ⟨⟨⟨by rw [u]; exact a1, by rw [u]; exact a2, by rw [u]; exact a3, by rw [u]; exact a4, by rw [u]; exact a5⟩, fun x => by rw [v 62 x (by omega) (by omega)]; exact b x, fun x => by rw [v 76 x (by omega) (by omega)]; exact c x, fun x hx => by rw [v 78 x (by omega) (by omega), v 79 x (by omega) (by omega)]; exact d x hx, e, f, g, k⟩, ⟨by rw [u]; exact t1, by rw [u]; exact t2, fun x => by rw [v 97 x (by omega) (by omega)]; exact t3 x, fun x => by rw [v 98 x (by omega) (by omega)]; exact t4 x, t5⟩, fun x y h1 h2 h3 => ?_, fun x => by rw [v 97 x (by omega) (by omega)]; exact cx x⟩
  rw [v 60 _ (by omega) (by omega), v 61 _ (by omega) (by omega)]
  exact kx x y h1 h2 h3
/-- from two states to one -/
theorem GQ.fin {s2 : SS} (G2 : GI s2) (h : Q4 s1 s2) (c : cSm s1 s2) (S : Sh s2) : GQ s2 := by
  have e : zS s1 15 3 = zS s2 15 3 := (c.1 15 3 (by omega)).symm
  exact ⟨G2, h.M (S.same (by rw [c.2.2]) (by rw [c.2.2])) (by rw [e]; exact (G2.1.1.f (q := 15) (k := 3) rfl : 0 ≤ (zS s2 15 3).toInt ∧ (zS s2 15 3).toInt ≤ 120).2) c⟩
end SMs
