/-! THE HOUR'S FIRST PART: the text in force, drilling -/
section DLs
variable {s s' t t' : SS}
/-- the relation with the things' hours above h, the minutes up to k hours -/
def Q4k (h k : Int) (s t : SS) : Prop := QHol s t ∧ QMen s t ∧ QCnt s t ∧ QFst s t ∧ QStoH h s t ∧ QRef s t ∧ QBrk s t ∧ QLif s t ∧ QSet s t ∧ QCha s t ∧ QTxt s t ∧ QRow t ∧ QKep k t
theorem Q4h.ci {h : Int} (Q : Q4h h s t) (B : B1 s t) : CI s := by
  obtain ⟨H, _, C, _⟩ := Q
  refine ⟨B.1.sh, B.1.tot.2.2, H.2.2.1, fun i p hi hp => ?_, C.1.trans (ySum_c fun i hi => ?_), C.2.1.trans (ySum_c fun i hi => ?_)⟩
  · have o := B.1.sh.2.2.1 i p hi hp
    refine ⟨B.1.h4 o, (B.1.h3 o).2, ?_⟩
    rw [(H.1 i p hi hp).2.2.2.2.2.2.1]
    by_cases z : 0 < (zI t 69 i).toInt
    · rw [if_pos z]; exact Or.inr rfl
    · rw [if_neg z]; exact Or.inl rfl
  · cases e : zR s 17 i with
    | none =>
      have := (H.2.1 i hi e).2.1
      unfold cb
      rw [e, this]
      rfl
    | some p => rw [cb_t e, (H.1 i p hi e).2.2.2.2.1]
  · cases e : zR s 17 i with
    | none =>
      have := (H.2.1 i hi e).2.2.2.1
      unfold ct
      rw [e, this]
      rfl
    | some p =>
      rw [ct_t e, (H.1 i p hi e).2.2.2.2.2.2.1]
      by_cases z : 0 < (zI t 69 i).toInt
      · rw [if_pos z, if_pos z]; rfl
      · rw [if_neg z, if_neg z]; rfl
theorem dSm.rf : dSm s s := ⟨fun _ _ _ _ => rfl, fun _ _ _ _ => rfl⟩
theorem cL.T (h : cL s s') (a : Nat) : zT s' a = zT s a := by unfold zT; rw [h.2.2]
theorem dSm.tr {r : SS} (L : cL s s') (h : dSm s s') (g : dSm s' r) : dSm s r := ⟨fun q k a b => (g.1 q k a (by rw [L.T]; exact b)).trans (h.1 q k a b), fun q j a b => (g.2 q j a (by rw [L.T]; exact b)).trans (h.2 q j a b)⟩
theorem mSt.d {m : Nat} (C : CI s) (h : mSt m s s') : dSm s s' := by
  obtain ⟨_, d⟩ := h.ci C
  rcases d with ⟨_, e⟩ | ⟨p, ha, M⟩
  · rw [e]; exact dSm.rf
  · exact M.1.d (act_o C ha)
theorem mw_d (C : CI s) : Pc (f_X11_machinesWork s) (fun s3 => dSm s s3) := by
  refine Pc.mono (mw_p C) (fun s3 h => ?_)
  obtain ⟨s1, s2, h0, h1, h2⟩ := h
  obtain ⟨C1, L1, _⟩ := h0.o C
  obtain ⟨C2, L2, _⟩ := h1.o C1
  exact dSm.tr (L1.tr L2) (dSm.tr L1 (h0.d C) (h1.d C1)) (h2.d C2)
/-- the others, behind a drilling hour -/
theorem Q4k.dr {h k k' : Int} (Q : Q4k h k s t) (S : Sh s) (b : (zS s 15 3).toInt ≤ 120) (L : cL s s') (d : dSm s s') (F : Frm [] [65, 67, 68, 69, 71, 95, 96, 99, 100] [] t t') (q1 : QHol s' t') (q2 : QCnt s' t') (q3 : QFst s' t') (q4 : QKep k' t') : Q4k h k' s' t' := by
  obtain ⟨_, M, _, _, T, R, K, Li, Se, Ch, Tx, Ro, _⟩ := Q
  have m : ∀ k, zS t' 59 k = zS t 59 k := fun k => F.1 59 k rfl
  have hN : ∀ q, 126 ≤ q → zN s' q = zN s q := fun q _ => by unfold zN; rw [L.2.2]
  refine ⟨q1, M.c (fun i => L.2.1 7 i (by omega)) (fun i => L.2.1 8 i (by omega)) (fun i => L.2.1 10 i (by omega)) (fun i => L.2.1 16 i (by omega)) (L.1 15 3 (by omega) (by omega)) (L.1 6 4 (by omega) (by omega)) (fun i => F.2.1 74 i rfl) (fun i => F.2.1 75 i rfl) (fun i => F.2.1 77 i rfl), q2, q3, T.d (fun k => L.1 30 k (by omega) (by omega)) (fun q i h1 h2 => L.2.1 q i (by omega)) (fun k _ => m k) (fun q i h1 h2 => F.2.1 q i ?_), R.c (fun k h1 h2 => L.1 15 k (by omega) (by omega)) (fun k _ _ => m k), K.c (fun i hi => L.1 (20 + i) 2 (by omega) (by omega)) (fun i => F.2.1 80 i rfl), Li.c (fun k h1 h2 => L.1 6 k (by omega) (by omega)) (fun i => L.2.1 13 i (by omega)) (fun k _ => m k) (fun i => F.2.1 116 i rfl) (fun i => F.2.1 118 i rfl), Se.c (by rw [L.1 15 3 (by omega) (by omega)]; exact Int.le_refl _) (fun i _ h => by rw [L.R]; exact h) b (fun i => F.2.1 79 i rfl), Ch.d S (L.1 0 5 (by omega) (by omega)) d (fun i => L.R 23 i) (fun q j h1 h2 => F.2.1 q j ?_), Tx.d S (L.1 0 8 (by omega) (by omega)) d (fun i => L.R 27 i) hN (fun q j h1 h2 => F.2.1 q j ?_), Ro.c (fun q i h => F.2.1 q i ?_) (fun i => F.2.2.1 122 i rfl), q4⟩
  · have : q = 102 ∨ q = 103 ∨ q = 105 := by omega
    rcases this with w | w | w <;> subst w <;> rfl
  · have : q = 81 ∨ q = 82 ∨ q = 83 ∨ q = 84 ∨ q = 85 := by omega
    rcases this with w | w | w | w | w <;> subst w <;> rfl
  · have : q = 87 ∨ q = 88 ∨ q = 89 ∨ q = 90 ∨ q = 91 ∨ q = 92 ∨ q = 93 ∨ q = 94 := by omega
    rcases this with w | w | w | w | w | w | w | w <;> subst w <;> rfl
  · rcases h with w | w <;> subst w <;> rfl
theorem B1.dr (B : B1 s t) (I : Iv s') (L : cL s s') (F : Frm [] [65, 67, 68, 69, 71, 95, 96, 99, 100] [] t t') : B1 s' t' := by
  obtain ⟨⟨⟨a1, a2, a3, a4, a5⟩, b, c, d, e, f, g, k⟩, ⟨t1, t2, t3, t4, t5⟩, kx, cx⟩ := B
  have m : ∀ k, zS t' 59 k = zS t 59 k := fun k => F.1 59 k rfl
  have l : ∀ q k, q < 126 → ¬ (q = 0 ∧ 16 ≤ k ∧ k ≤ 18) → zS s' q k = zS s q k := L.1
  refine ⟨⟨⟨?_, ?_, ?_, ?_, ?_⟩, fun i => ?_, fun i => ?_, fun i hi => ?_, fun i hi => ?_, I.1.1, fun q k h => I.1.2.1 q k (by omega), I.1.2.2.2.1⟩, ⟨?_, ?_, fun i => ?_, fun i => ?_, ?_⟩, fun x y h1 h2 h3 => ?_, fun i => ?_⟩
  · rw [l 15 3 (by omega) (by omega), m]; exact a1
  · rw [l 15 5 (by omega) (by omega), m]; exact a2
  · rw [l 0 5 (by omega) (by omega), m]; exact a3
  · rw [l 0 8 (by omega) (by omega), m]; exact a4
  · rw [l 0 15 (by omega) (by omega), m]; exact a5
  · rw [L.2.1 16 i (by omega), F.2.1 62 i rfl]; exact b i
  · rw [L.2.1 9 i (by omega), F.2.1 76 i rfl]; exact c i
  · rw [l (20 + i) 0 (by omega) (by omega), l (20 + i) 1 (by omega) (by omega), F.2.1 78 i rfl, F.2.1 79 i rfl]; exact d i hi
  · rw [L.R, l 15 3 (by omega) (by omega), L.2.1 16 i (by omega)]; exact e i hi
  · rw [l 0 14 (by omega) (by omega), m]; exact t1
  · rw [l 1 4 (by omega) (by omega), m]; exact t2
  · rw [L.2.1 4 i (by omega), F.2.1 97 i rfl]; exact t3 i
  · rw [L.2.1 5 i (by omega), F.2.1 98 i rfl]; exact t4 i
  · rw [l 0 14 (by omega) (by omega)]; exact t5
  · rw [L.2.1 2 _ (by omega), L.2.1 3 _ (by omega), F.2.1 60 _ rfl, F.2.1 61 _ rfl]; exact kx x y h1 h2 h3
  · rw [F.2.1 97 i rfl]; exact cx i
end DLs
