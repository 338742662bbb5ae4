/-! LOG -/
section LKs
variable {s t s' t' : SS} {p n i : Nat}
theorem LSh_of (R : SR s i) (hi : i < 6) (m : mSm s t) (Qr : QRow t) (hb : 0 ≤ (zI s 121 i).toInt ∧ (zI s 121 i).toInt ≤ 60) (o : lgO s i) : LSh s t i := by
  have e0 : zI t 120 i = zI s 120 i := m.2.1 _ _ (by omega) (by omega)
  have e1 : zI t 121 i = zI s 121 i := m.2.1 _ _ (by omega) (by omega)
  have hq : 47 + 2 * i + 1 = 48 + 2 * i := by omega
  rcases R with ⟨h1, h2⟩ | ⟨h1, _⟩ | ⟨h1, h2, h3, h4, h5⟩
  · exact Or.inl ⟨h1, e0.trans h2⟩
  · rcases o with z | z
    · rw [h1] at z; exact absurd z (by decide)
    · have := z.1
      rw [h1] at this; exact absurd this (by decide)
  · have h56 : zI t 120 i = -5 ∨ zI t 120 i = -6 := by
      rw [e0, h2]
      rcases o with z | ⟨_, z | z⟩
      · rw [h1] at z; exact absurd z (by decide)
      · rw [z]; exact Or.inl (by decide)
      · rw [z]; exact Or.inr (by decide)
    refine Or.inr ⟨h1, ?_, by rw [e1]; exact h4, by rw [e1]; exact hb, fun j hj => ?_⟩
    · rcases h56 with z | z <;> rw [z] <;> decide
    · rw [hq]
      have e3 : zI t 123 (60 * i + j) = zI s 123 (60 * i + j) := m.2.1 _ _ (by omega) (by omega)
      have e2 : zJ t 122 (60 * i + j) = zJ s 122 (60 * i + j) := m.2.2 _ _ (by omega) (by omega)
      rcases h5 j hj with ⟨u1, u2⟩ | ⟨u1, u2⟩
      · have z3 : zI t 123 (60 * i + j) = 0 := e3.trans u1
        exact Or.inl ⟨z3, by rw [e2]; exact u2, Qr.2 i hi h56 j hj z3⟩
      · exact Or.inr ⟨e3.trans u1, u2⟩
theorem Q4.lg (Q : Q4 s t) (S : Sh s) (b3 : (zS s 15 3).toInt ≤ 120) (hn : n < 120) (hp : zR s 17 n = some p) (L : LG s t p n s' t') : Q4 s' t' := by
  obtain ⟨⟨a1, a2, a3⟩, ⟨b1, b2, b3', b4⟩, c, g⟩ := L
  have o := S.2.2.1 n p hn hp
  have W : hW p s s' := ⟨fun q k _ _ => a1 q k, fun q j _ _ _ h => a2 q j h, congrArg Prod.snd a3⟩
  have sI : ∀ q j, q < 126 → zI s' q j = zI s q j := fun q j h => a2 q j (by have := o.1; omega)
  obtain ⟨Q1, Q2, Q3, Q5, Q6, Q7, Q8, Q9, Q10, Q11, Q12, Q13, Q14⟩ := Q
  obtain ⟨x0, x1, x2, x3, x4, x5, x6, x7, x8⟩ := Q1.1 n p hn hp
  refine ⟨Q1.up S hn hp W b1.v ?_ (by rw [b4 69 n (by omega) (by omega)]; exact Q1.2.2.2 n hn), Q2.c (fun i => sI 7 i (by omega)) (fun i => sI 8 i (by omega)) (fun i => sI 10 i (by omega)) (fun i => sI 16 i (by omega)) (a1 15 3) (a1 6 4) (fun i => b4 74 i (by omega) (by omega)) (fun i => b4 75 i (by omega) (by omega)) (fun i => b4 77 i (by omega) (by omega)), Q3.c (fun k _ => a1 0 k) (a1 15 4) (W.R 17) (fun i => b4 67 i (by omega) (by omega)) (fun i => b4 69 i (by omega) (by omega)), Q5.c (a1 0 18) (a1 0 14) (fun i => b4 69 i (by omega) (by omega)), Q6.c (fun k => a1 30 k) (a1 0 14) (fun q i _ h => sI q i (by omega)) (fun k _ => b2 59 k) (fun q i h1 h2 => b4 q i (by omega) (by omega)), Q7.c (fun k _ _ => a1 15 k) (fun k _ _ => b2 59 k), Q8.c (fun i hi => a1 _ _) (fun i => b4 80 i (by omega) (by omega)), Q9.c (fun k _ _ => a1 6 k) (fun i => sI 13 i (by omega)) (fun k _ => b2 59 k) (fun i => b4 116 i (by omega) (by omega)) (fun i => b4 118 i (by omega) (by omega)), Q10.c (by rw [a1]; exact Int.le_refl _) (fun i _ h => by rw [W.R]; exact h) b3 (fun i => b4 79 i (by omega) (by omega)), Q11.d S (a1 0 5) (W.d o) (W.R 23) (fun q j h1 h2 => b4 q j (by omega) (by omega)), Q12.d S (a1 0 8) (W.d o) (W.R 27) (fun q _ => W.N q) (fun q j h1 h2 => b4 q j (by omega) (by omega)), Q13.c (fun q i h => b4 q i (by omega) (by omega)) (fun i => by unfold zJ; rw [b3']), Q14.c (a1 0 14) (fun i => b4 68 i (by omega) (by omega))⟩
  refine ⟨by rw [a1, b4 63 _ (by omega) (by omega)]; exact x0, by rw [a1, b4 64 _ (by omega) (by omega)]; exact x1, by rw [a1, b4 65 _ (by omega) (by omega)]; exact x2, by rw [a1, b4 66 _ (by omega) (by omega)]; exact x3, by rw [a1, b4 67 _ (by omega) (by omega)]; exact x4, by rw [a1, b4 68 _ (by omega) (by omega)]; exact x5, by rw [a1, b4 69 _ (by omega) (by omega)]; exact x6, by rw [a1, b4 104 _ (by omega) (by omega)]; exact x7, fun y y1 y2 => ?_⟩
  obtain ⟨w1, w2, _, _⟩ := x8 y y1 y2
  exact ⟨by rw [a2 (p + 1) y (by omega), b4 70 _ (by omega) (by omega)]; exact w1, by rw [a2 (p + 2) y (by omega), b4 71 _ (by omega) (by omega)]; exact w2, c y y1 y2, sml (g _)⟩
theorem L_log (G : GI s) (mm : mSm s t) (B : B1 s t) (Q : Q4 s t) (N : QLgs t) (a0 a1 a2 a3 a4 : Int32) : Pc (f_X11_log s a0 a1 a2 a3 a4) fun x => Pc (f_X12_log t a0 a1 a2 a3 a4) fun m => Q4 x.2 m.2 ∧ QLgs m.2 := by
  have j60 : (60 : Int32).toInt = 60 := rfl
  have j5 : (5 : Int32).toInt = 5 := rfl
  unfold f_X11_log f_X12_log
  rw [holeOfX B, isHoleO B]
  have b := B.1.tot
  by_cases c : hO s a0 = none
  · rw [c, if_pos rfl]
    exact Pc_b1S (Pc_onN (Pc_b1x (fun _ => Pc_on (fun _ => Pc_some (Pc_b1S (Pc_if00 (Pc_some ⟨Q, N⟩)))) (fun _ _ => Pc_some (Pc_b1S (Pc_if00 (Pc_some ⟨Q, N⟩)))))))
  rw [if_neg c]
  unfold hO at c ⊢
  by_cases d : 0 ≤ a0.toInt ∧ a0.toInt < (zS s 15 3).toInt
  · rw [if_pos d] at c ⊢
    cases hp : zR s 17 a0.toInt.toNat with
    | none => exact absurd hp c
    | some p =>
    have hn : a0.toInt.toNat < 120 := by omega
    have S := B.1.sh
    have o := S.2.2.1 _ _ hn hp
    refine Pc_b1S (Pc_onS ?_)
    by_cases e : 0 ≤ a1.toInt ∧ a1.toInt < 6
    · have ms : f_X12_isShelf a1 = some 1 := by
        unfold f_X12_isShelf
        rw [in_t (by rw [jl0, j5]; omega), b1_some]
      rw [shelf_t G.1.1 e, ms]
      refine Pc_b1S (Pc_onS ?_)
      obtain ⟨i, ei⟩ : ∃ i, i = a1.toInt.toNat := ⟨_, rfl⟩
      have hi : i < 6 := by omega
      rw [← ei]
      have SRi : SR s i := G.1.2.2.2.2.2 i hi
      have R1 := (lgO_M SRi).1
      by_cases y1 : 1 ≤ a3.toInt ∧ a3.toInt ≤ 60
      · rw [yard_t y1, in_t (a := a3) (by rw [jl1, j60]; exact y1)]
        refine Pc_b1S (Pc_if10 ?_)
        by_cases y2 : 1 ≤ a4.toInt ∧ a4.toInt ≤ 60
        · rw [in_t (a := a4) (by rw [jl1, j60]; exact y2)]
          refine Pc_iff (by rw [jlt, jl1]; omega) (Pc_iff (by rw [jlt, j60]; omega) ?_)
          have e120 : zI t 120 i = zI s 120 i := mm.2.1 _ _ (by omega) (by omega)
          -- the reference's end
          have mdl : ∀ (K : Option (Int32 × SS)) (R : Int32 × SS → Prop), (lgO s i → Pc K R) → (¬ lgO s i → R (-12, t)) → Pc (b1 (some (1 : Int32)) fun r1 => (if r1 = (0 : Int32) then some ((-1), t) else (b1 (some (1 : Int32)) fun r3 => (if r3 = (0 : Int32) then some ((-1), t) else (b1 (some (1 : Int32)) fun r5 => (if r5 = (0 : Int32) then some ((-1), t) else (b1 (some (1 : Int32)) fun r7 => (if r7 = (0 : Int32) then some ((-1), t) else (gd (inB a1 6) (jn K fun k11 => (if (zI t 120 i) = ((-1) : Int32) then k11 else (b1 (f_X12_isReals t a1) fun r48 => (if r48 = (0 : Int32) then some ((-12), t) else k11))))))))))))) R := by
            intro K R h1 h2
            refine Pc_b1S (Pc_if10 (Pc_b1S (Pc_if10 (Pc_b1S (Pc_if10 (Pc_b1S (Pc_if10 (Pc_gd (fun _ => Pc_jn ?_)))))))))
            refine Pc_if (fun z => h1 (R1.2 (Or.inl (e120.symm.trans z)))) (fun z => Pc_b1 (Pc.mono (reals_p a1) (fun r hr => ?_)))
            rw [← ei, e120] at hr
            rcases hr with ⟨hr, w⟩ | ⟨hr, w⟩
            · rw [hr]
              exact Pc_if10 (h1 (R1.2 (Or.inr w)))
            · rw [hr]
              refine Pc_if00 (Pc_some (h2 (fun z' => ?_)))
              rcases R1.1 z' with v | v
              · exact z (e120.trans v)
              · exact w v
          by_cases og : lgO s i
          · have hd1 : ¬ zS s (47 + 2 * i) 0 = 1 := by
              rcases og with z | z
              · rw [z]; decide
              · rw [z.1]; decide
            refine Pc_iff hd1 (Pc_jn0 ?_ (fun k hk => Pc_if (fun z => Pc_b1 ?_) (fun _ => hk)))
            · unfold f_X3_logged
              have L0 : LG s t p a0.toInt.toNat s t := ⟨⟨fun _ _ => rfl, fun _ _ _ => rfl, rfl⟩, ⟨mW.rf, fun _ _ => rfl, rfl, fun _ _ _ _ => rfl⟩, fun y h1 h2 => ((Q.1.1 _ _ hn hp).2.2.2.2.2.2.2.2 y h1 h2).2.2.1, N⟩
              have V : LSh s t i := LSh_of SRi hi mm Q.2.2.2.2.2.2.2.2.2.2.2.1 (G.1.1.1.a (q := 121) rfl) og
              refine Pc_bd (Pc.mono (lg_l (y2 := a2) (y4 := a4) (n := a0.toInt.toNat) (a0 := a0) (a1 := a1) (by omega) hn (by omega) hi y1 y2.2 o.1 V 4000 4000 s t 0 L0 (by decide)) (fun a ha => Pc_some ?_))
              exact mdl _ _ (fun _ => Pc.mono ha (fun u L => ⟨Q.lg S b.2.2 hn hp L, L.2.2.2⟩)) (fun z => absurd og z)
            · unfold f_X8_isReal
              refine Pc_ift z (Pc_if (fun _ => Pc_some (Pc_if10 hk)) (fun w => Pc_if (fun _ => Pc_some (Pc_if10 hk)) (fun w' => ?_)))
              exfalso
              rcases og with v | ⟨_, v | v⟩
              · rw [z] at v; exact absurd v (by decide)
              · exact w v
              · exact w' v
          · refine Pc_if (fun _ => Pc_some (mdl _ _ (fun z => absurd z og) (fun _ => ⟨Q, N⟩))) (fun n1 => Pc_jn ?_)
            have n0 : ¬ zS s (47 + 2 * i) 0 = 0 := fun z => og (Or.inl z)
            have z2 : zS s (47 + 2 * i) 0 = 2 := by
              rcases SRi with h | h | h
              · exact absurd h.1 n0
              · exact absurd h.1 n1
              · exact h.1
            refine Pc_ift z2 (Pc_b1 ?_)
            unfold f_X8_isReal
            exact Pc_ift z2 (Pc_iff (fun z => og (Or.inr ⟨z2, Or.inl z⟩)) (Pc_iff (fun z => og (Or.inr ⟨z2, Or.inr z⟩)) (Pc_some (Pc_if00 (Pc_some (mdl _ _ (fun z => absurd z og) (fun _ => ⟨Q, N⟩)))))))
        · rw [in_f (a := a4) (by rw [jl1, j60]; exact y2)]
          have M : ∀ K : Option (Int32 × SS), Pc (b1 (some (1 : Int32)) fun r1 => (if r1 = (0 : Int32) then some ((-1), t) else (b1 (some (1 : Int32)) fun r3 => (if r3 = (0 : Int32) then some ((-1), t) else (b1 (some (1 : Int32)) fun r5 => (if r5 = (0 : Int32) then some ((-1), t) else (b1 (some (0 : Int32)) fun r7 => (if r7 = (0 : Int32) then some ((-1), t) else K)))))))) (fun m => Q4 s m.2 ∧ QLgs m.2) := fun K => Pc_b1S (Pc_if10 (Pc_b1S (Pc_if10 (Pc_b1S (Pc_if10 (Pc_b1S (Pc_if00 (Pc_some ⟨Q, N⟩))))))))
          refine Pc_lt (fun _ => Pc_some (M _)) (fun z => Pc_lt (fun _ => Pc_some (M _)) (fun w => ?_))
          rw [jl1] at z
          rw [j60] at w
          exact absurd ⟨z, w⟩ y2
      · rw [yard_f y1, in_f (a := a3) (by rw [jl1, j60]; exact y1)]
        exact Pc_b1S (Pc_if00 (Pc_some (Pc_b1S (Pc_if10 (Pc_b1S (Pc_if10 (Pc_b1S (Pc_if00 (Pc_some ⟨Q, N⟩)))))))))
    · have ms : f_X12_isShelf a1 = some 0 := by
        unfold f_X12_isShelf
        rw [in_f (by rw [jl0, j5]; omega), b1_some]
      rw [shelf_f e, ms]
      exact Pc_b1S (Pc_onN (Pc_some (Pc_b1S (Pc_if10 (Pc_b1S (Pc_if00 (Pc_some ⟨Q, N⟩)))))))
  · rw [if_neg d] at c
    exact absurd rfl c
end LKs
