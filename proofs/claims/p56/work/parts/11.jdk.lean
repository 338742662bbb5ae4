/-! java.util.Arrays.fill, of ints and of longs: every element becomes v -/
theorem lt_of_c {i n : Nat} (hi : i ≤ n) (hn : n < 2147483648) (c : ¬ ¬ (nI i < nI n)) : i < n := by
  have h := Decidable.not_not.mp c
  exact (nI_ltI (by omega) (by omega)).mp h
theorem fill_loop {n : Nat} {v : Int32} (hn : n < 2147483648) {q : Nat} {h0 : List aE} {Q : List aE → Prop} (hQ : ∀ h', h0.set q (.inl (0, n, .inl (fun _ => v))) = h' → Q h') :
    ∀ (k i : Nat), i ≤ n → n - i < k → ∀ (f : Nat → Int32) (h : List aE), h[q]? = some (.inl (0, n, .inl f)) → (∀ j, j < i → f j = v) → h0.set q (.inl (0, n, .inl f)) = h →
    AW mJ7_fill_53178 (rmD 0 0 0) (fin (PV Q) 0 0) 5 [some (.ref (q + 8)), some (.int v), some (.int (nI i)), some (.int (nI n))] [] h 0 0 := by
  intro k
  induction k with
  | zero => intro i h1 h2; omega
  | succ k ih =>
    intro i hi hk f h hq hf he
    refine aw_iload_n (pc' := 6) dJ7_fill_53178_5 rfl rfl ?_
    refine aw_iload_n (pc' := 7) dJ7_fill_53178_6 rfl rfl ?_
    refine aw_cge (tgt := 20) (pc' := 10) dJ7_fill_53178_7 (by decide) rfl (fun c => ?_) (fun c => ?_)
    · have hin : ¬ i < n := fun z => c ((nI_ltI (by omega) (by omega)).mpr z)
      refine aw_exti (g := fun _ => v) hq (fun j hj => hf j (by omega)) ?_
      refine aw_rv dJ7_fill_53178_20 rfl (Nat.le_refl _) (Nat.le_refl _) (hQ _ ?_)
      rw [← he, List.set_set]
    · have hin : i < n := (nI_ltI (by omega) (by omega)).mp c
      refine aw_aload_n (pc' := 11) dJ7_fill_53178_10 rfl rfl rfl ?_
      refine aw_iload_n (pc' := 12) dJ7_fill_53178_11 rfl rfl ?_
      refine aw_iload_n (pc' := 13) dJ7_fill_53178_12 rfl rfl ?_
      refine aw_iastG (pc' := 14) dJ7_fill_53178_13 rfl hq (nI_in hin (by omega)) (fun h1 e1 => ?_)
      refine aw_iinc (lv' := [_, _, _, _]) (pc' := 17) dJ7_fill_53178_14 rfl rfl (Nat.le_of_ble_eq_true rfl) rfl ?_
      refine aw_goto (tgt := 5) dJ7_fill_53178_17 (by decide) ?_
      have hc : (nI i).toNatClampNeg = i := nI_clamp (by omega)
      rw [show nI i + Int32.ofInt 1 = nI (i + 1) from nI_1 i]
      refine ih (i + 1) (by omega) (by omega) _ h1 (gss e1 hq) (fun j hj => ?_) ?_
      · rw [hc]
        by_cases hji : j = i
        · subst hji; simp [upd]
        · simp only [upd, hji, if_false]; exact hf j (by omega)
      · rw [← e1, ← he, List.set_set]
theorem c_fill {h : List aE} {q n : Nat} {f : Nat → Int32} (v : Int32) (hq : h[q]? = some (.inl (0, n, .inl f))) (hn : n < 2147483648) : AM mJ7_fill_53178 0 [.ref (q + 8), .int v] h 0 0 (PV fun h' => h.set q (.inl (0, n, .inl (fun _ => v))) = h') := by
  refine am_of (lv := [some (.ref (q + 8)), some (.int v), none, none]) rfl (Nat.le_of_ble_eq_true rfl) rfl ?_
  refine aw_iconst (v := 0) (pc' := 1) dJ7_fill_53178_0 rfl (by decide) ?_
  refine aw_istore_n (lv' := [_, _, _, _]) (pc' := 2) dJ7_fill_53178_1 rfl (Nat.le_of_ble_eq_true rfl) rfl ?_
  refine aw_aload_n (pc' := 3) dJ7_fill_53178_2 rfl rfl rfl ?_
  refine aw_alen (v := nI n) (pc' := 4) dJ7_fill_53178_3 rfl hq (by decide) rfl ?_
  refine aw_istore_n (lv' := [_, _, _, _]) (pc' := 5) dJ7_fill_53178_4 rfl (Nat.le_of_ble_eq_true rfl) rfl ?_
  exact fill_loop hn (fun _ e => e) (n + 1) 0 (Nat.zero_le _) (by omega) f h hq (fun j hj => absurd hj (Nat.not_lt_zero j)) (by
    apply List.ext_getElem?
    intro i
    by_cases hi : q = i
    · subst hi; rw [List.getElem?_set_self (List.getElem?_eq_some_iff.mp hq).1, hq]
    · rw [List.getElem?_set_ne hi])
theorem filll_loop {n : Nat} {v : Int64} (hn : n < 2147483648) {q : Nat} {h0 : List aE} {Q : List aE → Prop} (hQ : ∀ h', h0.set q (.inl (3, n, .inr (.inl (fun _ => v)))) = h' → Q h') :
    ∀ (k i : Nat), i ≤ n → n - i < k → ∀ (f : Nat → Int64) (h : List aE), h[q]? = some (.inl (3, n, .inr (.inl f))) → (∀ j, j < i → f j = v) → h0.set q (.inl (3, n, .inr (.inl f))) = h →
    AW mJ7_fill_d0a16 (rmD 0 0 0) (fin (PV Q) 0 0) 6 [some (.ref (q + 8)), some (.long v), none, some (.int (nI i)), some (.int (nI n))] [] h 0 0 := by
  intro k
  induction k with
  | zero => intro i h1 h2; omega
  | succ k ih =>
    intro i hi hk f h hq hf he
    refine aw_iload_n (pc' := 7) dJ7_fill_d0a16_6 rfl rfl ?_
    refine aw_iload (pc' := 9) dJ7_fill_d0a16_7 rfl rfl ?_
    refine aw_cge (tgt := 22) (pc' := 12) dJ7_fill_d0a16_9 (by decide) rfl (fun c => ?_) (fun c => ?_)
    · have hin : ¬ i < n := fun z => c ((nI_ltI (by omega) (by omega)).mpr z)
      refine aw_extl (g := fun _ => v) hq (fun j hj => hf j (by omega)) ?_
      refine aw_rv dJ7_fill_d0a16_22 rfl (Nat.le_refl _) (Nat.le_refl _) (hQ _ ?_)
      rw [← he, List.set_set]
    · have hin : i < n := (nI_ltI (by omega) (by omega)).mp c
      refine aw_aload_n (pc' := 13) dJ7_fill_d0a16_12 rfl rfl rfl ?_
      refine aw_iload_n (pc' := 14) dJ7_fill_d0a16_13 rfl rfl ?_
      refine aw_lload_n (pc' := 15) dJ7_fill_d0a16_14 rfl rfl ?_
      refine aw_lastG (pc' := 16) dJ7_fill_d0a16_15 rfl hq (nI_in hin (by omega)) (fun h1 e1 => ?_)
      refine aw_iinc (lv' := [_, _, _, _, _]) (pc' := 19) dJ7_fill_d0a16_16 rfl rfl (Nat.le_of_ble_eq_true rfl) rfl ?_
      refine aw_goto (tgt := 6) dJ7_fill_d0a16_19 (by decide) ?_
      have hc : (nI i).toNatClampNeg = i := nI_clamp (by omega)
      rw [show nI i + Int32.ofInt 1 = nI (i + 1) from nI_1 i]
      refine ih (i + 1) (by omega) (by omega) _ h1 (gss e1 hq) (fun j hj => ?_) ?_
      · rw [hc]
        by_cases hji : j = i
        · subst hji; simp [vp_updL]
        · simp only [vp_updL, hji, if_false]; exact hf j (by omega)
      · rw [← e1, ← he, List.set_set]
theorem c_filll {h : List aE} {q n : Nat} {f : Nat → Int64} (v : Int64) (hq : h[q]? = some (.inl (3, n, .inr (.inl f)))) (hn : n < 2147483648) : AM mJ7_fill_d0a16 0 [.ref (q + 8), .long v] h 0 0 (PV fun h' => h.set q (.inl (3, n, .inr (.inl (fun _ => v)))) = h') := by
  refine am_of (lv := [some (.ref (q + 8)), some (.long v), none, none, none]) rfl (Nat.le_of_ble_eq_true rfl) rfl ?_
  refine aw_iconst (v := 0) (pc' := 1) dJ7_fill_d0a16_0 rfl (by decide) ?_
  refine aw_istore_n (lv' := [_, _, _, _, _]) (pc' := 2) dJ7_fill_d0a16_1 rfl (Nat.le_of_ble_eq_true rfl) rfl ?_
  refine aw_aload_n (pc' := 3) dJ7_fill_d0a16_2 rfl rfl rfl ?_
  refine aw_alen (v := nI n) (pc' := 4) dJ7_fill_d0a16_3 rfl hq (by decide) rfl ?_
  refine aw_istore (lv' := [_, _, _, _, _]) (pc' := 6) dJ7_fill_d0a16_4 rfl (Nat.le_of_ble_eq_true rfl) rfl ?_
  exact filll_loop hn (fun _ e => e) (n + 1) 0 (Nat.zero_le _) (by omega) f h hq (fun j hj => absurd hj (Nat.not_lt_zero j)) (by
    apply List.ext_getElem?
    intro i
    by_cases hi : q = i
    · subst hi; rw [List.getElem?_set_self (List.getElem?_eq_some_iff.mp hq).1, hq]
    · rw [List.getElem?_set_ne hi])
