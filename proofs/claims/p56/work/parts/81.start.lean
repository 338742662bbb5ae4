/-! FROM THE LAW'S ENTRY TO THE JUDGEMENT AW -/
abbrev mLaw : aM := (x, code, maxLocals, ret)
def lawF : aF := fun G below args s t => (s.heap.size ≤ gB G ∧ ∃ b : Nat, args = #[Value.ref b]) → lw_Z below args s t
theorem aw_lawret {L : Nat} {xs : Nat → Int32} {pc nc ns : Nat} {lv : List (Option Value)} {h : List aE} (hd : decode mLaw.2.1 pc = .ok (.ireturn, 1)) (h1 : nc ≤ 600000) (h2 : ns ≤ 7302250) : AW mLaw room_1 (sF L xs lawF) pc lv [.int 1] h nc ns := by
  intro p l e s m args below meth c G H locs ls C hR hS hl
  by_cases hc : s.heap.size ≤ gB G ∧ ∃ b : Nat, args = #[Value.ref b]
  · obtain ⟨hz, b, rfl⟩ := hc
    have K : W p l e room_1 s m #[Value.ref b] below meth c H locs nc ns (lw_Z below #[Value.ref b] s) (F0 m pc ls [.int 1]) := by
      refine va_forget (fun q hq => Nat.le_trans hz (hS.2.2 q hq)) ?_
      refine W.widen h1 h2 ?_
      exact lw_ret C.1 C.2.1 C.2.2.1 C.2.2.2.2.2.1 hd
    intro T hT X
    obtain ⟨t, a, q⟩ := K T hT X
    exact ⟨t, a, fun _ _ => q⟩
  · intro T hT X
    exact ⟨_, Steps.refl _, fun _ q => absurd q hc⟩
theorem insAll : ∀ (ci : Nat) (q : vw_C), cls[ci]? = some q → Cond.instantiable q.1 q.2.2 ∈ gw := by
  intro ci q hq
  match ci, hq with
  | 0, hq => cases hq; exact ins_RX0
  | 1, hq => cases hq; exact ins_RX1
  | 2, hq => cases hq; exact ins_RX2
  | 3, hq => cases hq; exact ins_RX3
  | 4, hq => cases hq; exact ins_RX4
  | 5, hq => cases hq; exact ins_RX5
  | 6, hq => cases hq; exact ins_RX6
  | 7, hq => cases hq; exact ins_RX7
  | 8, hq => cases hq; exact ins_RX8
  | 9, hq => cases hq; exact ins_RX9
  | 10, hq => cases hq; exact ins_RX10
  | 11, hq => cases hq; exact ins_RX11
  | 12, hq => cases hq; exact ins_RX12
  | n + 13, hq => simp [cls] at hq
theorem tyP {s : State} {args : Array Value} {ty : FieldType} (hty : ∀ C, ty ≠ .object C) (h : (Cond.arrayClass ty).before args s = true) : ∃ cA, ArrOfT s cA ty ∧ va_RA s cA ty := by
  obtain ⟨cA, kA, comp, hn, hk, hkind⟩ := Cond.arrayClass_spec h
  refine ⟨cA, fun n z => ⟨fun k h => (by cases h), kA, hk, comp, hkind⟩, ?_⟩
  cases ty with
  | object C => exact absurd rfl (hty C)
  | _ => exact hn
theorem tyO {s : State} {E : String} (h : va_AO E s) : ∃ cA, ArrOfT s cA (.object E) ∧ va_RA s cA (.object E) := by
  obtain ⟨comp, c, k, h1, h2, h3, h4, h5⟩ := Cond.arrayOver_spec h
  exact ⟨c, fun n z => ⟨fun k h => (by cases h), k, h3, comp, h4⟩, k, comp, h3, h4, h1, h5⟩
set_option maxRecDepth 10000 in
/-- the tables' words of nest mates and of arrays of objects -/
theorem nst_of {s : State} {args : Array Value} (hts : ∀ w ∈ lw_tbl, w.before args s = true) : Nst s := by
  refine ⟨fun q hq => va_Nw.of rfl (hts _ (nst_inM q hq)), fun q hq => va_Nw.of rfl (hts _ (nst_inF q hq)), fun E hE => va_AO.of (A := args) (hts _ (nst_inA E hE)), va_Nw.of rfl (hts _ st_cast)⟩
theorem St_of {b L : Nat} {xs : Nat → Int32} {s : State} (hts : ∀ w ∈ lw_tbl, w.before #[Value.ref b] s = true) (hX : va_X b L xs s s.heap) (hbl : b < s.heap.size) (hgv : (Jvm.Cond.and given_1 narrow_1).before #[Value.ref b] s = true) :
    ∃ t a v : Nat, va_Z "ThirtyThreeBelow" "KIND_ABOVE" "[I" (.ref t) (fun q => s.heap.size ≤ q) s s.heap ∧ va_T .int t 8 kAb (fun q => s.heap.size ≤ q) s s.heap ∧ (vk_R "ThirtyThreeBelow" 58 "hdskinft" a s ∧ vk_R "ThirtyThreeBelow$Reader" 88 "hdskinft" a s) ∧ vk_S 1 [8] [[104, 100, 115, 107, 105, 110, 102, 116]] (fun _ => a) (fun _ => v) (fun q => s.heap.size ≤ q) s s.heap ∧ va_Z "java/lang/String" "COMPACT_STRINGS" "Z" (.int 1) (fun q => s.heap.size ≤ q) s s.heap := by
  have hs := flat_of_before _ hgv
  have hA : ∀ a : Nat, a < s.heap.size → ¬ (fun q : Nat => s.heap.size ≤ q) a := fun a h => Nat.not_le.mpr h
  obtain ⟨t, ht, hT⟩ := va_Tof (args := #[Value.ref b]) (s := s) (tm := .static "ThirtyThreeBelow" "KIND_ABOVE" "[I") (ty := .int) (N := 8) (f := kAb) (A := fun q => s.heap.size ≤ q) (by decide) (hs _ (by decide +kernel)) (va_eqt (hs _ (by decide +kernel))) (fun j hj => by
    match j, hj with
    | 0, _ => exact va_eqt (hs _ (by decide +kernel))
    | 1, _ => exact va_eqt (hs _ (by decide +kernel))
    | 2, _ => exact va_eqt (hs _ (by decide +kernel))
    | 3, _ => exact va_eqt (hs _ (by decide +kernel))
    | 4, _ => exact va_eqt (hs _ (by decide +kernel))
    | 5, _ => exact va_eqt (hs _ (by decide +kernel))
    | 6, _ => exact va_eqt (hs _ (by decide +kernel))
    | 7, _ => exact va_eqt (hs _ (by decide +kernel))
    | n + 8, h => omega) hA
  obtain ⟨adK, adV, hK, hev⟩ := vk_Sof (args := #[Value.ref b]) (s := s) (N := 1) (tm := fun _ => .string "ThirtyThreeBelow" 58) (len := [8]) (byt := [[104, 100, 115, 107, 105, 110, 102, 116]]) (A := fun q => s.heap.size ≤ q)
    (fun i hi => by rw [show i = 0 by omega]; decide) (fun i hi => hs _ (by decide +kernel)) (fun i hi => hs _ (by decide +kernel)) (fun i hi => hs _ (by decide +kernel)) (fun i hi => by rw [show i = 0 by omega]; exact hs _ (by decide +kernel))
    (fun i hi j hj => by
      have hi0 : i = 0 := by omega
      subst hi0
      match j, hj with
      | 0, _ => exact hs _ (by decide +kernel)
      | 1, _ => exact hs _ (by decide +kernel)
      | 2, _ => exact hs _ (by decide +kernel)
      | 3, _ => exact hs _ (by decide +kernel)
      | 4, _ => exact hs _ (by decide +kernel)
      | 5, _ => exact hs _ (by decide +kernel)
      | 6, _ => exact hs _ (by decide +kernel)
      | 7, _ => exact hs _ (by decide +kernel)
      | n + 8, h => exact absurd h (by show ¬ n + 8 < 8; omega)) (fun i j hi hj hne => absurd (by omega) hne) hA
  have e1 := hev 0 (by omega)
  have e2 : (Term.string "ThirtyThreeBelow$Reader" 88).eval #[Value.ref b] s none [] s = some (.ref (adK 0)) := va_eqR (hs _ (by decide +kernel)) e1
  refine ⟨t, adK 0, adV 0, va_Zref (hts _ st_ka) (hts _ st_ini11) ht hA, hT, ⟨vk_R.of (hts _ st_r1) e1, vk_R.of (hts _ st_r2) e2⟩, ⟨fun i hi => ?_, fun i j hi hj _ => by omega⟩, va_Zof (hts _ st_cs) (hts _ st_iniJ0) (va_eqt (hs _ (by decide +kernel))) hA⟩
  have hi0 : i = 0 := by omega
  subst hi0
  exact hK.1 0 hi
theorem start_of {p : Program} {e : Env} {s : State} {m : MethodId} {below : List Frame} {meth : Method} {c : Code} (l : Launch) {b L : Nat} {xs : Nat → Int32} (C0 : lw_At p s m meth c b L xs) (hname : meth.name = x.name) (k : AW mLaw room_1 (sF L xs lawF) 0 [some (.ref 0), none, none, none] [] [] 0 0) : W p l e room_1 s m #[Value.ref b] below meth c s.heap [] 0 0 (lw_Z below #[Value.ref b] s) (entryFrame m ([Value.ref b] : List Value).toArray 4) := by
  obtain ⟨hx, hb, hr, hml, hown, hts, hX, hbl, hlocks, hgv⟩ := id C0
  have htg : ∀ w ∈ gw, w.before #[Value.ref b] s = true := fun w hw => hts w (List.mem_filter.mp hw).1
  have hcl : ∀ ci : Nat, ∃ d : ClassId × (Nat → Nat), ∀ q : vw_C, cls[ci]? = some q → u_Kn s q.1 q.2.1 q.2.2 d.1 d.2 := by
    intro ci
    cases hq : cls[ci]? with
    | none => exact ⟨(0, fun _ => 0), fun q h => by cases h⟩
    | some q =>
      obtain ⟨cC, iS, hKn⟩ := u_known (C := q.1) (T := q.2.1) (N := q.2.2) htg (clsAll ci q hq).1 (htg _ (insAll ci q hq))
      exact ⟨(cC, iS), fun q' h => by cases h; exact hKn⟩
  obtain ⟨d, hd⟩ := Classical.axiomOfChoice hcl
  have hN : Nst s := nst_of hts
  obtain ⟨a0, ha0⟩ := tyP (ty := .int) (fun C q => by cases q) (htg _ ac_int)
  obtain ⟨a1, ha1⟩ := tyP (ty := .boolean) (fun C q => by cases q) (htg _ ac_boolean)
  obtain ⟨a2, ha2⟩ := tyP (ty := .byte) (fun C q => by cases q) (htg _ ac_byte)
  obtain ⟨a3, ha3⟩ := tyP (ty := .long) (fun C q => by cases q) (htg _ ac_long)
  obtain ⟨a4, ha4⟩ := tyO (hN.2.2.1 RX3 (by decide))
  obtain ⟨a5, ha5⟩ := tyO (hN.2.2.1 RX4 (by decide))
  obtain ⟨a6, ha6⟩ := tyO (hN.2.2.1 RX1 (by decide))
  obtain ⟨a7, ha7⟩ := tyO (hN.2.2.1 RX10 (by decide))
  obtain ⟨a8, ha8⟩ := tyO (hN.2.2.1 RX8 (by decide))
  obtain ⟨t, a, v, hz1, hT, hR, hSS, hz2⟩ := St_of hts hX hbl hgv
  obtain ⟨G, hG⟩ : ∃ G : aG, G = ((fun ci => (d ci).1, fun ci => (d ci).2), (fun k => match k with | 0 => a0 | 1 => a1 | 2 => a2 | 3 => a3 | 4 => a4 | 5 => a5 | 6 => a6 | 7 => a7 | _ => a8), (fun k => match k with | 0 => b | 1 => t | 2 => a | _ => v), s.heap.size, L, xs) := ⟨_, rfl⟩
  have hK : Kn G s := by
    subst hG
    refine ⟨fun ci q hq => hd ci q hq, fun k q hq => ?_⟩
    match k, hq with
    | 0, hq => cases hq; exact ha0
    | 1, hq => cases hq; exact ha1
    | 2, hq => cases hq; exact ha2
    | 3, hq => cases hq; exact ha3
    | 4, hq => cases hq; exact ha4
    | 5, hq => cases hq; exact ha5
    | 6, hq => cases hq; exact ha6
    | 7, hq => cases hq; exact ha7
    | 8, hq => cases hq; exact ha8
    | n + 9, hq => simp [tysL] at hq
  have hSt : St G s s.heap := by
    subst hG
    exact ⟨⟨hX, Nat.not_le.mpr hbl⟩, hz1, hT, hR, hSS, hz2⟩
  have hB : gB G = s.heap.size := by subst hG; rfl
  have hRep : Rep G [] s.heap := ⟨by rw [hB]; rfl, fun k q h => by simp [wsG] at h⟩
  have hl := lv_entry ([.ref b]) (n := 4) (Nat.le_of_ble_eq_true rfl)
  rw [lg_entry_eq]
  have K := k p l e s m #[Value.ref b] below meth c G s.heap [] ((lg_sl ([.ref b]) ++ List.replicate (4 - (lg_sl ([.ref b])).length) Slot.unset).toArray) ⟨hx, hb, hr, hml, hown, hlocks, hname, htg, hN, hK, hSt, Nat.le_of_eq hB⟩ hRep va_S.rf ⟨hl.1, hl.2.1, fun q hq => by
    have e0 : prs G [some (.ref 0), none, none, none] 0 = [(0, .ref b)] := by subst hG; rfl
    rw [e0] at hq
    have : q = (0, .ref b) := by simpa using hq
    rw [this]
    exact hl.2.2 _ (by simp [lv_args])⟩
  intro T hT' X
  obtain ⟨t', q1, q2⟩ := K T hT' X
  exact ⟨t', q1, q2 ⟨by subst hG; rfl, by subst hG; rfl⟩ ⟨by rw [hB]; exact Nat.le_refl _, b, rfl⟩⟩
