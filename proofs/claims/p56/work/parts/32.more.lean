section AWy
variable {M : aM} {R : Room} {F : aF} {pc : Nat} {lv : List (Option Value)} {st : List Value} {h : List aE} {nc ns : Nat} {a : Value}
theorem aw_sndi {x v : Int32} (hv : x = v) (k : AW M R F pc lv (a :: .int v :: st) h nc ns) : AW M R F pc lv (a :: .int x :: st) h nc ns := hv ▸ k
end AWy
theorem tneK {x k : Int32} {K : Int} (hk : k.toInt = K) (h : ¬ x = k) : ¬ x.toInt = K := fun z => h (Int32.toInt_inj.mp (z.trans hk.symm))
theorem nz {v : Int32} (h : v = 0 ∨ v = 1) : narrow .boolean (.int v) = .int v := by
  rcases h with rfl | rfl <;> decide
theorem ixl {i : Int32} {n : Nat} (h : inB i n) : i.toInt.toNat < n := by
  obtain ⟨h1, h2⟩ := h
  omega
theorem ok4 {s : SS} {h : List aE} {i : Int32} {p : Nat} (H : HH s h) (hi : inB i 3) (e : zR s 19 i.toInt.toNat = some p) : okM p := by
  have q := H.2.2.2.2.2.1 _ (ixl hi)
  rw [q] at e
  have := Option.some.inj e
  have := ixl hi
  exact ⟨by omega, by omega⟩
theorem ok8 {s : SS} {h : List aE} {i : Int32} {p : Nat} (H : HH s h) (hi : inB i 6) (e : zR s 46 i.toInt.toNat = some p) : okV p := by
  have q := H.2.2.2.2.2.2.2.2 _ (ixl hi)
  rw [q] at e
  have := Option.some.inj e
  have := ixl hi
  exact ⟨by omega, by omega, by omega⟩
theorem am_ofF {M : aM} {d mc ms : Nat} {as : List Value} {h : List aE} {P : Option Value → List aE → Prop} {lv : List (Option Value)} (hM : plainFor M.1 = true) (ha : (as.map Value.category).sum ≤ M.2.2.1) (hlv : lvIn M.2.2.1 as = lv) (k : AW M (rmD d mc ms) (fin P mc ms) 0 lv [] h 0 0) : AM M d as h mc ms P := by
  subst hlv
  intro l G
  refine va_MetF (cc := M.2.1) (maxL := M.2.2.1) (ret := M.2.2.2) hM rfl ?_
  intro p e s m args below meth c s₁ B hml hv
  obtain ⟨rfl, hR, hN, hK, hS⟩ := hv
  have hts := atoms_spec (ws := mws M) B.pre
  have hown : s.vm.findClass M.1.cls = some m.cls := findClass_of_methodNamed B.named
  have hname := (name_of_methodNamed B.named B.method).1
  rw [lg_entry_eq]
  have hl := lv_entry (as.map (cv G)) (n := M.2.2.1) (by rw [lg_len]; exact ha)
  refine k p l e s m _ below meth c G s.heap [] _ ⟨B.exec, B.bytes, B.returns, hml, hown, B.notSynchronized, hname, fun w hw => hts w (List.mem_cons_of_mem _ hw), hN, hK, hS, ?_⟩ hR va_S.rf ?_
  · rw [hR.1]; exact Nat.le_add_right _ _
  · refine ⟨hl.1, hl.2.1, fun q hq => ?_⟩
    obtain ⟨j, w⟩ := q
    obtain ⟨v, h1, h2, rfl⟩ := (prs_mem _ 0 j w).mp hq
    rw [Nat.sub_zero] at h2
    have := lvIn_mem (G := G) as M.2.2.1 0 j v h2
    rw [Nat.zero_add] at this
    exact hl.2.2 _ this
theorem tneS {x k : Int32} {K : Int} (hk : k.toInt = K) (h : ¬ x = k) : ¬ K = x.toInt := fun z => tneK hk h z.symm
