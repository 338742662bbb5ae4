/-! COPIES OF ARRAYS: System.arraycopy of ints and of longs, clone of int[], Arrays.copyOf; the text's bytes -/
theorem nncl {z : Int32} (hz : ¬ z < 0) : z.toInt = (z.toNatClampNeg : Int) := by
  have hz0 : (0 : Int) ≤ z.toInt := by
    have := Int32.not_lt.mp hz
    simpa using Int32.le_iff_toInt_le.mp this
  show z.toInt = ((z.toInt.toNat : Nat) : Int)
  omega
section AWcp
variable {M : aM} {R : Room} {F : aF} {pc pc' : Nat} {lv : List (Option Value)} {st : List Value} {h h' : List aE} {nc ns nc' ns' idx q0 q1 n0 n1 r : Nat} {sp dp n : Int32}
theorem aw_cpl {f g : Nat → Int64} (hd : decode M.2.1 pc = .ok (.invokestatic idx, 3)) (hp : pc + 3 = pc') (hl0 : Cond.methodLink M.1.cls idx arraycopyName ∈ gw) (hq0 : h[q0]? = some (.inl (3, n0, .inr (.inl f)))) (hq1 : h[q1]? = some (.inl (3, n1, .inr (.inl g)))) (h1 : ¬ sp < 0) (h2 : ¬ dp < 0) (h3 : ¬ n < 0) (h4 : sp.toNatClampNeg + n.toNatClampNeg ≤ n0) (h5 : dp.toNatClampNeg + n.toNatClampNeg ≤ n1) (hfr : 1 ≤ R.frames) (hlo : (st.map Value.category).sum + 40 ≤ R.locals) (kk : ∀ h', h.set q1 (.inl (3, n1, .inr (.inl (va_cpy f g sp.toNatClampNeg dp.toNatClampNeg n.toNatClampNeg)))) = h' → AW M R F pc' lv st h' nc ns) : AW M R F pc lv (.int n :: .int dp :: .ref (q1 + 8) :: .int sp :: .ref (q0 + 8) :: st) h nc ns := by
  subst hp
  intro p l e s m args below meth c G H locs ls C hR hS hl
  have hts := C.2.2.2.2.2.2.2.1
  have hK : Kn G s := C.2.2.2.2.2.2.2.2.2.1
  show W p l e R s m args below meth c H locs nc ns _ (F0 m pc ls (.int n :: .int dp :: .ref (gr G (q1 + 8)) :: .int sp :: .ref (gr G (q0 + 8)) :: st.map (cv G)))
  rw [gr_dyn, gr_dyn]
  have hcat := aw_cat G st
  have hw : nativeFrameWords "java/lang/System" "arraycopy" 5 ≤ 20 := by decide
  intro T hT X
  have hc0 : H[gB G + q0]? = some (vp_cell (gA G 3) (n0, .inr (.inl f))) := hR.at hq0
  have hc1 : H[gB G + q1]? = some (vp_cell (gA G 3) (n1, .inr (.inl g))) := hR.at hq1
  obtain ⟨-, k0, hk0, cm0, hkk0⟩ := (hK.2 3 _ (tys_ok G (by omega))).1 n0 (fun j => .long (f j))
  obtain ⟨-, k1, hk1, cm1, hkk1⟩ := (hK.2 3 _ (tys_ok G (by omega))).1 n1 (fun j => .long (g j))
  obtain ⟨vm', X', step⟩ := X.arraycopy C.1 C.2.2.2.2.1 (hts _ hl0) (hts _ ac_nat) (hts _ ac_sta) (hts _ ac_ini) (src := gB G + q0) (dst := gB G + q1) (cs := vp_cell (gA G 3) (n0, .inr (.inl f))) (cd := vp_cell (gA G 3) (n1, .inr (.inl g))) (srcPos := sp) (destPos := dp) (n := n) (by rw [hT]; exact hc0) (by rw [hT]; exact hc1)
    (fun _ h => by cases h) (fun _ h => by cases h) (fun h => by cases h) (fun h => by cases h) hk0 hk1 hkk0 hkk1 rfl h1 h2 h3
    (by rw [nncl h1, nncl h3]; show ¬ _ > ((arrV (gA G 3) n0 (fun j => .long (f j))).slots.size : Int); rw [arrV_size]; omega)
    (by rw [nncl h2, nncl h3]; show ¬ _ > ((arrV (gA G 3) n1 (fun j => .long (g j))).slots.size : Int); rw [arrV_size]; omega)
    (fun vm₁ _ i hi => by
      have e : (vp_cell (gA G 3) (n0, .inr (.inl f))).slots.getD (sp.toNatClampNeg + i) .null = .long (f (sp.toNatClampNeg + i)) := by
        show (arrV (gA G 3) n0 (fun j => .long (f j))).slots.getD _ _ = _
        rw [Array.getD_eq_getD_getElem?, arrV_read _ _ (by omega)]
        rfl
      refine ⟨?_, ?_⟩
      · rw [e]
        rfl
      · rw [e]
        exact trivial)
    (g := F0 m pc ls (.int n :: .int dp :: .ref (gB G + q1) :: .int sp :: .ref (gB G + q0) :: st.map (cv G))) rfl (by rw [C.2.2.2.1]; exact hl.1) (rest := st.map (cv G)) rfl (by rw [C.2.1]; exact hd) hfr (by show 2 * 0 + _ + (nativeFrameWords "java/lang/System" "arraycopy" 5 + 11) ≤ _; omega)
  have e1 : copied (vp_cell (gA G 3) (n0, .inr (.inl f))) (vp_cell (gA G 3) (n1, .inr (.inl g))) sp dp n = vp_cell (gA G 3) (n1, .inr (.inl (va_cpy f g sp.toNatClampNeg dp.toNatClampNeg n.toNatClampNeg))) := va_copied (fun z => .long z) _ _ f g h4
  rw [e1] at X' step
  have hlt : gB G + q1 < H.size := (Array.getElem?_eq_some_iff.mp hc1).1
  have hheap : ((T.setVm vm').setCell (gB G + q1) (vp_cell (gA G 3) (n1, .inr (.inl (va_cpy f g sp.toNatClampNeg dp.toNatClampNeg n.toNatClampNeg))))).heap = H.setIfInBounds (gB G + q1) (vp_cell (gA G 3) (n1, .inr (.inl (va_cpy f g sp.toNatClampNeg dp.toNatClampNeg n.toNatClampNeg)))) := by rw [← hT]; rfl
  have oq : ∀ q : Nat, q ≠ gB G + q1 → (H.setIfInBounds (gB G + q1) (vp_cell (gA G 3) (n1, .inr (.inl (va_cpy f g sp.toNatClampNeg dp.toNatClampNeg n.toNatClampNeg)))))[q]? = H[q]? := fun q hq => by simp [Array.getElem?_setIfInBounds, Ne.symm hq]
  obtain ⟨t, a1, b1⟩ := kk _ rfl p l e s m args below meth c G _ _ ls C (hR.set hq1 (by simp) (show (H.setIfInBounds (gB G + q1) _)[gB G + q1]? = some _ by simp [Array.getElem?_setIfInBounds, hlt]; rfl) oq) ⟨by simp; exact hS.1, fun q g1 g2 => by
      rw [oq q (fun e => g2 (by rw [e]; exact Nat.le_add_right _ _))]
      exact hS.2.1 q g1 g2, fun q hq => by
      rcases List.mem_append.mp hq with h | h
      · exact hS.2.2 q h
      · obtain ⟨z, -, hz⟩ := List.mem_map.mp h
        rw [← hz]
        exact Nat.le_add_right _ _⟩ hl _ hheap X'
  exact ⟨t, step t a1, b1⟩
theorem aw_cpi {f g : Nat → Int32} (hd : decode M.2.1 pc = .ok (.invokestatic idx, 3)) (hp : pc + 3 = pc') (hl0 : Cond.methodLink M.1.cls idx arraycopyName ∈ gw) (hq0 : h[q0]? = some (.inl (0, n0, .inl f))) (hq1 : h[q1]? = some (.inl (0, n1, .inl g))) (h1 : ¬ sp < 0) (h2 : ¬ dp < 0) (h3 : ¬ n < 0) (h4 : sp.toNatClampNeg + n.toNatClampNeg ≤ n0) (h5 : dp.toNatClampNeg + n.toNatClampNeg ≤ n1) (hfr : 1 ≤ R.frames) (hlo : (st.map Value.category).sum + 40 ≤ R.locals) (kk : ∀ h', h.set q1 (.inl (0, n1, .inl (va_cpy f g sp.toNatClampNeg dp.toNatClampNeg n.toNatClampNeg))) = h' → AW M R F pc' lv st h' nc ns) : AW M R F pc lv (.int n :: .int dp :: .ref (q1 + 8) :: .int sp :: .ref (q0 + 8) :: st) h nc ns := by
  subst hp
  intro p l e s m args below meth c G H locs ls C hR hS hl
  have hts := C.2.2.2.2.2.2.2.1
  have hK : Kn G s := C.2.2.2.2.2.2.2.2.2.1
  show W p l e R s m args below meth c H locs nc ns _ (F0 m pc ls (.int n :: .int dp :: .ref (gr G (q1 + 8)) :: .int sp :: .ref (gr G (q0 + 8)) :: st.map (cv G)))
  rw [gr_dyn, gr_dyn]
  have hcat := aw_cat G st
  have hw : nativeFrameWords "java/lang/System" "arraycopy" 5 ≤ 20 := by decide
  intro T hT X
  have hc0 : H[gB G + q0]? = some (vp_cell (gA G 0) (n0, .inl f)) := hR.at hq0
  have hc1 : H[gB G + q1]? = some (vp_cell (gA G 0) (n1, .inl g)) := hR.at hq1
  obtain ⟨-, k0, hk0, cm0, hkk0⟩ := (hK.2 0 _ (tys_ok G (by omega))).1 n0 (fun j => .int (f j))
  obtain ⟨-, k1, hk1, cm1, hkk1⟩ := (hK.2 0 _ (tys_ok G (by omega))).1 n1 (fun j => .int (g j))
  obtain ⟨vm', X', step⟩ := X.arraycopy C.1 C.2.2.2.2.1 (hts _ hl0) (hts _ ac_nat) (hts _ ac_sta) (hts _ ac_ini) (src := gB G + q0) (dst := gB G + q1) (cs := vp_cell (gA G 0) (n0, .inl f)) (cd := vp_cell (gA G 0) (n1, .inl g)) (srcPos := sp) (destPos := dp) (n := n) (by rw [hT]; exact hc0) (by rw [hT]; exact hc1)
    (fun _ h => by cases h) (fun _ h => by cases h) (fun h => by cases h) (fun h => by cases h) hk0 hk1 hkk0 hkk1 rfl h1 h2 h3
    (by rw [nncl h1, nncl h3]; show ¬ _ > ((arrV (gA G 0) n0 (fun j => .int (f j))).slots.size : Int); rw [arrV_size]; omega)
    (by rw [nncl h2, nncl h3]; show ¬ _ > ((arrV (gA G 0) n1 (fun j => .int (g j))).slots.size : Int); rw [arrV_size]; omega)
    (fun vm₁ _ i hi => by
      have e : (vp_cell (gA G 0) (n0, .inl f)).slots.getD (sp.toNatClampNeg + i) .null = .int (f (sp.toNatClampNeg + i)) := by
        show (arrV (gA G 0) n0 (fun j => .int (f j))).slots.getD _ _ = _
        rw [Array.getD_eq_getD_getElem?, arrV_read _ _ (by omega)]
        rfl
      refine ⟨?_, ?_⟩
      · rw [e]
        rfl
      · rw [e]
        exact trivial)
    (g := F0 m pc ls (.int n :: .int dp :: .ref (gB G + q1) :: .int sp :: .ref (gB G + q0) :: st.map (cv G))) rfl (by rw [C.2.2.2.1]; exact hl.1) (rest := st.map (cv G)) rfl (by rw [C.2.1]; exact hd) hfr (by show 2 * 0 + _ + (nativeFrameWords "java/lang/System" "arraycopy" 5 + 11) ≤ _; omega)
  have e1 : copied (vp_cell (gA G 0) (n0, .inl f)) (vp_cell (gA G 0) (n1, .inl g)) sp dp n = vp_cell (gA G 0) (n1, .inl (va_cpy f g sp.toNatClampNeg dp.toNatClampNeg n.toNatClampNeg)) := va_copied (fun z => .int z) _ _ f g h4
  rw [e1] at X' step
  have hlt : gB G + q1 < H.size := (Array.getElem?_eq_some_iff.mp hc1).1
  have hheap : ((T.setVm vm').setCell (gB G + q1) (vp_cell (gA G 0) (n1, .inl (va_cpy f g sp.toNatClampNeg dp.toNatClampNeg n.toNatClampNeg)))).heap = H.setIfInBounds (gB G + q1) (vp_cell (gA G 0) (n1, .inl (va_cpy f g sp.toNatClampNeg dp.toNatClampNeg n.toNatClampNeg))) := by rw [← hT]; rfl
  have oq : ∀ q : Nat, q ≠ gB G + q1 → (H.setIfInBounds (gB G + q1) (vp_cell (gA G 0) (n1, .inl (va_cpy f g sp.toNatClampNeg dp.toNatClampNeg n.toNatClampNeg))))[q]? = H[q]? := fun q hq => by simp [Array.getElem?_setIfInBounds, Ne.symm hq]
  obtain ⟨t, a1, b1⟩ := kk _ rfl p l e s m args below meth c G _ _ ls C (hR.set hq1 (by simp) (show (H.setIfInBounds (gB G + q1) _)[gB G + q1]? = some _ by simp [Array.getElem?_setIfInBounds, hlt]; rfl) oq) ⟨by simp; exact hS.1, fun q g1 g2 => by
      rw [oq q (fun e => g2 (by rw [e]; exact Nat.le_add_right _ _))]
      exact hS.2.1 q g1 g2, fun q hq => by
      rcases List.mem_append.mp hq with h | h
      · exact hS.2.2 q h
      · obtain ⟨z, -, hz⟩ := List.mem_map.mp h
        rw [← hz]
        exact Nat.le_add_right _ _⟩ hl _ hheap X'
  exact ⟨t, step t a1, b1⟩
theorem aw_cln {f : Nat → Int32} (hd : decode M.2.1 pc = .ok (.invokevirtual idx, 3)) (hp : pc + 3 = pc') (hl0 : Cond.methodLink M.1.cls idx ⟨"[I", "clone", "()Ljava/lang/Object;"⟩ ∈ gw) (hq0 : h[q0]? = some (.inl (0, n0, .inl f))) (hfr : 1 ≤ R.frames) (hlo : (st.map Value.category).sum + 14 ≤ R.locals) (hce : nc + 1 ≤ R.cells) (hsl : ns + n0 ≤ R.slots) (kk : AW M R F pc' lv (.ref (h.length + 8) :: st) (h ++ [.inl (0, n0, .inl f)]) (nc + 1) (ns + n0)) : AW M R F pc lv (.ref (q0 + 8) :: st) h nc ns := by
  subst hp
  intro p l e s m args below meth c G H locs ls C hR hS hl
  have hts := C.2.2.2.2.2.2.2.1
  have hK : Kn G s := C.2.2.2.2.2.2.2.2.2.1
  show W p l e R s m args below meth c H locs nc ns _ (F0 m pc ls (.ref (gr G (q0 + 8)) :: st.map (cv G)))
  rw [gr_dyn]
  have hcl := C.2.2.2.2.2.2.2.2.1.2.2.2
  have hnm : s.vm.findClass "[I" = some (gA G 0) := va_nm_int (hK.2 0 _ (tys_ok G (by omega))).2
  obtain ⟨c0, t0', f1, f2, f3⟩ := Cond.castable_spec (va_Nw.use (A := args) rfl hcl)
  cases hnm.symm.trans f1
  intro T hT X
  have hc0 : H[gB G + q0]? = some (vp_cell (gA G 0) (n0, .inl f)) := hR.at hq0
  have hcellT : T.heap[gB G + q0]? = some (vp_cell (gA G 0) (n0, .inl f)) := by rw [hT]; exact hc0
  have hsz : (vp_cell (gA G 0) (n0, .inl f)).slots.size = n0 := arrV_size _ _ _
  obtain ⟨-, kA, hkA, comp, hkind⟩ := State.isArrayOf_alike X.warmed.alike ((hK.2 0 _ (tys_ok G (by omega))).1 0 (fun _ => .null))
  obtain ⟨-, kS, hkS, compS, hkindS⟩ := (hK.2 0 _ (tys_ok G (by omega))).1 0 (fun _ => .null)
  obtain ⟨vm', X', st'⟩ := X.cloneArray C.1 C.2.2.2.2.1 (hts _ hl0) (hts _ cl_sam) (hts _ cl_nat) (hts _ cl_ins) (hts _ cl_sel) (a := gB G + q0) (cell := vp_cell (gA G 0) (n0, .inl f)) hcellT (fun k h => by cases h) (fun h => by cases h) hnm f2 f3
    (fun i v hv => by
      have hk' : T.vm.classes[gA G 0]? = some kA := hkA
      have hfit : fits .int v = true := va_fit (F := fun j => .int (f j)) (n := n0) (fun _ _ => rfl) i v hv
      have hcl0 : (vp_cell (gA G 0) (n0, .inl f)).cls = gA G 0 := rfl
      rw [hcl0]
      simpa [State.fitsSlot, State.slotType?, hk', hkind, aty] using hfit)
    (g := F0 m pc ls (.ref (gB G + q0) :: st.map (cv G))) rfl (by rw [C.2.2.2.1]; exact hl.1) rfl (by rw [C.2.1]; exact hd) hfr (by have := aw_cat G st; show 2 * 0 + _ + 14 ≤ _; omega) hce (by rw [hsz]; exact hsl) (hloader := Vm.clonesLoader_of_array hkS hkindS)
  rw [hsz] at X'
  have o1 : ∀ q : Nat, q < H.size → (H.push (vp_cell (gA G 0) (n0, .inl f)))[q]? = H[q]? := fun q hq => by rw [Array.getElem?_push, if_neg (Nat.ne_of_lt hq)]
  have er : gr G (h.length + 8) = H.size := by rw [gr_dyn, hR.1]
  obtain ⟨t, b1, b2⟩ := kk p l e s m args below meth c G (H.push (vp_cell (gA G 0) (n0, .inl f))) locs ls C (hR.push (by rw [Array.size_push]) (show (H.push _)[gB G + h.length]? = some _ by rw [← hR.1, Array.getElem?_push_size]; rfl) o1) ⟨by rw [Array.size_push]; exact Nat.le_trans hS.1 (Nat.le_succ _), fun q g1 g2 => by
      rw [o1 q (Nat.lt_of_lt_of_le g1 hS.1)]
      exact hS.2.1 q g1 g2, hS.2.2⟩ hl ((T.setVm vm').pushCell (vp_cell (gA G 0) (n0, .inl f))) (by rw [← hT]; rfl) X'
  refine ⟨t, st' t ?_, b2⟩
  have ev : (Value.ref (h.length + 8) :: st).map (cv G) = .ref H.size :: st.map (cv G) := by
    show Value.ref (gr G (h.length + 8)) :: _ = _
    rw [er]
  rw [ev] at b1
  rw [hT]
  exact b1
theorem aw_cst {x : vp_A} (hd : decode M.2.1 pc = .ok (.checkcast idx, 3)) (hp : pc + 3 = pc') (hl0 : Cond.classLink M.1.cls idx "[I" ∈ gw) (hq0 : h[q0]? = some (.inl (0, x))) (kk : AW M R F pc' lv (.ref (q0 + 8) :: st) h nc ns) : AW M R F pc lv (.ref (q0 + 8) :: st) h nc ns := by
  subst hp
  intro p l e s m args below meth c G H locs ls C hR hS hl
  have hts := C.2.2.2.2.2.2.2.1
  have hK : Kn G s := C.2.2.2.2.2.2.2.2.2.1
  have K := kk p l e s m args below meth c G H locs ls C hR hS hl
  have hnm : s.vm.findClass "[I" = some (gA G 0) := va_nm_int (hK.2 0 _ (tys_ok G (by omega))).2
  show W p l e R s m args below meth c H locs nc ns _ (F0 m pc ls (.ref (gr G (q0 + 8)) :: st.map (cv G)))
  replace K : W p l e R s m args below meth c H locs nc ns _ (F0 m (pc + 3) ls (.ref (gr G (q0 + 8)) :: st.map (cv G))) := K
  rw [gr_dyn] at K ⊢
  exact va_castA C.1 C.2.1 C.2.2.2.2.1 (hts _ hl0) hR.2 q0 (wsG_get hq0) hnm hd K
/-- the bytes of the text -/
def tbB (j : Nat) : Int32 := ([104, 100, 115, 107, 105, 110, 102, 116] : List Int32).getD j 0
theorem aw_sba {i v : Int32} (hd : decode M.2.1 pc = .ok (.baload, 1)) (hp : pc + 1 = pc') (hin : vp_in i 8) (hv : tbB i.toNatClampNeg = v) (kk : AW M R F pc' lv (.int v :: st) h nc ns) : AW M R F pc lv (.int i :: .ref 3 :: st) h nc ns := by
  subst hp
  intro p l e s m args below meth c G H locs ls C hR hS hl
  have K := kk p l e s m args below meth c G H locs ls C hR hS hl
  obtain ⟨-, -, -, -, k1, -⟩ := C.2.2.2.2.2.2.2.2.2.2.1
  exact va_tb C.1 C.2.1 (k1.1 0 (by omega)).2.2.2 hS hin (v := .int v) (by show Value.int (tbB i.toNatClampNeg) = _; rw [hv]) hd K
end AWcp
