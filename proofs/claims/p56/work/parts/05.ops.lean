/-- a class of the list: its fields' words, types and names -/
def ClsOK (q : vw_C) : Prop := (∀ w ∈ u_ws q.1 q.2.1 q.2.2, w ∈ gw) ∧ ∃ ty : Nat → FieldType, (∀ k, k < q.2.2 → parseFieldDescriptor (q.2.1 k).2.2.1 = some (ty k)) ∧ ∀ a, a < q.2.2 → ∀ b, b < q.2.2 → a ≠ b → (q.2.1 a).2.1 ≠ (q.2.1 b).2.1
def ClsAll : Prop := ∀ (ci : Nat) (q : vw_C), cls[ci]? = some q → ClsOK q
/-- field k of class ci, as entry idx of own's pool -/
def FL (own : String) (idx ci k : Nat) (ty : FieldType) (fin : Bool) : Prop := ∃ q : vw_C, cls[ci]? = some q ∧ k < q.2.2 ∧ Cond.fieldLink own idx q.1 (q.2.1 k).2.1 (q.2.1 k).2.2.1 ∈ gw ∧ (q.2.1 k).1 = q.1 ∧ parseFieldDescriptor (q.2.1 k).2.2.1 = some ty ∧ (q.2.1 k).2.2.2 = fin
def okv (ty : FieldType) (v : Value) : Bool := match ty, v with
  | .int, .int _ => true
  | .boolean, .int x => x == 0 || x == 1
  | .long, .long _ => true
  | .object _, .null => true
  | .object _, .ref _ => true
  | .array _, .null => true
  | .array _, .ref _ => true
  | _, _ => false
theorem okv_ok (G : aG) {ty : FieldType} {v : Value} (h : okv ty v = true) : narrow ty (cv G v) = cv G v ∧ fits ty (cv G v) = true := by
  cases ty <;> cases v <;> simp_all [okv, narrow, fits, cv]
  rcases h with h | h <;> subst h <;> simp
section AWh
variable {M : aM} {R : Room} {F : aF} {pc pc' : Nat} {lv lv' : List (Option Value)} {st : List Value} {h h' : List aE} {nc ns : Nat}
theorem aw_get (hCA : ClsAll) {idx ci k q : Nat} {ty : FieldType} {fin : Bool} {fs : List Value} {v : Value} (hd : decode M.2.1 pc = .ok (.getfield idx, 3)) (hp : pc + 3 = pc') (hf : FL M.1.cls idx ci k ty fin) (hq : h[q]? = some (.inr (ci, fs))) (hv : fs[k]? = some v) (kk : AW M R F pc' lv (v :: st) h nc ns) : AW M R F pc lv (.ref (q + 8) :: st) h nc ns := by
  subst hp
  intro p l e s m args below meth c G H locs ls C hR hS hl
  have K := kk p l e s m args below meth c G H locs ls C hR hS hl
  show W p l e R s m args below meth c H locs nc ns _ (F0 m pc ls (.ref (gr G (q + 8)) :: st.map (cv G)))
  rw [gr_dyn]
  obtain ⟨⟨C0, T, N⟩, h1, h2, h3, h4, h5, h6⟩ := hf
  exact va_get (D := gD G) (cl := cls) (C := C0) (T := T) (N := N) (ci := ci) C.1 C.2.1 C.2.2.2.2.2.2.2.1 (hCA ci _ h1).1 C.2.2.2.2.1 C.2.2.2.2.2.2.2.2.2.1 hR.2 q (wsG_get hq) h1 k h2 (C.2.2.2.2.2.2.2.1 _ h3) (fun x hx => by rw [← h4]; exact hx) (v := cv G v) (by rw [List.getElem?_map, hv]; rfl) hd K
theorem aw_putX {G : aG} {H H1 : Heap} {q ci k sl : Nat} {fs : List Value} {v : Value} {cell : Cell} {s : State} (hCA : ClsAll) {q0 : vw_C} (hR : Rep G h H) (hK : Kn G s) {args : Array Value} (hts : ∀ w ∈ gw, w.before args s = true) (hq : h[q]? = some (.inr (ci, fs))) (hc : cls[ci]? = some q0) (hk : k < q0.2.2) (hl0 : k < fs.length) (hsl : sl = (gD G).2 ci k)
    (q2 : cell.cls = (gD G).1 ci) (q3 : cell.vm = .none) (q4 : ∀ k, k < q0.2.2 → cell.slots[(gD G).2 ci k]? = some (vp_V (fs.map (cv G)) k))
    (e1 : H1[gB G + q]? = some (cell.setSlot sl (cv G v))) (e2 : H1.size = H.size) (e3 : ∀ x, x ≠ gB G + q → H1[x]? = H[x]?) : Rep G (h.set q (.inr (ci, fs.set k v))) H1 := by
  obtain ⟨hin, ty, hty, hnm⟩ := hCA ci q0 hc
  have hap := va_apart (own := q0.1) hts hin ty hty hnm hK hc
  subst hsl
  refine hR.set hq e2 ?_ e3
  refine ⟨q0, hc, ?_⟩
  show t_OB (gB G + q) _ _ _ H1 (vp_V ((fs.set k v).map (cv G)))
  rw [List.map_set]
  exact t_OB.to (V := updV (vp_V (fs.map (cv G))) k (cv G v)) ⟨_, e1, q2, q3, t_set q4 hap hk (cv G v)⟩ (fun j _ => vp_updV_set (by rw [List.length_map]; exact hl0) (cv G v) j)
theorem aw_put (hCA : ClsAll) {idx ci k q : Nat} {ty : FieldType} {fs : List Value} {v : Value} (hd : decode M.2.1 pc = .ok (.putfield idx, 3)) (hp : pc + 3 = pc') (hf : FL M.1.cls idx ci k ty false) (hq : h[q]? = some (.inr (ci, fs))) (hl0 : k < fs.length) (hn : okv ty v = true) (hh : h.set q (.inr (ci, fs.set k v)) = h') (kk : AW M R F pc' lv st h' nc ns) : AW M R F pc lv (v :: .ref (q + 8) :: st) h nc ns := by
  subst hp
  subst hh
  intro p l e s m args below meth c G H locs ls C hR hS hl
  show W p l e R s m args below meth c H locs nc ns _ (F0 m pc ls (cv G v :: .ref (gr G (q + 8)) :: st.map (cv G)))
  rw [gr_dyn]
  obtain ⟨⟨C0, T, N⟩, h1, h2, h3, h4, h5, h6⟩ := hf
  have hts := C.2.2.2.2.2.2.2.1
  have hK : Kn G s := C.2.2.2.2.2.2.2.2.2.1
  obtain ⟨r, g1, cell, q1, q2, q3, q4⟩ := hR.at hq
  have hr : r = (C0, T, N) := Option.some.inj (g1.symm.trans h1)
  subst hr
  obtain ⟨hSl, hfc, kC, hkC, hkind⟩ := hK.1 ci _ h1
  obtain ⟨cf, kf, fi, f, hi, hsl⟩ := hSl k h2
  have hlay := hts _ ((hCA ci _ h1).1 _ (u_in_lay h2))
  unfold u_lay at hlay
  rw [if_neg (by rw [h6]; decide)] at hlay
  have hst := (u_facts hfc hkC (Or.inl hlay) hi).1
  obtain ⟨n1, n2⟩ := okv_ok G hn
  have h6' := u_store hfc hkC hkind hlay hi h5 n1 n2
  dsimp only at h4
  refine W.putK C.1 C.2.1 (f := f) ⟨C.2.2.2.2.1, hts _ h3, ⟨cf, kf, fi, ?_⟩, hst⟩ (by rw [q2]; exact h6') q1 q3 (by rw [hsl]; exact k2_hasslot (q4 k h2)) rfl rfl hd fun H1 e1 e2 e3 => ?_
  · rw [← h4]; exact hi
  · exact kk p l e s m args below meth c G H1 _ ls C (aw_putX hCA hR hK hts hq h1 h2 hl0 hsl q2 q3 q4 e1 e2 e3) (hS.put e2 e3 (Nat.le_add_right _ _)) hl
theorem aw_putF (hCA : ClsAll) {idx ci k q : Nat} {ty : FieldType} {fs : List Value} {v : Value} (hd : decode M.2.1 pc = .ok (.putfield idx, 3)) (hp : pc + 3 = pc') (hf : FL M.1.cls idx ci k ty true) (hin : M.1.name = "<init>") (hown : (cls[ci]?).map (fun q => q.1) = some M.1.cls) (hq : h[q]? = some (.inr (ci, fs))) (hl0 : k < fs.length) (hn : okv ty v = true) (hh : h.set q (.inr (ci, fs.set k v)) = h') (kk : AW M R F pc' lv st h' nc ns) : AW M R F pc lv (v :: .ref (q + 8) :: st) h nc ns := by
  subst hp
  subst hh
  intro p l e s m args below meth c G H locs ls C hR hS hl
  show W p l e R s m args below meth c H locs nc ns _ (F0 m pc ls (cv G v :: .ref (gr G (q + 8)) :: st.map (cv G)))
  rw [gr_dyn]
  obtain ⟨⟨C0, T, N⟩, h1, h2, h3, h4, h5, h6⟩ := hf
  have hts := C.2.2.2.2.2.2.2.1
  have hK : Kn G s := C.2.2.2.2.2.2.2.2.2.1
  obtain ⟨r, g1, cell, q1, q2, q3, q4⟩ := hR.at hq
  have hr : r = (C0, T, N) := Option.some.inj (g1.symm.trans h1)
  subst hr
  rw [h1] at hown
  have hown' : C0 = M.1.cls := Option.some.inj hown
  obtain ⟨hSl, hfc, kC, hkC, hkind⟩ := hK.1 ci _ h1
  obtain ⟨cf, kf, fi, f, hi, hsl⟩ := hSl k h2
  have hlay := hts _ ((hCA ci _ h1).1 _ (u_in_lay h2))
  unfold u_lay at hlay
  rw [if_pos h6] at hlay
  have hst := (u_facts hfc hkC (Or.inr hlay) hi).1
  dsimp only at h4
  have hcf : m.cls = cf := by
    obtain ⟨_, _, c', _, _, _, -, -, hf', -, -, -, hown2, -⟩ := Cond.laysFinal_spec hlay
    have e1 : c' = cf := by have := hi.symm.trans hf'; simp at this; exact this.1.symm
    dsimp only at hown2
    rw [h4, hown'] at hown2
    rw [← e1]; exact Option.some.inj (C.2.2.2.2.1.symm.trans hown2)
  obtain ⟨n1, n2⟩ := okv_ok G hn
  have h6' := u_fits hfc hkC hkind (Or.inr hlay) hi h5 n1 n2
  refine W.putFinK C.1 C.2.1 C.2.2.2.2.1 (hts _ h3) (cf := cf) (k := kf) (i := fi) (f := f) ?_ hst hcf (C.2.2.2.2.2.2.1.trans hin) (by rw [q2]; exact h6') q1 q3 (by rw [hsl]; exact k2_hasslot (q4 k h2)) rfl rfl hd fun H1 e1 e2 e3 => ?_
  · rw [← h4]; exact hi
  · exact kk p l e s m args below meth c G H1 _ ls C (aw_putX hCA hR hK hts hq h1 h2 hl0 hsl q2 q3 q4 e1 e2 e3) (hS.put e2 e3 (Nat.le_add_right _ _)) hl
theorem tys_ok (G : aG) {t : Nat} (ht : t < 9) : (tysL G)[t]? = some (gA G t, aty t) := by
  match t, ht with
  | 0, _ => rfl
  | 1, _ => rfl
  | 2, _ => rfl
  | 3, _ => rfl
  | 4, _ => rfl
  | 5, _ => rfl
  | 6, _ => rfl
  | 7, _ => rfl
  | 8, _ => rfl
  | n + 9, h => omega
theorem aw_iald {q n : Nat} {f : Nat → Int32} {i v : Int32} (hd : decode M.2.1 pc = .ok (.iaload, 1)) (hp : pc + 1 = pc') (hq : h[q]? = some (.inl (0, n, .inl f))) (hin : vp_in i n) (hv : f i.toNatClampNeg = v) (kk : AW M R F pc' lv (.int v :: st) h nc ns) : AW M R F pc lv (.int i :: .ref (q + 8) :: st) h nc ns := by
  subst hp
  subst hv
  intro p l e s m args below meth c G H locs ls C hR hS hl
  have K := kk p l e s m args below meth c G H locs ls C hR hS hl
  show W p l e R s m args below meth c H locs nc ns _ (F0 m pc ls (.int i :: .ref (gr G (q + 8)) :: st.map (cv G)))
  rw [gr_dyn]
  exact va_iald C.1 C.2.1 C.2.2.2.2.2.2.2.2.2.1 hR.2 q 0 (wsG_get hq) (tys_ok G (by omega)) hin hd K
theorem aw_zald {q n : Nat} {f : Nat → Int32} {i v : Int32} (hd : decode M.2.1 pc = .ok (.baload, 1)) (hp : pc + 1 = pc') (hq : h[q]? = some (.inl (1, n, .inl f))) (hin : vp_in i n) (hv : f i.toNatClampNeg = v) (kk : AW M R F pc' lv (.int v :: st) h nc ns) : AW M R F pc lv (.int i :: .ref (q + 8) :: st) h nc ns := by
  subst hp
  subst hv
  intro p l e s m args below meth c G H locs ls C hR hS hl
  have K := kk p l e s m args below meth c G H locs ls C hR hS hl
  show W p l e R s m args below meth c H locs nc ns _ (F0 m pc ls (.int i :: .ref (gr G (q + 8)) :: st.map (cv G)))
  rw [gr_dyn]
  exact va_zald C.1 C.2.1 C.2.2.2.2.2.2.2.2.2.1 hR.2 q 1 (wsG_get hq) (tys_ok G (by omega)) hin hd K
theorem aw_bald {q n : Nat} {f : Nat → Int32} {i v : Int32} (hd : decode M.2.1 pc = .ok (.baload, 1)) (hp : pc + 1 = pc') (hq : h[q]? = some (.inl (2, n, .inl f))) (hin : vp_in i n) (hv : f i.toNatClampNeg = v) (kk : AW M R F pc' lv (.int v :: st) h nc ns) : AW M R F pc lv (.int i :: .ref (q + 8) :: st) h nc ns := by
  subst hp
  subst hv
  intro p l e s m args below meth c G H locs ls C hR hS hl
  have K := kk p l e s m args below meth c G H locs ls C hR hS hl
  show W p l e R s m args below meth c H locs nc ns _ (F0 m pc ls (.int i :: .ref (gr G (q + 8)) :: st.map (cv G)))
  rw [gr_dyn]
  exact va_bald C.1 C.2.1 C.2.2.2.2.2.2.2.2.2.1 hR.2 q 2 (wsG_get hq) (tys_ok G (by omega)) hin hd K
theorem aw_lald {q n : Nat} {f : Nat → Int64} {i : Int32} {v : Int64} (hd : decode M.2.1 pc = .ok (.laload, 1)) (hp : pc + 1 = pc') (hq : h[q]? = some (.inl (3, n, .inr (.inl f)))) (hin : vp_in i n) (hv : f i.toNatClampNeg = v) (kk : AW M R F pc' lv (.long v :: st) h nc ns) : AW M R F pc lv (.int i :: .ref (q + 8) :: st) h nc ns := by
  subst hp
  subst hv
  intro p l e s m args below meth c G H locs ls C hR hS hl
  have K := kk p l e s m args below meth c G H locs ls C hR hS hl
  show W p l e R s m args below meth c H locs nc ns _ (F0 m pc ls (.int i :: .ref (gr G (q + 8)) :: st.map (cv G)))
  rw [gr_dyn]
  exact va_lald C.1 C.2.1 C.2.2.2.2.2.2.2.2.2.1 hR.2 q 3 (wsG_get hq) (tys_ok G (by omega)) hin hd K
theorem aw_aald {q n t : Nat} {E : String} {f : Nat → Option Nat} {i : Int32} {v : Value} (hd : decode M.2.1 pc = .ok (.aaload, 1)) (hp : pc + 1 = pc') (hq : h[q]? = some (.inl (t, n, .inr (.inr (.inr (.inr f)))))) (ht : t < 9) (hE : aty t = .object E) (hin : vp_in i n) (hv : va_rf (f i.toNatClampNeg) = v) (kk : AW M R F pc' lv (v :: st) h nc ns) : AW M R F pc lv (.int i :: .ref (q + 8) :: st) h nc ns := by
  subst hp
  subst hv
  intro p l e s m args below meth c G H locs ls C hR hS hl
  have K := kk p l e s m args below meth c G H locs ls C hR hS hl
  rw [List.map_cons, cv_rf] at K
  show W p l e R s m args below meth c H locs nc ns _ (F0 m pc ls (.int i :: .ref (gr G (q + 8)) :: st.map (cv G)))
  rw [gr_dyn]
  exact va_aldq (C := E) C.1 C.2.1 C.2.2.2.2.2.2.2.2.2.1 hR.2 q t (wsG_get hq) (by rw [tys_ok G ht, hE]) hin hd K
theorem aw_iast {q n : Nat} {f : Nat → Int32} {i x : Int32} (hd : decode M.2.1 pc = .ok (.iastore, 1)) (hp : pc + 1 = pc') (hq : h[q]? = some (.inl (0, n, .inl f))) (hin : vp_in i n) (hh : h.set q (.inl (0, n, .inl (upd f i.toNatClampNeg x))) = h') (kk : AW M R F pc' lv st h' nc ns) : AW M R F pc lv (.int x :: .int i :: .ref (q + 8) :: st) h nc ns := by
  subst hp
  subst hh
  intro p l e s m args below meth c G H locs ls C hR hS hl
  show W p l e R s m args below meth c H locs nc ns _ (F0 m pc ls (.int x :: .int i :: .ref (gr G (q + 8)) :: st.map (cv G)))
  rw [gr_dyn]
  have hK : Kn G s := C.2.2.2.2.2.2.2.2.2.1
  refine W.iast C.1 C.2.1 (hR.at hq) ((hK.2 0 _ (tys_ok G (by omega))).1 n (fun j => .int (f j))) (fun q => by cases q) (by show ¬ (i < 0 ∨ (arrV _ _ _).slots.size ≤ _); rw [arrV_size]; exact hin) rfl rfl hd fun H1 e1 e2 e3 => ?_
  refine kk p l e s m args below meth c G H1 _ ls C (hR.set hq e2 ?_ e3) (hS.put e2 e3 (Nat.le_add_right _ _)) hl
  show H1[gB G + q]? = some (vp_cell _ (n, .inl _))
  rw [e1]
  show some (Cell.setSlot (vp_cell (gA G 0) (n, .inl f)) _ _) = some (vp_cell (gA G 0) (n, _))
  rw [vp_cell_i, vp_cell_i, arrV_store]
  congr 2
  funext j
  by_cases hj : j = i.toNatClampNeg
  · subst hj; simp [updV, upd]
  · simp [updV, upd, hj]
theorem aw_zast {q n : Nat} {f : Nat → Int32} {i x : Int32} (hd : decode M.2.1 pc = .ok (.bastore, 1)) (hp : pc + 1 = pc') (hq : h[q]? = some (.inl (1, n, .inl f))) (hin : vp_in i n) (hx : narrow .boolean (.int x) = .int x) (hh : h.set q (.inl (1, n, .inl (upd f i.toNatClampNeg x))) = h') (kk : AW M R F pc' lv st h' nc ns) : AW M R F pc lv (.int x :: .int i :: .ref (q + 8) :: st) h nc ns := by
  subst hp
  subst hh
  intro p l e s m args below meth c G H locs ls C hR hS hl
  show W p l e R s m args below meth c H locs nc ns _ (F0 m pc ls (.int x :: .int i :: .ref (gr G (q + 8)) :: st.map (cv G)))
  rw [gr_dyn]
  have hK : Kn G s := C.2.2.2.2.2.2.2.2.2.1
  refine W.zast C.1 C.2.1 (hR.at hq) ((hK.2 1 _ (tys_ok G (by omega))).1 n (fun j => .int (f j))) (fun q => by cases q) (by show ¬ (i < 0 ∨ (arrV _ _ _).slots.size ≤ _); rw [arrV_size]; exact hin) rfl rfl hd fun H1 e1 e2 e3 => ?_
  rw [hx] at e1
  refine kk p l e s m args below meth c G H1 _ ls C (hR.set hq e2 ?_ e3) (hS.put e2 e3 (Nat.le_add_right _ _)) hl
  show H1[gB G + q]? = some (vp_cell _ (n, .inl _))
  rw [e1]
  show some (Cell.setSlot (vp_cell (gA G 1) (n, .inl f)) _ _) = some (vp_cell (gA G 1) (n, _))
  rw [vp_cell_i, vp_cell_i, arrV_store]
  congr 2
  funext j
  by_cases hj : j = i.toNatClampNeg
  · subst hj; simp [updV, upd]
  · simp [updV, upd, hj]
theorem aw_bast {q n : Nat} {f : Nat → Int32} {i x y : Int32} (hd : decode M.2.1 pc = .ok (.bastore, 1)) (hp : pc + 1 = pc') (hq : h[q]? = some (.inl (2, n, .inl f))) (hin : vp_in i n) (hx : narrow .byte (.int x) = .int y) (hh : h.set q (.inl (2, n, .inl (upd f i.toNatClampNeg y))) = h') (kk : AW M R F pc' lv st h' nc ns) : AW M R F pc lv (.int x :: .int i :: .ref (q + 8) :: st) h nc ns := by
  subst hp
  subst hh
  intro p l e s m args below meth c G H locs ls C hR hS hl
  show W p l e R s m args below meth c H locs nc ns _ (F0 m pc ls (.int x :: .int i :: .ref (gr G (q + 8)) :: st.map (cv G)))
  rw [gr_dyn]
  have hK : Kn G s := C.2.2.2.2.2.2.2.2.2.1
  refine W.bast C.1 C.2.1 (hR.at hq) ((hK.2 2 _ (tys_ok G (by omega))).1 n (fun j => .int (f j))) (fun q => by cases q) (by show ¬ (i < 0 ∨ (arrV _ _ _).slots.size ≤ _); rw [arrV_size]; exact hin) rfl rfl hd fun H1 e1 e2 e3 => ?_
  rw [hx] at e1
  refine kk p l e s m args below meth c G H1 _ ls C (hR.set hq e2 ?_ e3) (hS.put e2 e3 (Nat.le_add_right _ _)) hl
  show H1[gB G + q]? = some (vp_cell _ (n, .inl _))
  rw [e1]
  show some (Cell.setSlot (vp_cell (gA G 2) (n, .inl f)) _ _) = some (vp_cell (gA G 2) (n, _))
  rw [vp_cell_i, vp_cell_i, arrV_store]
  congr 2
  funext j
  by_cases hj : j = i.toNatClampNeg
  · subst hj; simp [updV, upd]
  · simp [updV, upd, hj]
theorem aw_last {q n : Nat} {f : Nat → Int64} {i : Int32} {x : Int64} (hd : decode M.2.1 pc = .ok (.lastore, 1)) (hp : pc + 1 = pc') (hq : h[q]? = some (.inl (3, n, .inr (.inl f)))) (hin : vp_in i n) (hh : h.set q (.inl (3, n, .inr (.inl (vp_updL f i.toNatClampNeg x)))) = h') (kk : AW M R F pc' lv st h' nc ns) : AW M R F pc lv (.long x :: .int i :: .ref (q + 8) :: st) h nc ns := by
  subst hp
  subst hh
  intro p l e s m args below meth c G H locs ls C hR hS hl
  show W p l e R s m args below meth c H locs nc ns _ (F0 m pc ls (.long x :: .int i :: .ref (gr G (q + 8)) :: st.map (cv G)))
  rw [gr_dyn]
  have hK : Kn G s := C.2.2.2.2.2.2.2.2.2.1
  refine W.last C.1 C.2.1 (hR.at hq) ((hK.2 3 _ (tys_ok G (by omega))).1 n (fun j => .long (f j))) (fun q => by cases q) (by show ¬ (i < 0 ∨ (arrV _ _ _).slots.size ≤ _); rw [arrV_size]; exact hin) rfl rfl hd fun H1 e1 e2 e3 => ?_
  refine kk p l e s m args below meth c G H1 _ ls C (hR.set hq e2 ?_ e3) (hS.put e2 e3 (Nat.le_add_right _ _)) hl
  show H1[gB G + q]? = some (vp_cell _ (n, .inr (.inl _)))
  rw [e1]
  show some (Cell.setSlot (vp_cell (gA G 3) (n, .inr (.inl f))) _ _) = some (vp_cell (gA G 3) (n, _))
  rw [vp_cell_l, vp_cell_l, arrV_store]
  congr 2
  funext j
  by_cases hj : j = i.toNatClampNeg
  · subst hj; simp [updV, vp_updL]
  · simp [updV, vp_updL, hj]
theorem aw_aast {q n t r ci : Nat} {vs : List Value} {q0 : vw_C} {f : Nat → Option Nat} {i : Int32} (hd : decode M.2.1 pc = .ok (.aastore, 1)) (hp : pc + 1 = pc') (hq : h[q]? = some (.inl (t, n, .inr (.inr (.inr (.inr f)))))) (ht : t < 9) (hE : aty t = .object q0.1) (hr : h[r]? = some (.inr (ci, vs))) (hc : cls[ci]? = some q0) (hin : vp_in i n) (hh : h.set q (.inl (t, n, .inr (.inr (.inr (.inr (va_up f i.toNatClampNeg (some (r + 8)))))))) = h') (kk : AW M R F pc' lv st h' nc ns) : AW M R F pc lv (.ref (r + 8) :: .int i :: .ref (q + 8) :: st) h nc ns := by
  subst hp
  subst hh
  intro p l e s m args below meth c G H locs ls C hR hS hl
  show W p l e R s m args below meth c H locs nc ns _ (F0 m pc ls (.ref (gr G (r + 8)) :: .int i :: .ref (gr G (q + 8)) :: st.map (cv G)))
  rw [gr_dyn, gr_dyn]
  have hK : Kn G s := C.2.2.2.2.2.2.2.2.2.1
  have hlt : i.toNatClampNeg < n := Nat.not_le.mp fun q => hin (Or.inr q)
  have h0 : ¬ i < 0 := fun q => hin (Or.inl q)
  obtain ⟨r', hr', cellV, g1, g2, g3, -⟩ := hR.at hr
  have hcls := (hK.1 ci q0 hc).2
  have htt := (hK.2 t _ (tys_ok G ht)).2
  dsimp only at htt
  rw [hE] at htt
  obtain ⟨kA, comp, k1, k2, k3, -⟩ := htt
  have hcomp : comp = (gD G).1 ci := Option.some.inj (k3.symm.trans hcls.1)
  subst hcomp
  obtain ⟨kC, hkC, -⟩ := hcls.2
  refine W.aast C.1 C.2.1 (hR.at hq) (fun q h => by cases h) (fun h => by cases h) k1 k2 rfl hkC ⟨h0, by show _ < (arrV _ _ _).slots.size; rw [arrV_size]; exact hlt⟩ g1 (fun q h => by rw [g3] at h; cases h) (by rw [g2]; exact hkC) (by rw [g2]; exact va_assign hcls) rfl rfl hd fun H1 e1 e2 e3 => ?_
  refine kk p l e s m args below meth c G H1 _ ls C (hR.set hq e2 ?_ e3) (hS.put e2 e3 (Nat.le_add_right _ _)) hl
  show H1[gB G + q]? = some (vp_cell _ (n, .inr (.inr (.inr (.inr _)))))
  rw [e1]
  show some (Cell.setSlot (vp_cell (gA G t) (n, .inr (.inr (.inr (.inr (fun j => (f j).map (gr G))))))) _ _) = some (vp_cell (gA G t) (n, _))
  rw [vp_cell_q, vp_cell_q, arrV_store]
  congr 2
  funext j
  by_cases hj : j = i.toNatClampNeg
  · subst hj; simp [updV, va_up, va_rf, gr_dyn]
  · simp [updV, va_up, hj]
theorem aw_alen {q t : Nat} {x : vp_A} {v : Int32} (hd : decode M.2.1 pc = .ok (.arraylength, 1)) (hp : pc + 1 = pc') (hq : h[q]? = some (.inl (t, x))) (ht : t < 9) (hv : Int32.ofNat x.1 = v) (kk : AW M R F pc' lv (.int v :: st) h nc ns) : AW M R F pc lv (.ref (q + 8) :: st) h nc ns := by
  subst hp
  intro p l e s m args below meth c G H locs ls C hR hS hl
  have K := kk p l e s m args below meth c G H locs ls C hR hS hl
  show W p l e R s m args below meth c H locs nc ns _ (F0 m pc ls (.ref (gr G (q + 8)) :: st.map (cv G)))
  rw [gr_dyn]
  have hx : (ca G x).1 = x.1 := by
    obtain ⟨n, f | f | f | f | f⟩ := x <;> rfl
  exact va_alen C.1 C.2.1 C.2.2.2.2.2.2.2.2.2.1 hR.2 q t (wsG_get hq) (tys_ok G ht) (by rw [hx]; exact hv) hd K
theorem aw_newa {t N r : Nat} {atype : ArrayType} {n : Int32} {a0 : vp_A} (hd : decode M.2.1 pc = .ok (.newarray atype, 2)) (hp : pc + 2 = pc') (ht : t < 9) (hty : newarray.typeOf atype = aty t) (hcw : Cond.arrayClass (newarray.typeOf atype) ∈ gw) (hraw : ∀ (U : State) (cA cB : ClassId), va_RA U cA (aty t) → U.vm.findClass ("[" ++ (aty t).toString) = some cB → cA = cB) (ha : ∀ (G : aG) (cA : ClassId), vp_cell cA (ca G a0) = arrV cA N (fun _ => defaultValue (aty t))) (hn : ¬ n < 0) (hN : n.toNatClampNeg = N) (hby : N * componentBytes (aty t) ≤ 536870912) (hc : nc + 1 ≤ R.cells) (hs : ns + N ≤ R.slots) (hr : h.length + 8 = r) (hh : h ++ [.inl (t, a0)] = h') (kk : AW M R F pc' lv (.ref r :: st) h' (nc + 1) (ns + N)) : AW M R F pc lv (.int n :: st) h nc ns := by
  subst hp
  subst hh
  subst hr
  intro p l e s m args below meth c G H locs ls C hR hS hl
  have hK : Kn G s := C.2.2.2.2.2.2.2.2.2.1
  show W p l e R s m args below meth c H locs nc ns _ (F0 m pc ls (.int n :: st.map (cv G)))
  refine va_newaK C.1 C.2.1 (C.2.2.2.2.2.2.2.1 _ hcw) rfl hd rfl hn hN (by rw [hty]; exact hby) hc hs rfl fun H1 cA e1 z1 o1 hAr hNm => ?_
  have hcA : gA G t = cA := hraw s _ _ (hK.2 t _ (tys_ok G ht)).2 (by rw [← hty]; exact hNm)
  have K := kk p l e s m args below meth c G H1 locs ls C (hR.push z1 (by
    show H1[gB G + h.length]? = some (vp_cell (gA G t) (ca G a0))
    rw [ha, hcA, ← hR.1, ← hty]
    exact e1) o1) ⟨Nat.le_trans hS.1 (by omega), fun x h1 h2 => (o1 x (Nat.lt_of_lt_of_le h1 hS.1)).trans (hS.2.1 x h1 h2), hS.2.2⟩ hl
  rw [show (Value.ref (h.length + 8) :: st).map (cv G) = Value.ref H.size :: st.map (cv G) by rw [hR.1, List.map_cons]; show Value.ref (gr G _) :: _ = _; rw [gr_dyn]] at K
  exact K
theorem aw_anew {t N r idx : Nat} {E : String} {n : Int32} (hd : decode M.2.1 pc = .ok (.anewarray idx, 3)) (hp : pc + 3 = pc') (ht : t < 9) (hty : aty t = .object E) (hcl : Cond.classLink M.1.cls idx E ∈ gw) (hov : E ∈ aoL) (hn : ¬ n < 0) (hN : n.toNatClampNeg = N) (hby : N * 4 ≤ 536870912) (hc : nc + 1 ≤ R.cells) (hs : ns + N ≤ R.slots) (hr : h.length + 8 = r) (hh : h ++ [.inl (t, N, .inr (.inr (.inr (.inr (fun _ => none)))))] = h') (kk : AW M R F pc' lv (.ref r :: st) h' (nc + 1) (ns + N)) : AW M R F pc lv (.int n :: st) h nc ns := by
  subst hp
  subst hh
  subst hr
  subst hN
  intro p l e s m args below meth c G H locs ls C hR hS hl
  have hK : Kn G s := C.2.2.2.2.2.2.2.2.2.1
  show W p l e R s m args below meth c H locs nc ns _ (F0 m pc ls (.int n :: st.map (cv G)))
  refine W.anew C.1 C.2.1 C.2.2.2.2.1 (C.2.2.2.2.2.2.2.1 _ hcl) (va_AO.use (C.2.2.2.2.2.2.2.2.1.2.2.1 E hov)) rfl hd rfl hn hby hc hs fun cA kA comp f1 f2 f3 f4 => ?_
  generalize hH1 : H.push ({ cls := cA, slots := Array.replicate n.toNatClampNeg .null, vm := .none } : Cell) = H1
  have z1 : H1.size = H.size + 1 := by rw [← hH1, Array.size_push]
  have e1 : H1[H.size]? = some (arrV cA n.toNatClampNeg (fun _ => .null)) := by rw [← hH1, Array.getElem?_push_size, ← arrV_new]
  have o1 : ∀ q : Nat, q < H.size → H1[q]? = H[q]? := fun q hq => by rw [← hH1, Array.getElem?_push, if_neg (Nat.ne_of_lt hq)]
  have htt := (hK.2 t _ (tys_ok G ht)).2
  dsimp only at htt
  rw [hty] at htt
  obtain ⟨kA', comp', k1, k2, k3, k4⟩ := htt
  have hcA : gA G t = cA := Option.some.inj (k4.symm.trans f1)
  have K := kk p l e s m args below meth c G H1 locs ls C (hR.push z1 (by
    show H1[gB G + h.length]? = some (vp_cell (gA G t) (n.toNatClampNeg, .inr (.inr (.inr (.inr _)))))
    rw [vp_cell_q, hcA, ← hR.1]
    exact e1) o1) ⟨Nat.le_trans hS.1 (by omega), fun x h1 h2 => (o1 x (Nat.lt_of_lt_of_le h1 hS.1)).trans (hS.2.1 x h1 h2), hS.2.2⟩ hl
  rw [show (Value.ref (h.length + 8) :: st).map (cv G) = Value.ref H.size :: st.map (cv G) by rw [hR.1, List.map_cons]; show Value.ref (gr G _) :: _ = _; rw [gr_dyn]] at K
  exact K
theorem aw_new (hCA : ClsAll) {ci r idx N : Nat} {E : String} {T : u_T} {fs : List Value} {tyf : Nat → FieldType} (hd : decode M.2.1 pc = .ok (.new idx, 3)) (hp : pc + 3 = pc') (hc : cls[ci]? = some (E, T, N)) (hcl : Cond.classLink M.1.cls idx E ∈ gw) (hins : Cond.instantiable E N ∈ gw) (hini : Cond.initialized E ∈ gw) (hty : ∀ k, k < N → parseFieldDescriptor (T k).2.2.1 = some (tyf k)) (hfs : ∀ j, j < N → defaultValue (tyf j) = vp_V fs j) (hcv : ∀ G : aG, fs.map (cv G) = fs) (hce : nc + 1 ≤ R.cells) (hsl : ns + N ≤ R.slots) (hr : h.length + 8 = r) (hh : h ++ [.inr (ci, fs)] = h') (kk : AW M R F pc' lv (.ref r :: st) h' (nc + 1) (ns + N)) : AW M R F pc lv st h nc ns := by
  subst hp
  subst hh
  subst hr
  intro p l e s m args below meth c G H locs ls C hR hS hl
  have hK : Kn G s := C.2.2.2.2.2.2.2.2.2.1
  have hts := C.2.2.2.2.2.2.2.1
  have hKn := hK.1 ci _ hc
  refine W.newcK C.1 C.2.1 C.2.2.2.2.1 (hts _ hcl) (hts _ hins) (hts _ hini) rfl hd hce hsl hKn.2.1 rfl fun H1 kC hkC e1 z1 o1 => ?_
  have K := kk p l e s m args below meth c G H1 locs ls C (hR.push z1 (by
    refine ⟨_, hc, ?_⟩
    show t_OB (gB G + h.length) _ _ _ H1 (vp_V (fs.map (cv G)))
    rw [hcv, ← hR.1]
    exact (u_born tyf hts (hCA ci _ hc).1 hKn hkC e1 hty).to hfs) o1) ⟨Nat.le_trans hS.1 (by omega), fun x h1 h2 => (o1 x (Nat.lt_of_lt_of_le h1 hS.1)).trans (hS.2.1 x h1 h2), hS.2.2⟩ hl
  rw [show (Value.ref (h.length + 8) :: st).map (cv G) = Value.ref H.size :: st.map (cv G) by rw [hR.1, List.map_cons]; show Value.ref (gr G _) :: _ = _; rw [gr_dyn]] at K
  exact K
end AWh
