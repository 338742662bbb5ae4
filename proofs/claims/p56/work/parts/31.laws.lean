/-! THE LAWS OVER THE PURE STATE -/
theorem rokD {D mc0 ms0 : Nat} {M : aM} {d nc ns mc ms : Nat} (h1 : d + 1 ≤ D) (h2 : M.2.2.1 ≤ 22) (h3 : nc + mc ≤ mc0) (h4 : ns + ms ≤ ms0) : RoomOk (rmD D mc0 ms0) M d nc ns mc ms := by
  refine ⟨h1, ?_, h3, h4⟩
  show 19 + M.2.2.1 + 41 * d ≤ 41 * D
  omega
/-- locals that are no longer known -/
def LvS (a b : List (Option Value)) : Prop := ∀ (i : Nat) (v : Value), a[i]? = some (some v) → b[i]? = some (some v)
theorem lz_0 : LvS [] [] := fun _ _ h => h
theorem lz_k {a b : List (Option Value)} {x : Option Value} (h : LvS a b) : LvS (x :: a) (x :: b) := fun i v hi => by
  cases i with
  | zero => exact hi
  | succ i => simp only [List.getElem?_cons_succ] at hi ⊢; exact h i v hi
theorem lz_d {a b : List (Option Value)} {x : Option Value} (h : LvS a b) : LvS (none :: a) (x :: b) := fun i v hi => by
  cases i with
  | zero => simp at hi
  | succ i => simp only [List.getElem?_cons_succ] at hi ⊢; exact h i v hi
theorem fv_0 (q : Nat) (s : Nat → Int32) (j : Nat) : fv q s j 0 = .int (s j) := rfl
theorem Mo.eq {s s1 s2 : SS} (h : Mo s s1) (e : s2.2.2.2.2 = s1.2.2.2.2) : Mo s s2 := by
  obtain ⟨a, b, c, d, r⟩ := s1
  obtain ⟨a', b', c', d', r'⟩ := s2
  dsimp only at e
  subst e
  exact h
theorem Mo.ofS {s s2 : SS} {q k : Nat} {v : Int32} (e : s2 = pS s q k v) : Mo s s2 := (Mo.rf s).eq (by rw [e]; rfl)
theorem Mo.ofI {s s2 : SS} {q k : Nat} {v : Int32} (e : s2 = pI s q k v) : Mo s s2 := (Mo.rf s).eq (by rw [e]; rfl)
theorem Mo.ofJ {s s2 : SS} {q k : Nat} {v : Int64} (e : s2 = pJ s q k v) : Mo s s2 := (Mo.rf s).eq (by rw [e]; rfl)
theorem Mo.ofR {s s2 : SS} {q k : Nat} {v : Option Nat} (e : s2 = pR s q k v) : Mo s s2 := (Mo.rf s).eq (by rw [e]; rfl)
section AWz
variable {M : aM} {R : Room} {F : aF} {pc pc' : Nat} {lv lv' : List (Option Value)} {st : List Value} {h h' : List aE} {nc ns : Nat} {s s' : SS} {q ci k n t : Nat}
theorem aw_iincV {i : Nat} {c : Int} {x y : Int32} (hd : decode M.2.1 pc = .ok (.iinc i c, 3)) (hp : pc + 3 = pc') (hl1 : lv[i]? = some (some (.int x))) (hi : i < M.2.2.1) (hy : x + Int32.ofInt c = y) (hl0 : lst lv i (.int y) = lv') (kk : AW M R F pc' lv' st h nc ns) : AW M R F pc lv st h nc ns := by
  subst hy
  exact aw_iinc hd hp hl1 hi hl0 kk
theorem aw_gi {idx : Nat} {ty : FieldType} {fin : Bool} (H : HH s h) (hO : Ob s q ci) (hc : ci < 13) (hL : (LF ci)[k]? = some 0) (hd : decode M.2.1 pc = .ok (.getfield idx, 3)) (hp : pc + 3 = pc') (hf : FL M.1.cls idx ci k ty fin) (kk : AW M R F pc' lv (.int (zS s q k) :: st) h nc ns) : AW M R F pc lv (.ref (q + 8) :: st) h nc ns :=
  aw_get clsAll hd hp hf (H.ob hO hc) (by rw [fvs_get _ _ _ _ _ _ hL, Nat.zero_add]; rfl) kk
theorem aw_gr {idx e : Nat} {ty : FieldType} {fin : Bool} {v : Value} (H : HH s h) (hO : Ob s q ci) (hc : ci < 13) (hL : (LF ci)[k]? = some e) (hv : fv q (s.1 q) k e = v) (hd : decode M.2.1 pc = .ok (.getfield idx, 3)) (hp : pc + 3 = pc') (hf : FL M.1.cls idx ci k ty fin) (kk : AW M R F pc' lv (v :: st) h nc ns) : AW M R F pc lv (.ref (q + 8) :: st) h nc ns :=
  aw_get clsAll hd hp hf (H.ob hO hc) (by rw [fvs_get _ _ _ _ _ _ hL, Nat.zero_add, hv]) kk
theorem aw_pi {idx : Nat} {ty : FieldType} {v : Int32} (e : s' = pS s q k v) (H : HH s h) (hO : Ob s q ci) (hc : ci < 13) (hL : (LF ci)[k]? = some 0) (hd : decode M.2.1 pc = .ok (.putfield idx, 3)) (hp : pc + 3 = pc') (hf : FL M.1.cls idx ci k ty false) (hn : okv ty (.int v) = true) (kk : ∀ h', HH s' h' → AW M R F pc' lv st h' nc ns) : AW M R F pc lv (.int v :: .ref (q + 8) :: st) h nc ns := by
  subst e
  refine aw_put clsAll hd hp hf (H.ob hO hc) ?_ hn rfl (kk _ (H.putS hO hc hL v rfl))
  rw [fvs_len]
  exact (List.getElem?_eq_some_iff.mp hL).1
theorem aw_ia {i : Int32} (H : HH s h) (hA : Ar s q 0 n) (hin : inB i n) (hd : decode M.2.1 pc = .ok (.iaload, 1)) (hp : pc + 1 = pc') (kk : AW M R F pc' lv (.int (zI s q i.toInt.toNat) :: st) h nc ns) : AW M R F pc lv (.int i :: .ref (q + 8) :: st) h nc ns :=
  aw_iald hd hp (H.ai hA (by omega)) (inB_vp hin) rfl kk
theorem aw_za {i : Int32} (H : HH s h) (hA : Ar s q 1 n) (hin : inB i n) (hd : decode M.2.1 pc = .ok (.baload, 1)) (hp : pc + 1 = pc') (kk : AW M R F pc' lv (.int (zI s q i.toInt.toNat) :: st) h nc ns) : AW M R F pc lv (.int i :: .ref (q + 8) :: st) h nc ns :=
  aw_zald hd hp (H.ai hA (by omega)) (inB_vp hin) rfl kk
theorem aw_ba {i : Int32} (H : HH s h) (hA : Ar s q 2 n) (hin : inB i n) (hd : decode M.2.1 pc = .ok (.baload, 1)) (hp : pc + 1 = pc') (kk : AW M R F pc' lv (.int (zI s q i.toInt.toNat) :: st) h nc ns) : AW M R F pc lv (.int i :: .ref (q + 8) :: st) h nc ns :=
  aw_bald hd hp (H.ai hA (by omega)) (inB_vp hin) rfl kk
theorem aw_ja {i : Int32} (H : HH s h) (hA : Ar s q 3 n) (hin : inB i n) (hd : decode M.2.1 pc = .ok (.laload, 1)) (hp : pc + 1 = pc') (kk : AW M R F pc' lv (.long (zJ s q i.toInt.toNat) :: st) h nc ns) : AW M R F pc lv (.int i :: .ref (q + 8) :: st) h nc ns :=
  aw_lald hd hp (H.aj hA) (inB_vp hin) rfl kk
theorem aw_is {i x : Int32} (e : s' = pI s q i.toInt.toNat x) (H : HH s h) (hA : Ar s q 0 n) (hin : inB i n) (hd : decode M.2.1 pc = .ok (.iastore, 1)) (hp : pc + 1 = pc') (kk : ∀ h', HH s' h' → AW M R F pc' lv st h' nc ns) : AW M R F pc lv (.int x :: .int i :: .ref (q + 8) :: st) h nc ns := by
  subst e
  exact aw_iast hd hp (H.ai hA (by omega)) (inB_vp hin) rfl (kk _ (H.putI hA (by omega) _ x rfl))
theorem aw_bs {i x y : Int32} (e : s' = pI s q i.toInt.toNat y) (H : HH s h) (hA : Ar s q 2 n) (hin : inB i n) (hx : narrow .byte (.int x) = .int y) (hd : decode M.2.1 pc = .ok (.bastore, 1)) (hp : pc + 1 = pc') (kk : ∀ h', HH s' h' → AW M R F pc' lv st h' nc ns) : AW M R F pc lv (.int x :: .int i :: .ref (q + 8) :: st) h nc ns := by
  subst e
  exact aw_bast hd hp (H.ai hA (by omega)) (inB_vp hin) hx rfl (kk _ (H.putI hA (by omega) _ y rfl))
theorem aw_js {i : Int32} {x : Int64} (e : s' = pJ s q i.toInt.toNat x) (H : HH s h) (hA : Ar s q 3 n) (hin : inB i n) (hd : decode M.2.1 pc = .ok (.lastore, 1)) (hp : pc + 1 = pc') (kk : ∀ h', HH s' h' → AW M R F pc' lv st h' nc ns) : AW M R F pc lv (.long x :: .int i :: .ref (q + 8) :: st) h nc ns := by
  subst e
  exact aw_last hd hp (H.aj hA) (inB_vp hin) rfl (kk _ (H.putJ hA _ x rfl))
theorem aw_zastN {f : Nat → Int32} {i x y : Int32} (hd : decode M.2.1 pc = .ok (.bastore, 1)) (hp : pc + 1 = pc') (hq : h[q]? = some (.inl (1, n, .inl f))) (hin : vp_in i n) (hx : narrow .boolean (.int x) = .int y) (hh : h.set q (.inl (1, n, .inl (upd f i.toNatClampNeg y))) = h') (kk : AW M R F pc' lv st h' nc ns) : AW M R F pc lv (.int x :: .int i :: .ref (q + 8) :: st) h nc ns := by
  subst hp
  subst hh
  intro p l e s m args below meth c G H locs ls C hR hS hl
  show W p l e R s m args below meth c H locs nc ns _ (F0 m pc ls (.int x :: .int i :: .ref (gr G (q + 8)) :: st.map (cv G)))
  rw [gr_dyn]
  have hK : Kn G s := C.2.2.2.2.2.2.2.2.2.1
  refine W.zast C.1 C.2.1 (hR.at hq) ((hK.2 1 _ (tys_ok G (by omega))).1 n (fun j => .int (f j))) (fun q => by cases q) (by show ¬ (i < 0 ∨ (arrV _ _ _).slots.size ≤ _); rw [arrV_size]; exact hin) rfl rfl hd fun H1 e1 e2 e3 => ?_
  rw [hx] at e1
  refine kk p l e s m args below meth c G H1 _ ls C (hR.set hq e2 ?_ e3) (hS.put e2 e3 (Nat.le_add_right _ _)) hl
  show H1[gB G + q]? = some (vp_cell _ (n, .inl _))
  rw [e1]
  show some (Cell.setSlot (vp_cell (gA G 1) (n, .inl f)) _ _) = some (vp_cell (gA G 1) (n, _))
  rw [vp_cell_i, vp_cell_i, arrV_store]
  congr 2
  funext j
  by_cases hj : j = i.toNatClampNeg
  · subst hj; simp [updV, upd]
  · simp [updV, upd, hj]
theorem aw_zs {i x : Int32} (e : s' = pI s q i.toInt.toNat (x &&& 1)) (H : HH s h) (hA : Ar s q 1 n) (hin : inB i n) (hd : decode M.2.1 pc = .ok (.bastore, 1)) (hp : pc + 1 = pc') (kk : ∀ h', HH s' h' → AW M R F pc' lv st h' nc ns) : AW M R F pc lv (.int x :: .int i :: .ref (q + 8) :: st) h nc ns := by
  subst e
  exact aw_zastN hd hp (H.ai hA (by omega)) (inB_vp hin) (y := x &&& 1) rfl rfl (kk _ (H.putI hA (by omega) _ _ rfl))
theorem aw_al {v : Int32} (H : HH s h) (hA : Ar s q t n) (ht : t < 9) (hv : Int32.ofNat n = v) (hd : decode M.2.1 pc = .ok (.arraylength, 1)) (hp : pc + 1 = pc') (kk : AW M R F pc' lv (.int v :: st) h nc ns) : AW M R F pc lv (.ref (q + 8) :: st) h nc ns := by
  rcases (by omega : t < 3 ∨ t = 3 ∨ 3 < t) with h3 | h3 | h3
  · exact aw_alen hd hp (H.ai hA h3) ht hv kk
  · subst h3
    exact aw_alen hd hp (H.aj hA) ht hv kk
  · exact aw_alen hd hp (H.arr hA h3 ht) ht hv kk
theorem aw_ra_ {i : Int32} {E : String} {o : Option Nat} (H : HH s h) (hA : Ar s q t n) (h3 : 3 < t) (ht : t < 9) (hE : aty t = .object E) (hin : inB i n) (ho : zR s q i.toInt.toNat = o) (hd : decode M.2.1 pc = .ok (.aaload, 1)) (hp : pc + 1 = pc') (kk : AW M R F pc' lv (va_rf (o.map (· + 8)) :: st) h nc ns) : AW M R F pc lv (.int i :: .ref (q + 8) :: st) h nc ns := by
  subst ho
  exact aw_aald hd hp (H.arr hA h3 ht) ht hE (inB_vp hin) rfl kk
/-- KIND_ABOVE -/
theorem aw_gka {idx : Nat} (hd : decode M.2.1 pc = .ok (.getstatic idx, 3)) (hp : pc + 3 = pc') (hl0 : (M.1.cls, idx, "ThirtyThreeBelow", "KIND_ABOVE", "[I", "ThirtyThreeBelow") ∈ nstF) (kk : AW M R F pc' lv (.ref 1 :: st) h nc ns) : AW M R F pc lv st h nc ns := by
  subst hp
  intro p l e s m args below meth c G H locs ls C hR hS hl
  have K := kk p l e s m args below meth c G H locs ls C hR hS hl
  obtain ⟨-, z1, -⟩ := C.2.2.2.2.2.2.2.2.2.2.1
  exact va_getsN C.1 C.2.1 z1 hS C.2.2.2.2.1 (va_Nw.use rfl (C.2.2.2.2.2.2.2.2.1.2.1 _ hl0)) (fun x hx => hx) hd K
theorem aw_kal (hd : decode M.2.1 pc = .ok (.arraylength, 1)) (hp : pc + 1 = pc') (kk : AW M R F pc' lv (.int 8 :: st) h nc ns) : AW M R F pc lv (.ref 1 :: st) h nc ns := by
  subst hp
  intro p l e s m args below meth c G H locs ls C hR hS hl
  have K := kk p l e s m args below meth c G H locs ls C hR hS hl
  obtain ⟨-, -, t1, -⟩ := C.2.2.2.2.2.2.2.2.2.2.1
  exact va_tlen C.1 C.2.1 t1 hS rfl hd K
def kAi (j : Nat) : Int32 := match j with
  | 0 => -1
  | 1 => 0
  | 2 => 1
  | 3 => 2
  | 4 => 2
  | 5 => 4
  | 6 => 1
  | _ => 0
theorem kAb_i (j : Nat) : kAb j = .int (kAi j) := by
  unfold kAb kAi
  rfl
theorem aw_kald {i : Int32} (hin : inB i 8) (hd : decode M.2.1 pc = .ok (.iaload, 1)) (hp : pc + 1 = pc') (kk : AW M R F pc' lv (.int (kAi i.toInt.toNat) :: st) h nc ns) : AW M R F pc lv (.int i :: .ref 1 :: st) h nc ns := by
  subst hp
  intro p l e s m args below meth c G H locs ls C hR hS hl
  have K := kk p l e s m args below meth c G H locs ls C hR hS hl
  obtain ⟨-, -, t1, -⟩ := C.2.2.2.2.2.2.2.2.2.2.1
  exact va_ti C.1 C.2.1 t1 hS (inB_vp hin) (kAb_i _) hd K
end AWz
