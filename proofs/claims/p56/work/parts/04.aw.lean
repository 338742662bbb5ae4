/-- what a walk of method M stands on -/
def Cx (M : aM) (G : aG) (p : Program) (s : State) (m : MethodId) (args : Array Value) (meth : Method) (c : Code) : Prop :=
  p.tables.exec = Jvm.exec ∧ c.code = M.2.1 ∧ meth.sig.returnType = M.2.2.2 ∧ c.maxLocals = M.2.2.1 ∧ s.vm.findClass M.1.cls = some m.cls ∧ meth.locks = false ∧ meth.name = M.1.name ∧ (∀ w ∈ gw, w.before args s = true) ∧ Nst s ∧ Kn G s ∧ St G s s.heap ∧ gB G ≤ s.heap.size
abbrev aF : Type := aG → List Frame → Array Value → State → State → Prop
/-- method M at pc, locals lv, operands st, world h: the machine comes to its end F -/
def AW (M : aM) (R : Room) (F : aF) (pc : Nat) (lv : List (Option Value)) (st : List Value) (h : List aE) (nc ns : Nat) : Prop :=
  ∀ (p : Program) (l : Launch) (e : Env) (s : State) (m : MethodId) (args : Array Value) (below : List Frame) (meth : Method) (c : Code) (G : aG) (H : Heap) (locs : List Loc) (ls : Array Slot),
    Cx M G p s m args meth c → Rep G h H → va_S (aS G) s.heap H locs → Lv G ls M.2.2.1 lv → W p l e R s m args below meth c H locs nc ns (F G below args s) (F0 m pc ls (st.map (cv G)))
section AWs
variable {M : aM} {R : Room} {F : aF} {pc pc' : Nat} {lv lv' : List (Option Value)} {st : List Value} {h h' : List aE} {nc ns : Nat}
theorem AW.lv_le (hs : ∀ (i : Nat) (v : Value), lv'[i]? = some (some v) → lv[i]? = some (some v)) (k : AW M R F pc lv' st h nc ns) : AW M R F pc lv st h nc ns :=
  fun p l e s m args below meth c G H locs ls C hR hS hl => k p l e s m args below meth c G H locs ls C hR hS (hl.le hs)
theorem AW.widen {nc' ns' : Nat} (h1 : nc ≤ nc') (h2 : ns ≤ ns') (k : AW M R F pc lv st h nc' ns') : AW M R F pc lv st h nc ns :=
  fun p l e s m args below meth c G H locs ls C hR hS hl => W.widen h1 h2 (k p l e s m args below meth c G H locs ls C hR hS hl)
theorem aw_iconst {n : Int} {v : Int32} (hd : decode M.2.1 pc = .ok (.iconst n, 1)) (hp : pc + 1 = pc') (hv : Int32.ofInt n = v) (k : AW M R F pc' lv (.int v :: st) h nc ns) : AW M R F pc lv (st) h nc ns := by
  subst hp
  exact fun p l e s m args below meth c G H locs ls C hR hS hl => lv_iconst C.1 C.2.1 hd hv (k p l e s m args below meth c G H locs ls C hR hS hl)
theorem aw_bipush {n : Int} {v : Int32} (hd : decode M.2.1 pc = .ok (.bipush n, 2)) (hp : pc + 2 = pc') (hv : (Int8.ofInt n).toInt32 = v) (k : AW M R F pc' lv (.int v :: st) h nc ns) : AW M R F pc lv (st) h nc ns := by
  subst hp
  exact fun p l e s m args below meth c G H locs ls C hR hS hl => lv_bipush C.1 C.2.1 hd hv (k p l e s m args below meth c G H locs ls C hR hS hl)
theorem aw_sipush {n : Int} {v : Int32} (hd : decode M.2.1 pc = .ok (.sipush n, 3)) (hp : pc + 3 = pc') (hv : (Int16.ofInt n).toInt32 = v) (k : AW M R F pc' lv (.int v :: st) h nc ns) : AW M R F pc lv (st) h nc ns := by
  subst hp
  exact fun p l e s m args below meth c G H locs ls C hR hS hl => lv_sipush C.1 C.2.1 hd hv (k p l e s m args below meth c G H locs ls C hR hS hl)
theorem aw_lconst {n : Fin 2} {v : Int64} (hd : decode M.2.1 pc = .ok (.lconst n, 1)) (hp : pc + 1 = pc') (hv : Int64.ofNat (n : Nat) = v) (k : AW M R F pc' lv (.long v :: st) h nc ns) : AW M R F pc lv (st) h nc ns := by
  subst hp
  exact fun p l e s m args below meth c G H locs ls C hR hS hl => lv_lconst C.1 C.2.1 hd hv (k p l e s m args below meth c G H locs ls C hR hS hl)
theorem aw_null (hd : decode M.2.1 pc = .ok (.aconst_null, 1)) (hp : pc + 1 = pc') (k : AW M R F pc' lv (.null :: st) h nc ns) : AW M R F pc lv (st) h nc ns := by
  subst hp
  exact fun p l e s m args below meth c G H locs ls C hR hS hl => lv_null C.1 C.2.1 hd (k p l e s m args below meth c G H locs ls C hR hS hl)
theorem aw_iadd {x y : Int32} (hd : decode M.2.1 pc = .ok (.iadd, 1)) (hp : pc + 1 = pc') (k : AW M R F pc' lv (.int (x + y) :: st) h nc ns) : AW M R F pc lv (.int y :: .int x :: st) h nc ns := by
  subst hp
  exact fun p l e s m args below meth c G H locs ls C hR hS hl => lv_iadd C.1 C.2.1 hd (k p l e s m args below meth c G H locs ls C hR hS hl)
theorem aw_isub {x y : Int32} (hd : decode M.2.1 pc = .ok (.isub, 1)) (hp : pc + 1 = pc') (k : AW M R F pc' lv (.int (x - y) :: st) h nc ns) : AW M R F pc lv (.int y :: .int x :: st) h nc ns := by
  subst hp
  exact fun p l e s m args below meth c G H locs ls C hR hS hl => lv_isub C.1 C.2.1 hd (k p l e s m args below meth c G H locs ls C hR hS hl)
theorem aw_imul {x y : Int32} (hd : decode M.2.1 pc = .ok (.imul, 1)) (hp : pc + 1 = pc') (k : AW M R F pc' lv (.int (x * y) :: st) h nc ns) : AW M R F pc lv (.int y :: .int x :: st) h nc ns := by
  subst hp
  exact fun p l e s m args below meth c G H locs ls C hR hS hl => lv_imul C.1 C.2.1 hd (k p l e s m args below meth c G H locs ls C hR hS hl)
theorem aw_iand {x y : Int32} (hd : decode M.2.1 pc = .ok (.iand, 1)) (hp : pc + 1 = pc') (k : AW M R F pc' lv (.int (x &&& y) :: st) h nc ns) : AW M R F pc lv (.int y :: .int x :: st) h nc ns := by
  subst hp
  exact fun p l e s m args below meth c G H locs ls C hR hS hl => lv_iand C.1 C.2.1 hd (k p l e s m args below meth c G H locs ls C hR hS hl)
theorem aw_ior {x y : Int32} (hd : decode M.2.1 pc = .ok (.ior, 1)) (hp : pc + 1 = pc') (k : AW M R F pc' lv (.int (x ||| y) :: st) h nc ns) : AW M R F pc lv (.int y :: .int x :: st) h nc ns := by
  subst hp
  exact fun p l e s m args below meth c G H locs ls C hR hS hl => lv_ior C.1 C.2.1 hd (k p l e s m args below meth c G H locs ls C hR hS hl)
theorem aw_ixor {x y : Int32} (hd : decode M.2.1 pc = .ok (.ixor, 1)) (hp : pc + 1 = pc') (k : AW M R F pc' lv (.int (x ^^^ y) :: st) h nc ns) : AW M R F pc lv (.int y :: .int x :: st) h nc ns := by
  subst hp
  exact fun p l e s m args below meth c G H locs ls C hR hS hl => lv_ixor C.1 C.2.1 hd (k p l e s m args below meth c G H locs ls C hR hS hl)
theorem aw_ishl {x y : Int32} (hd : decode M.2.1 pc = .ok (.ishl, 1)) (hp : pc + 1 = pc') (k : AW M R F pc' lv (.int (x <<< (y &&& 31)) :: st) h nc ns) : AW M R F pc lv (.int y :: .int x :: st) h nc ns := by
  subst hp
  exact fun p l e s m args below meth c G H locs ls C hR hS hl => lv_ishl C.1 C.2.1 hd (k p l e s m args below meth c G H locs ls C hR hS hl)
theorem aw_ishr {x y : Int32} (hd : decode M.2.1 pc = .ok (.ishr, 1)) (hp : pc + 1 = pc') (k : AW M R F pc' lv (.int (x >>> (y &&& 31)) :: st) h nc ns) : AW M R F pc lv (.int y :: .int x :: st) h nc ns := by
  subst hp
  exact fun p l e s m args below meth c G H locs ls C hR hS hl => lv_ishr C.1 C.2.1 hd (k p l e s m args below meth c G H locs ls C hR hS hl)
theorem aw_iushr {x y : Int32} (hd : decode M.2.1 pc = .ok (.iushr, 1)) (hp : pc + 1 = pc') (k : AW M R F pc' lv (.int ((x.toUInt32 >>> (y.toUInt32 &&& Int32.toUInt32 31)).toInt32) :: st) h nc ns) : AW M R F pc lv (.int y :: .int x :: st) h nc ns := by
  subst hp
  exact fun p l e s m args below meth c G H locs ls C hR hS hl => lv_iushr C.1 C.2.1 hd rfl (k p l e s m args below meth c G H locs ls C hR hS hl)
theorem aw_idiv {x y : Int32} (hd : decode M.2.1 pc = .ok (.idiv, 1)) (hp : pc + 1 = pc') (hy : ¬ y = 0) (k : AW M R F pc' lv (.int (x / y) :: st) h nc ns) : AW M R F pc lv (.int y :: .int x :: st) h nc ns := by
  subst hp
  exact fun p l e s m args below meth c G H locs ls C hR hS hl => lv_idiv C.1 C.2.1 hd hy (k p l e s m args below meth c G H locs ls C hR hS hl)
theorem aw_irem {x y : Int32} (hd : decode M.2.1 pc = .ok (.irem, 1)) (hp : pc + 1 = pc') (hy : ¬ y = 0) (k : AW M R F pc' lv (.int (x % y) :: st) h nc ns) : AW M R F pc lv (.int y :: .int x :: st) h nc ns := by
  subst hp
  rw [← irem_eq_mod] at k
  exact fun p l e s m args below meth c G H locs ls C hR hS hl => lv_irem C.1 C.2.1 hd hy (k p l e s m args below meth c G H locs ls C hR hS hl)
theorem aw_ineg {x : Int32} (hd : decode M.2.1 pc = .ok (.ineg, 1)) (hp : pc + 1 = pc') (k : AW M R F pc' lv (.int (-x) :: st) h nc ns) : AW M R F pc lv (.int x :: st) h nc ns := by
  subst hp
  exact fun p l e s m args below meth c G H locs ls C hR hS hl => lv_ineg C.1 C.2.1 hd (k p l e s m args below meth c G H locs ls C hR hS hl)
theorem aw_ladd {x y : Int64} (hd : decode M.2.1 pc = .ok (.ladd, 1)) (hp : pc + 1 = pc') (k : AW M R F pc' lv (.long (x + y) :: st) h nc ns) : AW M R F pc lv (.long y :: .long x :: st) h nc ns := by
  subst hp
  exact fun p l e s m args below meth c G H locs ls C hR hS hl => lv_ladd C.1 C.2.1 hd (k p l e s m args below meth c G H locs ls C hR hS hl)
theorem aw_land {x y : Int64} (hd : decode M.2.1 pc = .ok (.land, 1)) (hp : pc + 1 = pc') (k : AW M R F pc' lv (.long (x &&& y) :: st) h nc ns) : AW M R F pc lv (.long y :: .long x :: st) h nc ns := by
  subst hp
  exact fun p l e s m args below meth c G H locs ls C hR hS hl => lv_land C.1 C.2.1 hd (k p l e s m args below meth c G H locs ls C hR hS hl)
theorem aw_lor {x y : Int64} (hd : decode M.2.1 pc = .ok (.lor, 1)) (hp : pc + 1 = pc') (k : AW M R F pc' lv (.long (x ||| y) :: st) h nc ns) : AW M R F pc lv (.long y :: .long x :: st) h nc ns := by
  subst hp
  exact fun p l e s m args below meth c G H locs ls C hR hS hl => lv_lor C.1 C.2.1 hd (k p l e s m args below meth c G H locs ls C hR hS hl)
theorem aw_lshl {x : Int64} {y : Int32} (hd : decode M.2.1 pc = .ok (.lshl, 1)) (hp : pc + 1 = pc') (k : AW M R F pc' lv (.long (x <<< (y.toInt64 &&& 63)) :: st) h nc ns) : AW M R F pc lv (.int y :: .long x :: st) h nc ns := by
  subst hp
  exact fun p l e s m args below meth c G H locs ls C hR hS hl => lv_lshl C.1 C.2.1 hd rfl (k p l e s m args below meth c G H locs ls C hR hS hl)
theorem aw_lcmp {x y : Int64} (hd : decode M.2.1 pc = .ok (.lcmp, 1)) (hp : pc + 1 = pc') (k : AW M R F pc' lv (.int (lg_cmp x y) :: st) h nc ns) : AW M R F pc lv (.long y :: .long x :: st) h nc ns := by
  subst hp
  exact fun p l e s m args below meth c G H locs ls C hR hS hl => W.lcmp C.1 C.2.1 hd (k p l e s m args below meth c G H locs ls C hR hS hl)
theorem aw_i2l {x : Int32} (hd : decode M.2.1 pc = .ok (.i2l, 1)) (hp : pc + 1 = pc') (k : AW M R F pc' lv (.long x.toInt64 :: st) h nc ns) : AW M R F pc lv (.int x :: st) h nc ns := by
  subst hp
  exact fun p l e s m args below meth c G H locs ls C hR hS hl => lv_i2l C.1 C.2.1 hd rfl (k p l e s m args below meth c G H locs ls C hR hS hl)
theorem aw_l2i {x : Int64} (hd : decode M.2.1 pc = .ok (.l2i, 1)) (hp : pc + 1 = pc') (k : AW M R F pc' lv (.int x.toInt32 :: st) h nc ns) : AW M R F pc lv (.long x :: st) h nc ns := by
  subst hp
  exact fun p l e s m args below meth c G H locs ls C hR hS hl => lv_l2i C.1 C.2.1 hd rfl (k p l e s m args below meth c G H locs ls C hR hS hl)
theorem aw_i2b {x : Int32} (hd : decode M.2.1 pc = .ok (.i2b, 1)) (hp : pc + 1 = pc') (k : AW M R F pc' lv (.int x.toInt8.toInt32 :: st) h nc ns) : AW M R F pc lv (.int x :: st) h nc ns := by
  subst hp
  exact fun p l e s m args below meth c G H locs ls C hR hS hl => lv_i2b C.1 C.2.1 hd rfl (k p l e s m args below meth c G H locs ls C hR hS hl)
theorem aw_i2c {x : Int32} (hd : decode M.2.1 pc = .ok (.i2c, 1)) (hp : pc + 1 = pc') (k : AW M R F pc' lv (.int (x.toUInt32 % 65536).toInt32 :: st) h nc ns) : AW M R F pc lv (.int x :: st) h nc ns := by
  subst hp
  exact fun p l e s m args below meth c G H locs ls C hR hS hl => lv_i2c C.1 C.2.1 hd rfl (k p l e s m args below meth c G H locs ls C hR hS hl)
theorem aw_dup {va : Value} (hd : decode M.2.1 pc = .ok (.dup, 1)) (hp : pc + 1 = pc') (hva : va.category = 1) (k : AW M R F pc' lv (va :: va :: st) h nc ns) : AW M R F pc lv (va :: st) h nc ns := by
  subst hp
  exact fun p l e s m args below meth c G H locs ls C hR hS hl => lv_dup C.1 C.2.1 hd ((cv_cat G va).trans hva) (k p l e s m args below meth c G H locs ls C hR hS hl)
theorem aw_dup2 {va vb : Value} (hd : decode M.2.1 pc = .ok (.dup2, 1)) (hp : pc + 1 = pc') (hva : va.category = 1) (hvb : vb.category = 1) (k : AW M R F pc' lv (va :: vb :: va :: vb :: st) h nc ns) : AW M R F pc lv (va :: vb :: st) h nc ns := by
  subst hp
  exact fun p l e s m args below meth c G H locs ls C hR hS hl => lv_dup2_11 C.1 C.2.1 hd ((cv_cat G va).trans hva) ((cv_cat G vb).trans hvb) (k p l e s m args below meth c G H locs ls C hR hS hl)
theorem aw_pop {va : Value} (hd : decode M.2.1 pc = .ok (.pop, 1)) (hp : pc + 1 = pc') (hva : va.category = 1) (k : AW M R F pc' lv st h nc ns) : AW M R F pc lv (va :: st) h nc ns := by
  subst hp
  exact fun p l e s m args below meth c G H locs ls C hR hS hl => lv_pop C.1 C.2.1 hd ((cv_cat G va).trans hva) (k p l e s m args below meth c G H locs ls C hR hS hl)
theorem aw_iload_n {i : Fin 4} {x : Int32} (hd : decode M.2.1 pc = .ok (.iload_n i, 1)) (hp : pc + 1 = pc') (hl0 : lv[(i : Nat)]? = some (some (.int x))) (k : AW M R F pc' lv (.int x :: st) h nc ns) : AW M R F pc lv st h nc ns := by
  subst hp
  exact fun p l e s m args below meth c G H locs ls C hR hS hl => lv_iload_n C.1 C.2.1 hd rfl (hl.get hl0) (k p l e s m args below meth c G H locs ls C hR hS hl)
theorem aw_iload {i : Nat} {x : Int32} (hd : decode M.2.1 pc = .ok (.iload i, 2)) (hp : pc + 2 = pc') (hl0 : lv[i]? = some (some (.int x))) (k : AW M R F pc' lv (.int x :: st) h nc ns) : AW M R F pc lv st h nc ns := by
  subst hp
  exact fun p l e s m args below meth c G H locs ls C hR hS hl => lv_iload C.1 C.2.1 hd (hl.get hl0) (k p l e s m args below meth c G H locs ls C hR hS hl)
theorem aw_lload_n {i : Fin 4} {x : Int64} (hd : decode M.2.1 pc = .ok (.lload_n i, 1)) (hp : pc + 1 = pc') (hl0 : lv[(i : Nat)]? = some (some (.long x))) (k : AW M R F pc' lv (.long x :: st) h nc ns) : AW M R F pc lv st h nc ns := by
  subst hp
  exact fun p l e s m args below meth c G H locs ls C hR hS hl => lv_lload_n C.1 C.2.1 hd rfl (hl.get hl0) (k p l e s m args below meth c G H locs ls C hR hS hl)
theorem aw_lload {i : Nat} {x : Int64} (hd : decode M.2.1 pc = .ok (.lload i, 2)) (hp : pc + 2 = pc') (hl0 : lv[i]? = some (some (.long x))) (k : AW M R F pc' lv (.long x :: st) h nc ns) : AW M R F pc lv st h nc ns := by
  subst hp
  exact fun p l e s m args below meth c G H locs ls C hR hS hl => lv_lload C.1 C.2.1 hd (hl.get hl0) (k p l e s m args below meth c G H locs ls C hR hS hl)
def isA (v : Value) : Bool := match v with
  | .ref _ => true
  | .null => true
  | _ => false
theorem aw_aload_n {i : Fin 4} {v : Value} (hd : decode M.2.1 pc = .ok (.aload_n i, 1)) (hp : pc + 1 = pc') (hl0 : lv[(i : Nat)]? = some (some v)) (ha : isA v = true) (k : AW M R F pc' lv (v :: st) h nc ns) : AW M R F pc lv st h nc ns := by
  subst hp
  refine fun p l e s m args below meth c G H locs ls C hR hS hl => ?_
  have hg := hl.get hl0
  have kk := k p l e s m args below meth c G H locs ls C hR hS hl
  cases v with
  | ref x => exact lv_aload_n C.1 C.2.1 hd rfl hg kk
  | null => exact lv_aload_nN C.1 C.2.1 hd rfl hg kk
  | _ => cases ha
theorem aw_aload {i : Nat} {v : Value} (hd : decode M.2.1 pc = .ok (.aload i, 2)) (hp : pc + 2 = pc') (hl0 : lv[i]? = some (some v)) (ha : isA v = true) (k : AW M R F pc' lv (v :: st) h nc ns) : AW M R F pc lv st h nc ns := by
  subst hp
  refine fun p l e s m args below meth c G H locs ls C hR hS hl => ?_
  have hg := hl.get hl0
  have kk := k p l e s m args below meth c G H locs ls C hR hS hl
  cases v with
  | ref x => exact lv_aload C.1 C.2.1 hd hg kk
  | null => exact lv_aloadN C.1 C.2.1 hd hg kk
  | _ => cases ha
theorem aw_istore_n {i : Fin 4} {x : Int32} (hd : decode M.2.1 pc = .ok (.istore_n i, 1)) (hp : pc + 1 = pc') (hi : (i : Nat) < M.2.2.1) (hl0 : lst lv (i : Nat) (.int x) = lv') (k : AW M R F pc' lv' st h nc ns) : AW M R F pc lv (.int x :: st) h nc ns := by
  subst hp
  subst hl0
  exact fun p l e s m args below meth c G H locs ls C hR hS hl => lv_istore_n C.1 C.2.1 hd rfl hl hi rfl (fun ls2 h2 => k p l e s m args below meth c G H locs ls2 C hR hS (Lv.put (v := .int x) h2))
theorem aw_istore {i : Nat} {x : Int32} (hd : decode M.2.1 pc = .ok (.istore i, 2)) (hp : pc + 2 = pc') (hi : i < M.2.2.1) (hl0 : lst lv i (.int x) = lv') (k : AW M R F pc' lv' st h nc ns) : AW M R F pc lv (.int x :: st) h nc ns := by
  subst hp
  subst hl0
  exact fun p l e s m args below meth c G H locs ls C hR hS hl => lv_istore C.1 C.2.1 hd hl hi rfl (fun ls2 h2 => k p l e s m args below meth c G H locs ls2 C hR hS (Lv.put (v := .int x) h2))
theorem aw_astore_n {i : Fin 4} {v : Value} (hd : decode M.2.1 pc = .ok (.astore_n i, 1)) (hp : pc + 1 = pc') (hi : (i : Nat) < M.2.2.1) (ha : isA v = true) (hl0 : lst lv (i : Nat) v = lv') (k : AW M R F pc' lv' st h nc ns) : AW M R F pc lv (v :: st) h nc ns := by
  subst hp
  subst hl0
  refine fun p l e s m args below meth c G H locs ls C hR hS hl => ?_
  cases v with
  | ref x => exact lv_astore_n C.1 C.2.1 hd rfl hl hi rfl (fun ls2 h2 => k p l e s m args below meth c G H locs ls2 C hR hS (Lv.put (v := .ref x) h2))
  | null => exact lv_astore_nN C.1 C.2.1 hd rfl hl hi rfl (fun ls2 h2 => k p l e s m args below meth c G H locs ls2 C hR hS (Lv.put (v := .null) h2))
  | _ => cases ha
theorem aw_astore {i : Nat} {v : Value} (hd : decode M.2.1 pc = .ok (.astore i, 2)) (hp : pc + 2 = pc') (hi : i < M.2.2.1) (ha : isA v = true) (hl0 : lst lv i v = lv') (k : AW M R F pc' lv' st h nc ns) : AW M R F pc lv (v :: st) h nc ns := by
  subst hp
  subst hl0
  refine fun p l e s m args below meth c G H locs ls C hR hS hl => ?_
  cases v with
  | ref x => exact lv_astore C.1 C.2.1 hd hl hi rfl (fun ls2 h2 => k p l e s m args below meth c G H locs ls2 C hR hS (Lv.put (v := .ref x) h2))
  | null => exact lv_astoreN C.1 C.2.1 hd hl hi rfl (fun ls2 h2 => k p l e s m args below meth c G H locs ls2 C hR hS (Lv.put (v := .null) h2))
  | _ => cases ha
theorem aw_iinc {i : Nat} {n : Int} {x : Int32} (hd : decode M.2.1 pc = .ok (.iinc i n, 3)) (hp : pc + 3 = pc') (hl1 : lv[i]? = some (some (.int x))) (hi : i < M.2.2.1) (hl0 : lst lv i (.int (x + Int32.ofInt n)) = lv') (k : AW M R F pc' lv' st h nc ns) : AW M R F pc lv st h nc ns := by
  subst hp
  subst hl0
  refine fun p l e s m args below meth c G H locs ls C hR hS hl => ?_
  obtain ⟨j, hj⟩ := List.getElem?_of_mem ((prs_mem (G := G) lv 0 i (.int x)).mpr ⟨.int x, Nat.zero_le _, by simpa using hl1, rfl⟩)
  exact lv_iinc C.1 C.2.1 hd hl hj rfl hi rfl (fun ls2 h2 => k p l e s m args below meth c G H locs ls2 C hR hS (Lv.put (v := .int (x + Int32.ofInt n)) h2))
theorem aw_if_eq {x : Int32} {off : Int} {tgt : Nat} (hd : decode M.2.1 pc = .ok (.ifCond .eq off, 3)) (ht : (pc : Int) + off = (tgt : Int)) (hp : pc + 3 = pc') (kt : x = 0 → AW M R F tgt lv st h nc ns) (kf : ¬ x = 0 → AW M R F pc' lv st h nc ns) : AW M R F pc lv (.int x :: st) h nc ns := by
  subst hp
  exact fun p l e s m args below meth c G H locs ls C hR hS hl => lv_if_eq C.1 C.2.1 hd ht (fun z => kt z p l e s m args below meth c G H locs ls C hR hS hl) (fun z => kf z p l e s m args below meth c G H locs ls C hR hS hl)
theorem aw_icmp_eq {x y : Int32} {off : Int} {tgt : Nat} (hd : decode M.2.1 pc = .ok (.if_icmp .eq off, 3)) (ht : (pc : Int) + off = (tgt : Int)) (hp : pc + 3 = pc') (kt : x = y → AW M R F tgt lv st h nc ns) (kf : ¬ x = y → AW M R F pc' lv st h nc ns) : AW M R F pc lv (.int y :: .int x :: st) h nc ns := by
  subst hp
  exact fun p l e s m args below meth c G H locs ls C hR hS hl => lv_icmp_eq C.1 C.2.1 hd ht (fun z => kt z p l e s m args below meth c G H locs ls C hR hS hl) (fun z => kf z p l e s m args below meth c G H locs ls C hR hS hl)
theorem aw_if_ne {x : Int32} {off : Int} {tgt : Nat} (hd : decode M.2.1 pc = .ok (.ifCond .ne off, 3)) (ht : (pc : Int) + off = (tgt : Int)) (hp : pc + 3 = pc') (kt : ¬ x = 0 → AW M R F tgt lv st h nc ns) (kf : x = 0 → AW M R F pc' lv st h nc ns) : AW M R F pc lv (.int x :: st) h nc ns := by
  subst hp
  exact fun p l e s m args below meth c G H locs ls C hR hS hl => lv_if_ne C.1 C.2.1 hd ht (fun z => kt z p l e s m args below meth c G H locs ls C hR hS hl) (fun z => kf z p l e s m args below meth c G H locs ls C hR hS hl)
theorem aw_icmp_ne {x y : Int32} {off : Int} {tgt : Nat} (hd : decode M.2.1 pc = .ok (.if_icmp .ne off, 3)) (ht : (pc : Int) + off = (tgt : Int)) (hp : pc + 3 = pc') (kt : ¬ x = y → AW M R F tgt lv st h nc ns) (kf : x = y → AW M R F pc' lv st h nc ns) : AW M R F pc lv (.int y :: .int x :: st) h nc ns := by
  subst hp
  exact fun p l e s m args below meth c G H locs ls C hR hS hl => lv_icmp_ne C.1 C.2.1 hd ht (fun z => kt z p l e s m args below meth c G H locs ls C hR hS hl) (fun z => kf z p l e s m args below meth c G H locs ls C hR hS hl)
theorem aw_if_lt {x : Int32} {off : Int} {tgt : Nat} (hd : decode M.2.1 pc = .ok (.ifCond .lt off, 3)) (ht : (pc : Int) + off = (tgt : Int)) (hp : pc + 3 = pc') (kt : x < 0 → AW M R F tgt lv st h nc ns) (kf : ¬ x < 0 → AW M R F pc' lv st h nc ns) : AW M R F pc lv (.int x :: st) h nc ns := by
  subst hp
  exact fun p l e s m args below meth c G H locs ls C hR hS hl => lv_if_lt C.1 C.2.1 hd ht (fun z => kt z p l e s m args below meth c G H locs ls C hR hS hl) (fun z => kf z p l e s m args below meth c G H locs ls C hR hS hl)
theorem aw_icmp_lt {x y : Int32} {off : Int} {tgt : Nat} (hd : decode M.2.1 pc = .ok (.if_icmp .lt off, 3)) (ht : (pc : Int) + off = (tgt : Int)) (hp : pc + 3 = pc') (kt : x < y → AW M R F tgt lv st h nc ns) (kf : ¬ x < y → AW M R F pc' lv st h nc ns) : AW M R F pc lv (.int y :: .int x :: st) h nc ns := by
  subst hp
  exact fun p l e s m args below meth c G H locs ls C hR hS hl => lv_icmp_lt C.1 C.2.1 hd ht (fun z => kt z p l e s m args below meth c G H locs ls C hR hS hl) (fun z => kf z p l e s m args below meth c G H locs ls C hR hS hl)
theorem aw_if_ge {x : Int32} {off : Int} {tgt : Nat} (hd : decode M.2.1 pc = .ok (.ifCond .ge off, 3)) (ht : (pc : Int) + off = (tgt : Int)) (hp : pc + 3 = pc') (kt : 0 ≤ x → AW M R F tgt lv st h nc ns) (kf : ¬ 0 ≤ x → AW M R F pc' lv st h nc ns) : AW M R F pc lv (.int x :: st) h nc ns := by
  subst hp
  exact fun p l e s m args below meth c G H locs ls C hR hS hl => lv_if_ge C.1 C.2.1 hd ht (fun z => kt z p l e s m args below meth c G H locs ls C hR hS hl) (fun z => kf z p l e s m args below meth c G H locs ls C hR hS hl)
theorem aw_icmp_ge {x y : Int32} {off : Int} {tgt : Nat} (hd : decode M.2.1 pc = .ok (.if_icmp .ge off, 3)) (ht : (pc : Int) + off = (tgt : Int)) (hp : pc + 3 = pc') (kt : y ≤ x → AW M R F tgt lv st h nc ns) (kf : ¬ y ≤ x → AW M R F pc' lv st h nc ns) : AW M R F pc lv (.int y :: .int x :: st) h nc ns := by
  subst hp
  exact fun p l e s m args below meth c G H locs ls C hR hS hl => lv_icmp_ge C.1 C.2.1 hd ht (fun z => kt z p l e s m args below meth c G H locs ls C hR hS hl) (fun z => kf z p l e s m args below meth c G H locs ls C hR hS hl)
theorem aw_if_gt {x : Int32} {off : Int} {tgt : Nat} (hd : decode M.2.1 pc = .ok (.ifCond .gt off, 3)) (ht : (pc : Int) + off = (tgt : Int)) (hp : pc + 3 = pc') (kt : 0 < x → AW M R F tgt lv st h nc ns) (kf : ¬ 0 < x → AW M R F pc' lv st h nc ns) : AW M R F pc lv (.int x :: st) h nc ns := by
  subst hp
  exact fun p l e s m args below meth c G H locs ls C hR hS hl => lv_if_gt C.1 C.2.1 hd ht (fun z => kt z p l e s m args below meth c G H locs ls C hR hS hl) (fun z => kf z p l e s m args below meth c G H locs ls C hR hS hl)
theorem aw_icmp_gt {x y : Int32} {off : Int} {tgt : Nat} (hd : decode M.2.1 pc = .ok (.if_icmp .gt off, 3)) (ht : (pc : Int) + off = (tgt : Int)) (hp : pc + 3 = pc') (kt : y < x → AW M R F tgt lv st h nc ns) (kf : ¬ y < x → AW M R F pc' lv st h nc ns) : AW M R F pc lv (.int y :: .int x :: st) h nc ns := by
  subst hp
  exact fun p l e s m args below meth c G H locs ls C hR hS hl => lv_icmp_gt C.1 C.2.1 hd ht (fun z => kt z p l e s m args below meth c G H locs ls C hR hS hl) (fun z => kf z p l e s m args below meth c G H locs ls C hR hS hl)
theorem aw_if_le {x : Int32} {off : Int} {tgt : Nat} (hd : decode M.2.1 pc = .ok (.ifCond .le off, 3)) (ht : (pc : Int) + off = (tgt : Int)) (hp : pc + 3 = pc') (kt : x ≤ 0 → AW M R F tgt lv st h nc ns) (kf : ¬ x ≤ 0 → AW M R F pc' lv st h nc ns) : AW M R F pc lv (.int x :: st) h nc ns := by
  subst hp
  exact fun p l e s m args below meth c G H locs ls C hR hS hl => lv_if_le C.1 C.2.1 hd ht (fun z => kt z p l e s m args below meth c G H locs ls C hR hS hl) (fun z => kf z p l e s m args below meth c G H locs ls C hR hS hl)
theorem aw_icmp_le {x y : Int32} {off : Int} {tgt : Nat} (hd : decode M.2.1 pc = .ok (.if_icmp .le off, 3)) (ht : (pc : Int) + off = (tgt : Int)) (hp : pc + 3 = pc') (kt : x ≤ y → AW M R F tgt lv st h nc ns) (kf : ¬ x ≤ y → AW M R F pc' lv st h nc ns) : AW M R F pc lv (.int y :: .int x :: st) h nc ns := by
  subst hp
  exact fun p l e s m args below meth c G H locs ls C hR hS hl => lv_icmp_le C.1 C.2.1 hd ht (fun z => kt z p l e s m args below meth c G H locs ls C hR hS hl) (fun z => kf z p l e s m args below meth c G H locs ls C hR hS hl)
theorem aw_goto {off : Int} {tgt : Nat} (hd : decode M.2.1 pc = .ok (.goto off, 3)) (ht : (pc : Int) + off = (tgt : Int)) (k : AW M R F tgt lv st h nc ns) : AW M R F pc lv st h nc ns :=
  fun p l e s m args below meth c G H locs ls C hR hS hl => lv_goto C.1 C.2.1 hd ht (k p l e s m args below meth c G H locs ls C hR hS hl)
theorem aw_ifnull_r {x : Nat} {off : Int} (hd : decode M.2.1 pc = .ok (.ifnull off, 3)) (hp : pc + 3 = pc') (k : AW M R F pc' lv st h nc ns) : AW M R F pc lv (.ref x :: st) h nc ns := by
  subst hp
  exact fun p l e s m args below meth c G H locs ls C hR hS hl => lv_ifnull C.1 C.2.1 hd (k p l e s m args below meth c G H locs ls C hR hS hl)
theorem aw_ifnull_n {off : Int} {tgt : Nat} (hd : decode M.2.1 pc = .ok (.ifnull off, 3)) (ht : (pc : Int) + off = (tgt : Int)) (k : AW M R F tgt lv st h nc ns) : AW M R F pc lv (.null :: st) h nc ns :=
  fun p l e s m args below meth c G H locs ls C hR hS hl => lv_ifnullN C.1 C.2.1 hd ht (k p l e s m args below meth c G H locs ls C hR hS hl)
theorem aw_ifnonnull_r {x : Nat} {off : Int} {tgt : Nat} (hd : decode M.2.1 pc = .ok (.ifnonnull off, 3)) (ht : (pc : Int) + off = (tgt : Int)) (k : AW M R F tgt lv st h nc ns) : AW M R F pc lv (.ref x :: st) h nc ns :=
  fun p l e s m args below meth c G H locs ls C hR hS hl => lv_ifnonnull C.1 C.2.1 hd ht (k p l e s m args below meth c G H locs ls C hR hS hl)
theorem aw_ifnonnull_n {off : Int} (hd : decode M.2.1 pc = .ok (.ifnonnull off, 3)) (hp : pc + 3 = pc') (k : AW M R F pc' lv st h nc ns) : AW M R F pc lv (.null :: st) h nc ns := by
  subst hp
  exact fun p l e s m args below meth c G H locs ls C hR hS hl => lv_ifnonnullN C.1 C.2.1 hd (k p l e s m args below meth c G H locs ls C hR hS hl)
theorem aw_tabOut {dflt lo hi : Int} {offs : Array Int} {len tgt : Nat} {x : Int32} (hd : decode M.2.1 pc = .ok (.tableswitch dflt lo hi offs, len)) (hx : x.toInt < lo ∨ hi < x.toInt) (ht : (pc : Int) + dflt = (tgt : Int)) (k : AW M R F tgt lv st h nc ns) : AW M R F pc lv (.int x :: st) h nc ns :=
  fun p l e s m args below meth c G H locs ls C hR hS hl => lv_tableOut C.1 C.2.1 hd hx ht (k p l e s m args below meth c G H locs ls C hR hS hl)
theorem aw_tabIn {dflt lo hi off : Int} {offs : Array Int} {len tgt : Nat} {x : Int32} (hd : decode M.2.1 pc = .ok (.tableswitch dflt lo hi offs, len)) (h1 : ¬ x.toInt < lo) (h2 : ¬ hi < x.toInt) (ho : offs[(x.toInt - lo).toNat]? = some off) (ht : (pc : Int) + off = (tgt : Int)) (k : AW M R F tgt lv st h nc ns) : AW M R F pc lv (.int x :: st) h nc ns :=
  fun p l e s m args below meth c G H locs ls C hR hS hl => lv_tableIn C.1 C.2.1 hd h1 h2 ho ht (k p l e s m args below meth c G H locs ls C hR hS hl)
theorem aw_lookup {dflt off : Int} {ps : Array (Int × Int)} {len tgt : Nat} {x : Int32} (hd : decode M.2.1 pc = .ok (.lookupswitch dflt ps, len)) (hps : (ps.toList.zip (ps.toList.drop 1)).all (fun (a, next) => a.1 < next.1) = true) (ho : Op.lookupswitch.offset ps.toList dflt x.toInt = off) (ht : (pc : Int) + off = (tgt : Int)) (k : AW M R F tgt lv st h nc ns) : AW M R F pc lv (.int x :: st) h nc ns :=
  fun p l e s m args below meth c G H locs ls C hR hS hl => lv_lookup C.1 C.2.1 hd hps ho ht (k p l e s m args below meth c G H locs ls C hR hS hl)
theorem aw_ldc {idx : Nat} {v : Int32} (hd : decode M.2.1 pc = .ok (.ldc idx, 2)) (hp : pc + 2 = pc') (hc : Cond.constant M.1.cls idx v ∈ gw) (k : AW M R F pc' lv (.int v :: st) h nc ns) : AW M R F pc lv st h nc ns := by
  subst hp
  exact fun p l e s m args below meth c G H locs ls C hR hS hl => lv_ldc C.1 C.2.1 C.2.2.2.2.1 (C.2.2.2.2.2.2.2.1 _ hc) hd (k p l e s m args below meth c G H locs ls C hR hS hl)
theorem aw_ldcw {idx : Nat} {v : Int32} (hd : decode M.2.1 pc = .ok (.ldc_w idx, 3)) (hp : pc + 3 = pc') (hc : Cond.constant M.1.cls idx v ∈ gw) (k : AW M R F pc' lv (.int v :: st) h nc ns) : AW M R F pc lv st h nc ns := by
  subst hp
  exact fun p l e s m args below meth c G H locs ls C hR hS hl => lv_ldcw C.1 C.2.1 C.2.2.2.2.1 (C.2.2.2.2.2.2.2.1 _ hc) hd (k p l e s m args below meth c G H locs ls C hR hS hl)
theorem aw_ldc2 {idx : Nat} {v : Int64} (hd : decode M.2.1 pc = .ok (.ldc2_w idx, 3)) (hp : pc + 3 = pc') (hc : Cond.constantLong M.1.cls idx v ∈ gw) (k : AW M R F pc' lv (.long v :: st) h nc ns) : AW M R F pc lv st h nc ns := by
  subst hp
  exact fun p l e s m args below meth c G H locs ls C hR hS hl => lv_ldc2 C.1 C.2.1 C.2.2.2.2.1 (C.2.2.2.2.2.2.2.1 _ hc) hd (k p l e s m args below meth c G H locs ls C hR hS hl)
end AWs
