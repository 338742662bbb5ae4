/-! DECODING, A LEMMA FOR EACH OPCODE -/
def dr_ (c : ByteArray) (pc : Nat) : List UInt8 := c.data.toList.drop pc
theorem dr_b {c : ByteArray} {pc : Nat} {b : UInt8} {t : List UInt8} (e1 : dr_ c pc = b :: t) : ∃ hh : pc < c.size, c[pc]'hh = b ∧ dr_ c (pc + 1) = t := by
  unfold dr_ at *
  have hl : pc < c.data.toList.length := by
    apply Nat.lt_of_not_le
    intro z
    rw [List.drop_eq_nil_of_le z] at e1
    cases e1
  refine ⟨by simpa using hl, ?_, ?_⟩
  · have : c.data.toList[pc]? = some b := by
      have := List.head?_drop (l := c.data.toList) (i := pc)
      rw [← this, e1]
      rfl
    have h2 : c.data.toList[pc]'hl = b := by
      rw [List.getElem?_eq_getElem hl] at this
      exact Option.some.inj this
    exact h2
  · rw [← List.tail_drop, e1]
    rfl
theorem u1_r {c : ByteArray} {pc n : Nat} (h : pc < c.size) (e : (c[pc]'h).toNat = n) : (Reader.u1 : Decoder Nat) c pc = .ok (n, pc + 1) := by
  show (if h : pc < c.size then _ else _ : Decoder Nat) c pc = _
  rw [dif_pos h, ← e]
  rfl
theorem u2_r {c : ByteArray} {pc x y : Nat} (h : pc < c.size) (e : (c[pc]'h).toNat = x) (h' : pc + 1 < c.size) (e' : (c[pc + 1]'h').toNat = y) : (Reader.u2 : Decoder Nat) c pc = .ok (x * 256 + y, pc + 2) := by
  show Except.bind ((Reader.u1 : Decoder Nat) c pc) (fun a => Except.bind ((Reader.u1 : Decoder Nat) c a.2) (fun b => Except.ok (a.1 * 256 + b.1, b.2))) = _
  rw [u1_r h e]
  show Except.bind ((Reader.u1 : Decoder Nat) c (pc + 1)) (fun b => Except.ok (x * 256 + b.1, b.2)) = _
  rw [u1_r h' e']
  rfl
theorem ins_r {c : ByteArray} {pc b : Nat} {g : Nat → Decoder Instr} {i : Instr} {n : Nat} (h : pc < c.size) (e : (c[pc]'h).toNat = b) (hg : Decoder.instr pc = (Reader.u1 >>= g)) (hi : g b c (pc + 1) = .ok (i, pc + n)) : decode c pc = .ok (i, n) := by
  have h1 : Decoder.instr pc c pc = .ok (i, pc + n) := by
    rw [hg]
    show Except.bind ((Reader.u1 : Decoder Nat) c pc) (fun x => g x.1 c x.2) = _
    rw [u1_r h e]
    exact hi
  show Except.bind (Decoder.instr pc c pc) (fun x => Except.ok (x.1, x.2 - pc)) = _
  rw [h1]
  show Except.ok (i, pc + n - pc) = _
  rw [Nat.add_sub_cancel_left]
def l0_ (l : List UInt8) (o : Nat) : Bool := match l with
  | a :: _ => Nat.beq a.toNat o
  | _ => false
def l1_ (l : List UInt8) (o v : Nat) : Bool := match l with
  | a :: x :: _ => Nat.beq a.toNat o && Nat.beq x.toNat v
  | _ => false
def l1s (l : List UInt8) (o : Nat) (v : Int) : Bool := match l with
  | a :: x :: _ => Nat.beq a.toNat o && decide (Reader.signed 8 x.toNat = v)
  | _ => false
def l2_ (l : List UInt8) (o v : Nat) : Bool := match l with
  | a :: x :: y :: _ => Nat.beq a.toNat o && Nat.beq (x.toNat * 256 + y.toNat) v
  | _ => false
def l2s (l : List UInt8) (o : Nat) (v : Int) : Bool := match l with
  | a :: x :: y :: _ => Nat.beq a.toNat o && decide (Reader.signed 16 (x.toNat * 256 + y.toNat) = v)
  | _ => false
def l3s (l : List UInt8) (o u : Nat) (v : Int) : Bool := match l with
  | a :: x :: y :: _ => Nat.beq a.toNat o && (Nat.beq x.toNat u && decide (Reader.signed 8 y.toNat = v))
  | _ => false
def k0_ (c : ByteArray) (pc o : Nat) : Bool := l0_ (dr_ c pc) o
def k1_ (c : ByteArray) (pc o v : Nat) : Bool := l1_ (dr_ c pc) o v
def k1s (c : ByteArray) (pc o : Nat) (v : Int) : Bool := l1s (dr_ c pc) o v
def k2_ (c : ByteArray) (pc o v : Nat) : Bool := l2_ (dr_ c pc) o v
def k2s (c : ByteArray) (pc o : Nat) (v : Int) : Bool := l2s (dr_ c pc) o v
def k3s (c : ByteArray) (pc o u : Nat) (v : Int) : Bool := l3s (dr_ c pc) o u v
/-- a block of a long code at once: place, opcode, sort, operands -/
def lk_ (l : List UInt8) (s : Nat × Nat × Nat × Nat × Int) : Bool := match s.2.2.1 with
  | 0 => l0_ l s.2.1
  | 1 => l1_ l s.2.1 s.2.2.2.1
  | 2 => l1s l s.2.1 s.2.2.2.2
  | 3 => l2_ l s.2.1 s.2.2.2.1
  | 4 => l2s l s.2.1 s.2.2.2.2
  | _ => l3s l s.2.1 s.2.2.2.1 s.2.2.2.2
def lB_ (l : List UInt8) : List (Nat × Nat × Nat × Nat × Int) → Bool
  | [] => true
  | s :: r => lk_ (l.drop s.1) s && lB_ l r
theorem lB_g {l : List UInt8} : ∀ {L : List (Nat × Nat × Nat × Nat × Int)} {i : Nat} {s : Nat × Nat × Nat × Nat × Int}, lB_ l L = true → L[i]? = some s → lk_ (l.drop s.1) s = true
  | [], i, s, _, e => by simp at e
  | x :: L, 0, s, h, e => by
    rw [lB_, Bool.and_eq_true] at h
    simp at e
    rw [← e]
    exact h.1
  | x :: L, i + 1, s, h, e => by
    rw [lB_, Bool.and_eq_true] at h
    simp at e
    exact lB_g h.2 e
theorem bk_ {c : ByteArray} {a pc : Nat} {L : List (Nat × Nat × Nat × Nat × Int)} {s : Nat × Nat × Nat × Nat × Int} (h : lB_ (dr_ c a) L = true) (i : Nat) (e : L[i]? = some s) (ep : a + s.1 = pc) : lk_ (dr_ c pc) s = true := by
  have := lB_g h e
  unfold dr_ at *
  rw [List.drop_drop, ep] at this
  exact this
section OPb
variable {c : ByteArray} {a pc j o u : Nat} {v : Int} {L : List (Nat × Nat × Nat × Nat × Int)}
theorem bk0 (h : lB_ (dr_ c a) L = true) (i : Nat) (e : L[i]? = some (j, o, 0, u, v)) (ep : a + j = pc) : k0_ c pc o = true := bk_ h i e ep
theorem bk1 (h : lB_ (dr_ c a) L = true) (i : Nat) (e : L[i]? = some (j, o, 1, u, v)) (ep : a + j = pc) : k1_ c pc o u = true := bk_ h i e ep
theorem bk2 (h : lB_ (dr_ c a) L = true) (i : Nat) (e : L[i]? = some (j, o, 2, u, v)) (ep : a + j = pc) : k1s c pc o v = true := bk_ h i e ep
theorem bk3 (h : lB_ (dr_ c a) L = true) (i : Nat) (e : L[i]? = some (j, o, 3, u, v)) (ep : a + j = pc) : k2_ c pc o u = true := bk_ h i e ep
theorem bk4 (h : lB_ (dr_ c a) L = true) (i : Nat) (e : L[i]? = some (j, o, 4, u, v)) (ep : a + j = pc) : k2s c pc o v = true := bk_ h i e ep
theorem bk5 (h : lB_ (dr_ c a) L = true) (i : Nat) (e : L[i]? = some (j, o, 5, u, v)) (ep : a + j = pc) : k3s c pc o u v = true := bk_ h i e ep
end OPb
section OPk
variable {c : ByteArray} {pc o v u : Nat} {w : Int}
theorem k0_b (h : k0_ c pc o = true) : ∃ h1 : pc < c.size, (c[pc]'h1).toNat = o := by
  unfold k0_ l0_ at h
  split at h
  · rename_i a t e
    obtain ⟨h1, h2, -⟩ := dr_b e
    exact ⟨h1, by rw [h2]; exact Nat.eq_of_beq_eq_true h⟩
  · cases h
theorem k1_b (h : k1_ c pc o v = true) : ∃ h1 : pc < c.size, (c[pc]'h1).toNat = o ∧ (Reader.u1 : Decoder Nat) c (pc + 1) = .ok (v, pc + 2) := by
  unfold k1_ l1_ at h
  split at h
  · rename_i a x t e
    obtain ⟨h1, h2, h3⟩ := dr_b e
    obtain ⟨h4, h5, -⟩ := dr_b h3
    rw [Bool.and_eq_true] at h
    exact ⟨h1, by rw [h2]; exact Nat.eq_of_beq_eq_true h.1, u1_r h4 (by rw [h5]; exact Nat.eq_of_beq_eq_true h.2)⟩
  · cases h
theorem k1s_b (h : k1s c pc o w = true) : ∃ h1 : pc < c.size, (c[pc]'h1).toNat = o ∧ (Reader.s1 : Decoder Int) c (pc + 1) = .ok (w, pc + 2) := by
  unfold k1s l1s at h
  split at h
  · rename_i a x t e
    obtain ⟨h1, h2, h3⟩ := dr_b e
    obtain ⟨h4, h5, -⟩ := dr_b h3
    rw [Bool.and_eq_true] at h
    refine ⟨h1, by rw [h2]; exact Nat.eq_of_beq_eq_true h.1, ?_⟩
    show Except.map (fun (q : Nat × Nat) => (Reader.signed 8 q.1, q.2)) ((Reader.u1 : Decoder Nat) c (pc + 1)) = _
    rw [u1_r h4 rfl, h5, ← of_decide_eq_true h.2]
    rfl
  · cases h
theorem k2_b (h : k2_ c pc o v = true) : ∃ h1 : pc < c.size, (c[pc]'h1).toNat = o ∧ (Reader.u2 : Decoder Nat) c (pc + 1) = .ok (v, pc + 3) := by
  unfold k2_ l2_ at h
  split at h
  · rename_i a x y t e
    obtain ⟨h1, h2, h3⟩ := dr_b e
    obtain ⟨h4, h5, h6⟩ := dr_b h3
    obtain ⟨h7, h8, -⟩ := dr_b h6
    rw [Bool.and_eq_true] at h
    refine ⟨h1, by rw [h2]; exact Nat.eq_of_beq_eq_true h.1, ?_⟩
    rw [u2_r h4 rfl h7 rfl, h5, h8, Nat.eq_of_beq_eq_true h.2]
  · cases h
theorem k2s_b (h : k2s c pc o w = true) : ∃ h1 : pc < c.size, (c[pc]'h1).toNat = o ∧ (Reader.s2 : Decoder Int) c (pc + 1) = .ok (w, pc + 3) := by
  unfold k2s l2s at h
  split at h
  · rename_i a x y t e
    obtain ⟨h1, h2, h3⟩ := dr_b e
    obtain ⟨h4, h5, h6⟩ := dr_b h3
    obtain ⟨h7, h8, -⟩ := dr_b h6
    rw [Bool.and_eq_true] at h
    refine ⟨h1, by rw [h2]; exact Nat.eq_of_beq_eq_true h.1, ?_⟩
    show Except.map (fun (q : Nat × Nat) => (Reader.signed 16 q.1, q.2)) ((Reader.u2 : Decoder Nat) c (pc + 1)) = _
    rw [u2_r h4 rfl h7 rfl, h5, h8, ← of_decide_eq_true h.2]
    rfl
  · cases h
theorem k3s_b (h : k3s c pc o u w = true) : ∃ h1 : pc < c.size, (c[pc]'h1).toNat = o ∧ (Reader.u1 : Decoder Nat) c (pc + 1) = .ok (u, pc + 2) ∧ (Reader.s1 : Decoder Int) c (pc + 2) = .ok (w, pc + 3) := by
  unfold k3s l3s at h
  split at h
  · rename_i a x y t e
    obtain ⟨h1, h2, h3⟩ := dr_b e
    obtain ⟨h4, h5, h6⟩ := dr_b h3
    obtain ⟨h7, h8, -⟩ := dr_b h6
    rw [Bool.and_eq_true, Bool.and_eq_true] at h
    refine ⟨h1, by rw [h2]; exact Nat.eq_of_beq_eq_true h.1, u1_r h4 (by rw [h5]; exact Nat.eq_of_beq_eq_true h.2.1), ?_⟩
    show Except.map (fun (q : Nat × Nat) => (Reader.signed 8 q.1, q.2)) ((Reader.u1 : Decoder Nat) c (pc + 1 + 1)) = _
    rw [u1_r h7 rfl, h8, ← of_decide_eq_true h.2.2]
    rfl
  · cases h
end OPk
set_option maxRecDepth 20000 in
theorem op_188_10 {c : ByteArray} {pc : Nat} (h : k1_ c pc 188 10 = true) : decode c pc = .ok (.newarray .int, 2) := by
  obtain ⟨h1, h2, h3⟩ := k1_b h
  refine ins_r h1 h2 rfl ?_
  show Except.bind ((Reader.u1 : Decoder Nat) c (pc + 1)) (fun x => _) = _
  rw [h3]
  rfl
set_option maxRecDepth 20000 in
theorem op_188_11 {c : ByteArray} {pc : Nat} (h : k1_ c pc 188 11 = true) : decode c pc = .ok (.newarray .long, 2) := by
  obtain ⟨h1, h2, h3⟩ := k1_b h
  refine ins_r h1 h2 rfl ?_
  show Except.bind ((Reader.u1 : Decoder Nat) c (pc + 1)) (fun x => _) = _
  rw [h3]
  rfl
set_option maxRecDepth 20000 in
theorem op_188_4 {c : ByteArray} {pc : Nat} (h : k1_ c pc 188 4 = true) : decode c pc = .ok (.newarray .boolean, 2) := by
  obtain ⟨h1, h2, h3⟩ := k1_b h
  refine ins_r h1 h2 rfl ?_
  show Except.bind ((Reader.u1 : Decoder Nat) c (pc + 1)) (fun x => _) = _
  rw [h3]
  rfl
set_option maxRecDepth 20000 in
theorem op_188_8 {c : ByteArray} {pc : Nat} (h : k1_ c pc 188 8 = true) : decode c pc = .ok (.newarray .byte, 2) := by
  obtain ⟨h1, h2, h3⟩ := k1_b h
  refine ins_r h1 h2 rfl ?_
  show Except.bind ((Reader.u1 : Decoder Nat) c (pc + 1)) (fun x => _) = _
  rw [h3]
  rfl
set_option maxRecDepth 20000 in
theorem op_1 {c : ByteArray} {pc : Nat} (h : k0_ c pc 1 = true) : decode c pc = .ok (.aconst_null, 1) := by
  obtain ⟨h1, h2⟩ := k0_b h
  exact ins_r h1 h2 rfl rfl
set_option maxRecDepth 20000 in
theorem op_100 {c : ByteArray} {pc : Nat} (h : k0_ c pc 100 = true) : decode c pc = .ok (.isub, 1) := by
  obtain ⟨h1, h2⟩ := k0_b h
  exact ins_r h1 h2 rfl rfl
set_option maxRecDepth 20000 in
theorem op_104 {c : ByteArray} {pc : Nat} (h : k0_ c pc 104 = true) : decode c pc = .ok (.imul, 1) := by
  obtain ⟨h1, h2⟩ := k0_b h
  exact ins_r h1 h2 rfl rfl
set_option maxRecDepth 20000 in
theorem op_108 {c : ByteArray} {pc : Nat} (h : k0_ c pc 108 = true) : decode c pc = .ok (.idiv, 1) := by
  obtain ⟨h1, h2⟩ := k0_b h
  exact ins_r h1 h2 rfl rfl
set_option maxRecDepth 20000 in
theorem op_112 {c : ByteArray} {pc : Nat} (h : k0_ c pc 112 = true) : decode c pc = .ok (.irem, 1) := by
  obtain ⟨h1, h2⟩ := k0_b h
  exact ins_r h1 h2 rfl rfl
set_option maxRecDepth 20000 in
theorem op_116 {c : ByteArray} {pc : Nat} (h : k0_ c pc 116 = true) : decode c pc = .ok (.ineg, 1) := by
  obtain ⟨h1, h2⟩ := k0_b h
  exact ins_r h1 h2 rfl rfl
set_option maxRecDepth 20000 in
theorem op_120 {c : ByteArray} {pc : Nat} (h : k0_ c pc 120 = true) : decode c pc = .ok (.ishl, 1) := by
  obtain ⟨h1, h2⟩ := k0_b h
  exact ins_r h1 h2 rfl rfl
set_option maxRecDepth 20000 in
theorem op_121 {c : ByteArray} {pc : Nat} (h : k0_ c pc 121 = true) : decode c pc = .ok (.lshl, 1) := by
  obtain ⟨h1, h2⟩ := k0_b h
  exact ins_r h1 h2 rfl rfl
set_option maxRecDepth 20000 in
theorem op_122 {c : ByteArray} {pc : Nat} (h : k0_ c pc 122 = true) : decode c pc = .ok (.ishr, 1) := by
  obtain ⟨h1, h2⟩ := k0_b h
  exact ins_r h1 h2 rfl rfl
set_option maxRecDepth 20000 in
theorem op_124 {c : ByteArray} {pc : Nat} (h : k0_ c pc 124 = true) : decode c pc = .ok (.iushr, 1) := by
  obtain ⟨h1, h2⟩ := k0_b h
  exact ins_r h1 h2 rfl rfl
set_option maxRecDepth 20000 in
theorem op_126 {c : ByteArray} {pc : Nat} (h : k0_ c pc 126 = true) : decode c pc = .ok (.iand, 1) := by
  obtain ⟨h1, h2⟩ := k0_b h
  exact ins_r h1 h2 rfl rfl
set_option maxRecDepth 20000 in
theorem op_127 {c : ByteArray} {pc : Nat} (h : k0_ c pc 127 = true) : decode c pc = .ok (.land, 1) := by
  obtain ⟨h1, h2⟩ := k0_b h
  exact ins_r h1 h2 rfl rfl
set_option maxRecDepth 20000 in
theorem op_128 {c : ByteArray} {pc : Nat} (h : k0_ c pc 128 = true) : decode c pc = .ok (.ior, 1) := by
  obtain ⟨h1, h2⟩ := k0_b h
  exact ins_r h1 h2 rfl rfl
set_option maxRecDepth 20000 in
theorem op_129 {c : ByteArray} {pc : Nat} (h : k0_ c pc 129 = true) : decode c pc = .ok (.lor, 1) := by
  obtain ⟨h1, h2⟩ := k0_b h
  exact ins_r h1 h2 rfl rfl
set_option maxRecDepth 20000 in
theorem op_130 {c : ByteArray} {pc : Nat} (h : k0_ c pc 130 = true) : decode c pc = .ok (.ixor, 1) := by
  obtain ⟨h1, h2⟩ := k0_b h
  exact ins_r h1 h2 rfl rfl
set_option maxRecDepth 20000 in
theorem op_132 {c : ByteArray} {pc : Nat} {u : Nat} {v : Int} (h : k3s c pc 132 u v = true) : decode c pc = .ok (.iinc u v, 3) := by
  obtain ⟨h1, h2, h3, h4⟩ := k3s_b h
  refine ins_r h1 h2 rfl ?_
  show Except.bind ((Reader.u1 : Decoder Nat) c (pc + 1)) (fun x => Except.bind ((Reader.s1 : Decoder Int) c x.2) (fun y => Except.ok (Instr.iinc x.1 y.1, y.2))) = _
  rw [h3]
  show Except.bind ((Reader.s1 : Decoder Int) c (pc + 2)) (fun y => Except.ok (Instr.iinc u y.1, y.2)) = _
  rw [h4]
  rfl
set_option maxRecDepth 20000 in
theorem op_133 {c : ByteArray} {pc : Nat} (h : k0_ c pc 133 = true) : decode c pc = .ok (.i2l, 1) := by
  obtain ⟨h1, h2⟩ := k0_b h
  exact ins_r h1 h2 rfl rfl
set_option maxRecDepth 20000 in
theorem op_136 {c : ByteArray} {pc : Nat} (h : k0_ c pc 136 = true) : decode c pc = .ok (.l2i, 1) := by
  obtain ⟨h1, h2⟩ := k0_b h
  exact ins_r h1 h2 rfl rfl
set_option maxRecDepth 20000 in
theorem op_145 {c : ByteArray} {pc : Nat} (h : k0_ c pc 145 = true) : decode c pc = .ok (.i2b, 1) := by
  obtain ⟨h1, h2⟩ := k0_b h
  exact ins_r h1 h2 rfl rfl
set_option maxRecDepth 20000 in
theorem op_146 {c : ByteArray} {pc : Nat} (h : k0_ c pc 146 = true) : decode c pc = .ok (.i2c, 1) := by
  obtain ⟨h1, h2⟩ := k0_b h
  exact ins_r h1 h2 rfl rfl
set_option maxRecDepth 20000 in
theorem op_148 {c : ByteArray} {pc : Nat} (h : k0_ c pc 148 = true) : decode c pc = .ok (.lcmp, 1) := by
  obtain ⟨h1, h2⟩ := k0_b h
  exact ins_r h1 h2 rfl rfl
set_option maxRecDepth 20000 in
theorem op_153 {c : ByteArray} {pc : Nat} {v : Int} (h : k2s c pc 153 v = true) : decode c pc = .ok (.ifCond .eq v, 3) := by
  obtain ⟨h1, h2, h3⟩ := k2s_b h
  refine ins_r h1 h2 rfl ?_
  show Except.bind ((Reader.s2 : Decoder Int) c (pc + 1)) (fun x => Except.ok (Instr.ifCond .eq x.1, x.2)) = _
  rw [h3]
  rfl
set_option maxRecDepth 20000 in
theorem op_154 {c : ByteArray} {pc : Nat} {v : Int} (h : k2s c pc 154 v = true) : decode c pc = .ok (.ifCond .ne v, 3) := by
  obtain ⟨h1, h2, h3⟩ := k2s_b h
  refine ins_r h1 h2 rfl ?_
  show Except.bind ((Reader.s2 : Decoder Int) c (pc + 1)) (fun x => Except.ok (Instr.ifCond .ne x.1, x.2)) = _
  rw [h3]
  rfl
set_option maxRecDepth 20000 in
theorem op_155 {c : ByteArray} {pc : Nat} {v : Int} (h : k2s c pc 155 v = true) : decode c pc = .ok (.ifCond .lt v, 3) := by
  obtain ⟨h1, h2, h3⟩ := k2s_b h
  refine ins_r h1 h2 rfl ?_
  show Except.bind ((Reader.s2 : Decoder Int) c (pc + 1)) (fun x => Except.ok (Instr.ifCond .lt x.1, x.2)) = _
  rw [h3]
  rfl
set_option maxRecDepth 20000 in
theorem op_156 {c : ByteArray} {pc : Nat} {v : Int} (h : k2s c pc 156 v = true) : decode c pc = .ok (.ifCond .ge v, 3) := by
  obtain ⟨h1, h2, h3⟩ := k2s_b h
  refine ins_r h1 h2 rfl ?_
  show Except.bind ((Reader.s2 : Decoder Int) c (pc + 1)) (fun x => Except.ok (Instr.ifCond .ge x.1, x.2)) = _
  rw [h3]
  rfl
set_option maxRecDepth 20000 in
theorem op_157 {c : ByteArray} {pc : Nat} {v : Int} (h : k2s c pc 157 v = true) : decode c pc = .ok (.ifCond .gt v, 3) := by
  obtain ⟨h1, h2, h3⟩ := k2s_b h
  refine ins_r h1 h2 rfl ?_
  show Except.bind ((Reader.s2 : Decoder Int) c (pc + 1)) (fun x => Except.ok (Instr.ifCond .gt x.1, x.2)) = _
  rw [h3]
  rfl
set_option maxRecDepth 20000 in
theorem op_158 {c : ByteArray} {pc : Nat} {v : Int} (h : k2s c pc 158 v = true) : decode c pc = .ok (.ifCond .le v, 3) := by
  obtain ⟨h1, h2, h3⟩ := k2s_b h
  refine ins_r h1 h2 rfl ?_
  show Except.bind ((Reader.s2 : Decoder Int) c (pc + 1)) (fun x => Except.ok (Instr.ifCond .le x.1, x.2)) = _
  rw [h3]
  rfl
set_option maxRecDepth 20000 in
theorem op_159 {c : ByteArray} {pc : Nat} {v : Int} (h : k2s c pc 159 v = true) : decode c pc = .ok (.if_icmp .eq v, 3) := by
  obtain ⟨h1, h2, h3⟩ := k2s_b h
  refine ins_r h1 h2 rfl ?_
  show Except.bind ((Reader.s2 : Decoder Int) c (pc + 1)) (fun x => Except.ok (Instr.if_icmp .eq x.1, x.2)) = _
  rw [h3]
  rfl
set_option maxRecDepth 20000 in
theorem op_16 {c : ByteArray} {pc : Nat} {v : Int} (h : k1s c pc 16 v = true) : decode c pc = .ok (.bipush v, 2) := by
  obtain ⟨h1, h2, h3⟩ := k1s_b h
  refine ins_r h1 h2 rfl ?_
  show Except.bind ((Reader.s1 : Decoder Int) c (pc + 1)) (fun x => Except.ok (Instr.bipush x.1, x.2)) = _
  rw [h3]
  rfl
set_option maxRecDepth 20000 in
theorem op_160 {c : ByteArray} {pc : Nat} {v : Int} (h : k2s c pc 160 v = true) : decode c pc = .ok (.if_icmp .ne v, 3) := by
  obtain ⟨h1, h2, h3⟩ := k2s_b h
  refine ins_r h1 h2 rfl ?_
  show Except.bind ((Reader.s2 : Decoder Int) c (pc + 1)) (fun x => Except.ok (Instr.if_icmp .ne x.1, x.2)) = _
  rw [h3]
  rfl
set_option maxRecDepth 20000 in
theorem op_161 {c : ByteArray} {pc : Nat} {v : Int} (h : k2s c pc 161 v = true) : decode c pc = .ok (.if_icmp .lt v, 3) := by
  obtain ⟨h1, h2, h3⟩ := k2s_b h
  refine ins_r h1 h2 rfl ?_
  show Except.bind ((Reader.s2 : Decoder Int) c (pc + 1)) (fun x => Except.ok (Instr.if_icmp .lt x.1, x.2)) = _
  rw [h3]
  rfl
set_option maxRecDepth 20000 in
theorem op_162 {c : ByteArray} {pc : Nat} {v : Int} (h : k2s c pc 162 v = true) : decode c pc = .ok (.if_icmp .ge v, 3) := by
  obtain ⟨h1, h2, h3⟩ := k2s_b h
  refine ins_r h1 h2 rfl ?_
  show Except.bind ((Reader.s2 : Decoder Int) c (pc + 1)) (fun x => Except.ok (Instr.if_icmp .ge x.1, x.2)) = _
  rw [h3]
  rfl
set_option maxRecDepth 20000 in
theorem op_163 {c : ByteArray} {pc : Nat} {v : Int} (h : k2s c pc 163 v = true) : decode c pc = .ok (.if_icmp .gt v, 3) := by
  obtain ⟨h1, h2, h3⟩ := k2s_b h
  refine ins_r h1 h2 rfl ?_
  show Except.bind ((Reader.s2 : Decoder Int) c (pc + 1)) (fun x => Except.ok (Instr.if_icmp .gt x.1, x.2)) = _
  rw [h3]
  rfl
set_option maxRecDepth 20000 in
theorem op_164 {c : ByteArray} {pc : Nat} {v : Int} (h : k2s c pc 164 v = true) : decode c pc = .ok (.if_icmp .le v, 3) := by
  obtain ⟨h1, h2, h3⟩ := k2s_b h
  refine ins_r h1 h2 rfl ?_
  show Except.bind ((Reader.s2 : Decoder Int) c (pc + 1)) (fun x => Except.ok (Instr.if_icmp .le x.1, x.2)) = _
  rw [h3]
  rfl
set_option maxRecDepth 20000 in
theorem op_167 {c : ByteArray} {pc : Nat} {v : Int} (h : k2s c pc 167 v = true) : decode c pc = .ok (.goto v, 3) := by
  obtain ⟨h1, h2, h3⟩ := k2s_b h
  refine ins_r h1 h2 rfl ?_
  show Except.bind ((Reader.s2 : Decoder Int) c (pc + 1)) (fun x => Except.ok (Instr.goto x.1, x.2)) = _
  rw [h3]
  rfl
set_option maxRecDepth 20000 in
theorem op_17 {c : ByteArray} {pc : Nat} {v : Int} (h : k2s c pc 17 v = true) : decode c pc = .ok (.sipush v, 3) := by
  obtain ⟨h1, h2, h3⟩ := k2s_b h
  refine ins_r h1 h2 rfl ?_
  show Except.bind ((Reader.s2 : Decoder Int) c (pc + 1)) (fun x => Except.ok (Instr.sipush x.1, x.2)) = _
  rw [h3]
  rfl
set_option maxRecDepth 20000 in
theorem op_172 {c : ByteArray} {pc : Nat} (h : k0_ c pc 172 = true) : decode c pc = .ok (.ireturn, 1) := by
  obtain ⟨h1, h2⟩ := k0_b h
  exact ins_r h1 h2 rfl rfl
set_option maxRecDepth 20000 in
theorem op_173 {c : ByteArray} {pc : Nat} (h : k0_ c pc 173 = true) : decode c pc = .ok (.lreturn, 1) := by
  obtain ⟨h1, h2⟩ := k0_b h
  exact ins_r h1 h2 rfl rfl
set_option maxRecDepth 20000 in
theorem op_176 {c : ByteArray} {pc : Nat} (h : k0_ c pc 176 = true) : decode c pc = .ok (.areturn, 1) := by
  obtain ⟨h1, h2⟩ := k0_b h
  exact ins_r h1 h2 rfl rfl
set_option maxRecDepth 20000 in
theorem op_177 {c : ByteArray} {pc : Nat} (h : k0_ c pc 177 = true) : decode c pc = .ok (.return_, 1) := by
  obtain ⟨h1, h2⟩ := k0_b h
  exact ins_r h1 h2 rfl rfl
set_option maxRecDepth 20000 in
theorem op_178 {c : ByteArray} {pc : Nat} {v : Nat} (h : k2_ c pc 178 v = true) : decode c pc = .ok (.getstatic v, 3) := by
  obtain ⟨h1, h2, h3⟩ := k2_b h
  refine ins_r h1 h2 rfl ?_
  show Except.bind ((Reader.u2 : Decoder Nat) c (pc + 1)) (fun x => Except.ok (Instr.getstatic x.1, x.2)) = _
  rw [h3]
  rfl
set_option maxRecDepth 20000 in
theorem op_18 {c : ByteArray} {pc : Nat} {v : Nat} (h : k1_ c pc 18 v = true) : decode c pc = .ok (.ldc v, 2) := by
  obtain ⟨h1, h2, h3⟩ := k1_b h
  refine ins_r h1 h2 rfl ?_
  show Except.bind ((Reader.u1 : Decoder Nat) c (pc + 1)) (fun x => Except.ok (Instr.ldc x.1, x.2)) = _
  rw [h3]
  rfl
set_option maxRecDepth 20000 in
theorem op_180 {c : ByteArray} {pc : Nat} {v : Nat} (h : k2_ c pc 180 v = true) : decode c pc = .ok (.getfield v, 3) := by
  obtain ⟨h1, h2, h3⟩ := k2_b h
  refine ins_r h1 h2 rfl ?_
  show Except.bind ((Reader.u2 : Decoder Nat) c (pc + 1)) (fun x => Except.ok (Instr.getfield x.1, x.2)) = _
  rw [h3]
  rfl
set_option maxRecDepth 20000 in
theorem op_181 {c : ByteArray} {pc : Nat} {v : Nat} (h : k2_ c pc 181 v = true) : decode c pc = .ok (.putfield v, 3) := by
  obtain ⟨h1, h2, h3⟩ := k2_b h
  refine ins_r h1 h2 rfl ?_
  show Except.bind ((Reader.u2 : Decoder Nat) c (pc + 1)) (fun x => Except.ok (Instr.putfield x.1, x.2)) = _
  rw [h3]
  rfl
set_option maxRecDepth 20000 in
theorem op_182 {c : ByteArray} {pc : Nat} {v : Nat} (h : k2_ c pc 182 v = true) : decode c pc = .ok (.invokevirtual v, 3) := by
  obtain ⟨h1, h2, h3⟩ := k2_b h
  refine ins_r h1 h2 rfl ?_
  show Except.bind ((Reader.u2 : Decoder Nat) c (pc + 1)) (fun x => Except.ok (Instr.invokevirtual x.1, x.2)) = _
  rw [h3]
  rfl
set_option maxRecDepth 20000 in
theorem op_183 {c : ByteArray} {pc : Nat} {v : Nat} (h : k2_ c pc 183 v = true) : decode c pc = .ok (.invokespecial v, 3) := by
  obtain ⟨h1, h2, h3⟩ := k2_b h
  refine ins_r h1 h2 rfl ?_
  show Except.bind ((Reader.u2 : Decoder Nat) c (pc + 1)) (fun x => Except.ok (Instr.invokespecial x.1, x.2)) = _
  rw [h3]
  rfl
set_option maxRecDepth 20000 in
theorem op_184 {c : ByteArray} {pc : Nat} {v : Nat} (h : k2_ c pc 184 v = true) : decode c pc = .ok (.invokestatic v, 3) := by
  obtain ⟨h1, h2, h3⟩ := k2_b h
  refine ins_r h1 h2 rfl ?_
  show Except.bind ((Reader.u2 : Decoder Nat) c (pc + 1)) (fun x => Except.ok (Instr.invokestatic x.1, x.2)) = _
  rw [h3]
  rfl
set_option maxRecDepth 20000 in
theorem op_187 {c : ByteArray} {pc : Nat} {v : Nat} (h : k2_ c pc 187 v = true) : decode c pc = .ok (.new v, 3) := by
  obtain ⟨h1, h2, h3⟩ := k2_b h
  refine ins_r h1 h2 rfl ?_
  show Except.bind ((Reader.u2 : Decoder Nat) c (pc + 1)) (fun x => Except.ok (Instr.new x.1, x.2)) = _
  rw [h3]
  rfl
set_option maxRecDepth 20000 in
theorem op_189 {c : ByteArray} {pc : Nat} {v : Nat} (h : k2_ c pc 189 v = true) : decode c pc = .ok (.anewarray v, 3) := by
  obtain ⟨h1, h2, h3⟩ := k2_b h
  refine ins_r h1 h2 rfl ?_
  show Except.bind ((Reader.u2 : Decoder Nat) c (pc + 1)) (fun x => Except.ok (Instr.anewarray x.1, x.2)) = _
  rw [h3]
  rfl
set_option maxRecDepth 20000 in
theorem op_19 {c : ByteArray} {pc : Nat} {v : Nat} (h : k2_ c pc 19 v = true) : decode c pc = .ok (.ldc_w v, 3) := by
  obtain ⟨h1, h2, h3⟩ := k2_b h
  refine ins_r h1 h2 rfl ?_
  show Except.bind ((Reader.u2 : Decoder Nat) c (pc + 1)) (fun x => Except.ok (Instr.ldc_w x.1, x.2)) = _
  rw [h3]
  rfl
set_option maxRecDepth 20000 in
theorem op_190 {c : ByteArray} {pc : Nat} (h : k0_ c pc 190 = true) : decode c pc = .ok (.arraylength, 1) := by
  obtain ⟨h1, h2⟩ := k0_b h
  exact ins_r h1 h2 rfl rfl
set_option maxRecDepth 20000 in
theorem op_191 {c : ByteArray} {pc : Nat} (h : k0_ c pc 191 = true) : decode c pc = .ok (.athrow, 1) := by
  obtain ⟨h1, h2⟩ := k0_b h
  exact ins_r h1 h2 rfl rfl
set_option maxRecDepth 20000 in
theorem op_192 {c : ByteArray} {pc : Nat} {v : Nat} (h : k2_ c pc 192 v = true) : decode c pc = .ok (.checkcast v, 3) := by
  obtain ⟨h1, h2, h3⟩ := k2_b h
  refine ins_r h1 h2 rfl ?_
  show Except.bind ((Reader.u2 : Decoder Nat) c (pc + 1)) (fun x => Except.ok (Instr.checkcast x.1, x.2)) = _
  rw [h3]
  rfl
set_option maxRecDepth 20000 in
theorem op_198 {c : ByteArray} {pc : Nat} {v : Int} (h : k2s c pc 198 v = true) : decode c pc = .ok (.ifnull v, 3) := by
  obtain ⟨h1, h2, h3⟩ := k2s_b h
  refine ins_r h1 h2 rfl ?_
  show Except.bind ((Reader.s2 : Decoder Int) c (pc + 1)) (fun x => Except.ok (Instr.ifnull x.1, x.2)) = _
  rw [h3]
  rfl
set_option maxRecDepth 20000 in
theorem op_199 {c : ByteArray} {pc : Nat} {v : Int} (h : k2s c pc 199 v = true) : decode c pc = .ok (.ifnonnull v, 3) := by
  obtain ⟨h1, h2, h3⟩ := k2s_b h
  refine ins_r h1 h2 rfl ?_
  show Except.bind ((Reader.s2 : Decoder Int) c (pc + 1)) (fun x => Except.ok (Instr.ifnonnull x.1, x.2)) = _
  rw [h3]
  rfl
set_option maxRecDepth 20000 in
theorem op_2 {c : ByteArray} {pc : Nat} (h : k0_ c pc 2 = true) : decode c pc = .ok (.iconst (-1), 1) := by
  obtain ⟨h1, h2⟩ := k0_b h
  exact ins_r h1 h2 rfl rfl
set_option maxRecDepth 20000 in
theorem op_20 {c : ByteArray} {pc : Nat} {v : Nat} (h : k2_ c pc 20 v = true) : decode c pc = .ok (.ldc2_w v, 3) := by
  obtain ⟨h1, h2, h3⟩ := k2_b h
  refine ins_r h1 h2 rfl ?_
  show Except.bind ((Reader.u2 : Decoder Nat) c (pc + 1)) (fun x => Except.ok (Instr.ldc2_w x.1, x.2)) = _
  rw [h3]
  rfl
set_option maxRecDepth 20000 in
theorem op_21 {c : ByteArray} {pc : Nat} {v : Nat} (h : k1_ c pc 21 v = true) : decode c pc = .ok (.iload v, 2) := by
  obtain ⟨h1, h2, h3⟩ := k1_b h
  refine ins_r h1 h2 rfl ?_
  show Except.bind ((Reader.u1 : Decoder Nat) c (pc + 1)) (fun x => Except.ok (Instr.iload x.1, x.2)) = _
  rw [h3]
  rfl
set_option maxRecDepth 20000 in
theorem op_22 {c : ByteArray} {pc : Nat} {v : Nat} (h : k1_ c pc 22 v = true) : decode c pc = .ok (.lload v, 2) := by
  obtain ⟨h1, h2, h3⟩ := k1_b h
  refine ins_r h1 h2 rfl ?_
  show Except.bind ((Reader.u1 : Decoder Nat) c (pc + 1)) (fun x => Except.ok (Instr.lload x.1, x.2)) = _
  rw [h3]
  rfl
set_option maxRecDepth 20000 in
theorem op_25 {c : ByteArray} {pc : Nat} {v : Nat} (h : k1_ c pc 25 v = true) : decode c pc = .ok (.aload v, 2) := by
  obtain ⟨h1, h2, h3⟩ := k1_b h
  refine ins_r h1 h2 rfl ?_
  show Except.bind ((Reader.u1 : Decoder Nat) c (pc + 1)) (fun x => Except.ok (Instr.aload x.1, x.2)) = _
  rw [h3]
  rfl
set_option maxRecDepth 20000 in
theorem op_26 {c : ByteArray} {pc : Nat} (h : k0_ c pc 26 = true) : decode c pc = .ok (.iload_n 0, 1) := by
  obtain ⟨h1, h2⟩ := k0_b h
  exact ins_r h1 h2 rfl rfl
set_option maxRecDepth 20000 in
theorem op_27 {c : ByteArray} {pc : Nat} (h : k0_ c pc 27 = true) : decode c pc = .ok (.iload_n 1, 1) := by
  obtain ⟨h1, h2⟩ := k0_b h
  exact ins_r h1 h2 rfl rfl
set_option maxRecDepth 20000 in
theorem op_28 {c : ByteArray} {pc : Nat} (h : k0_ c pc 28 = true) : decode c pc = .ok (.iload_n 2, 1) := by
  obtain ⟨h1, h2⟩ := k0_b h
  exact ins_r h1 h2 rfl rfl
set_option maxRecDepth 20000 in
theorem op_29 {c : ByteArray} {pc : Nat} (h : k0_ c pc 29 = true) : decode c pc = .ok (.iload_n 3, 1) := by
  obtain ⟨h1, h2⟩ := k0_b h
  exact ins_r h1 h2 rfl rfl
set_option maxRecDepth 20000 in
theorem op_3 {c : ByteArray} {pc : Nat} (h : k0_ c pc 3 = true) : decode c pc = .ok (.iconst 0, 1) := by
  obtain ⟨h1, h2⟩ := k0_b h
  exact ins_r h1 h2 rfl rfl
set_option maxRecDepth 20000 in
theorem op_31 {c : ByteArray} {pc : Nat} (h : k0_ c pc 31 = true) : decode c pc = .ok (.lload_n 1, 1) := by
  obtain ⟨h1, h2⟩ := k0_b h
  exact ins_r h1 h2 rfl rfl
set_option maxRecDepth 20000 in
theorem op_33 {c : ByteArray} {pc : Nat} (h : k0_ c pc 33 = true) : decode c pc = .ok (.lload_n 3, 1) := by
  obtain ⟨h1, h2⟩ := k0_b h
  exact ins_r h1 h2 rfl rfl
set_option maxRecDepth 20000 in
theorem op_4 {c : ByteArray} {pc : Nat} (h : k0_ c pc 4 = true) : decode c pc = .ok (.iconst 1, 1) := by
  obtain ⟨h1, h2⟩ := k0_b h
  exact ins_r h1 h2 rfl rfl
set_option maxRecDepth 20000 in
theorem op_42 {c : ByteArray} {pc : Nat} (h : k0_ c pc 42 = true) : decode c pc = .ok (.aload_n 0, 1) := by
  obtain ⟨h1, h2⟩ := k0_b h
  exact ins_r h1 h2 rfl rfl
set_option maxRecDepth 20000 in
theorem op_43 {c : ByteArray} {pc : Nat} (h : k0_ c pc 43 = true) : decode c pc = .ok (.aload_n 1, 1) := by
  obtain ⟨h1, h2⟩ := k0_b h
  exact ins_r h1 h2 rfl rfl
set_option maxRecDepth 20000 in
theorem op_44 {c : ByteArray} {pc : Nat} (h : k0_ c pc 44 = true) : decode c pc = .ok (.aload_n 2, 1) := by
  obtain ⟨h1, h2⟩ := k0_b h
  exact ins_r h1 h2 rfl rfl
set_option maxRecDepth 20000 in
theorem op_45 {c : ByteArray} {pc : Nat} (h : k0_ c pc 45 = true) : decode c pc = .ok (.aload_n 3, 1) := by
  obtain ⟨h1, h2⟩ := k0_b h
  exact ins_r h1 h2 rfl rfl
set_option maxRecDepth 20000 in
theorem op_46 {c : ByteArray} {pc : Nat} (h : k0_ c pc 46 = true) : decode c pc = .ok (.iaload, 1) := by
  obtain ⟨h1, h2⟩ := k0_b h
  exact ins_r h1 h2 rfl rfl
set_option maxRecDepth 20000 in
theorem op_47 {c : ByteArray} {pc : Nat} (h : k0_ c pc 47 = true) : decode c pc = .ok (.laload, 1) := by
  obtain ⟨h1, h2⟩ := k0_b h
  exact ins_r h1 h2 rfl rfl
set_option maxRecDepth 20000 in
theorem op_5 {c : ByteArray} {pc : Nat} (h : k0_ c pc 5 = true) : decode c pc = .ok (.iconst 2, 1) := by
  obtain ⟨h1, h2⟩ := k0_b h
  exact ins_r h1 h2 rfl rfl
set_option maxRecDepth 20000 in
theorem op_50 {c : ByteArray} {pc : Nat} (h : k0_ c pc 50 = true) : decode c pc = .ok (.aaload, 1) := by
  obtain ⟨h1, h2⟩ := k0_b h
  exact ins_r h1 h2 rfl rfl
set_option maxRecDepth 20000 in
theorem op_51 {c : ByteArray} {pc : Nat} (h : k0_ c pc 51 = true) : decode c pc = .ok (.baload, 1) := by
  obtain ⟨h1, h2⟩ := k0_b h
  exact ins_r h1 h2 rfl rfl
set_option maxRecDepth 20000 in
theorem op_54 {c : ByteArray} {pc : Nat} {v : Nat} (h : k1_ c pc 54 v = true) : decode c pc = .ok (.istore v, 2) := by
  obtain ⟨h1, h2, h3⟩ := k1_b h
  refine ins_r h1 h2 rfl ?_
  show Except.bind ((Reader.u1 : Decoder Nat) c (pc + 1)) (fun x => Except.ok (Instr.istore x.1, x.2)) = _
  rw [h3]
  rfl
set_option maxRecDepth 20000 in
theorem op_55 {c : ByteArray} {pc : Nat} {v : Nat} (h : k1_ c pc 55 v = true) : decode c pc = .ok (.lstore v, 2) := by
  obtain ⟨h1, h2, h3⟩ := k1_b h
  refine ins_r h1 h2 rfl ?_
  show Except.bind ((Reader.u1 : Decoder Nat) c (pc + 1)) (fun x => Except.ok (Instr.lstore x.1, x.2)) = _
  rw [h3]
  rfl
set_option maxRecDepth 20000 in
theorem op_58 {c : ByteArray} {pc : Nat} {v : Nat} (h : k1_ c pc 58 v = true) : decode c pc = .ok (.astore v, 2) := by
  obtain ⟨h1, h2, h3⟩ := k1_b h
  refine ins_r h1 h2 rfl ?_
  show Except.bind ((Reader.u1 : Decoder Nat) c (pc + 1)) (fun x => Except.ok (Instr.astore x.1, x.2)) = _
  rw [h3]
  rfl
set_option maxRecDepth 20000 in
theorem op_6 {c : ByteArray} {pc : Nat} (h : k0_ c pc 6 = true) : decode c pc = .ok (.iconst 3, 1) := by
  obtain ⟨h1, h2⟩ := k0_b h
  exact ins_r h1 h2 rfl rfl
set_option maxRecDepth 20000 in
theorem op_60 {c : ByteArray} {pc : Nat} (h : k0_ c pc 60 = true) : decode c pc = .ok (.istore_n 1, 1) := by
  obtain ⟨h1, h2⟩ := k0_b h
  exact ins_r h1 h2 rfl rfl
set_option maxRecDepth 20000 in
theorem op_61 {c : ByteArray} {pc : Nat} (h : k0_ c pc 61 = true) : decode c pc = .ok (.istore_n 2, 1) := by
  obtain ⟨h1, h2⟩ := k0_b h
  exact ins_r h1 h2 rfl rfl
set_option maxRecDepth 20000 in
theorem op_62 {c : ByteArray} {pc : Nat} (h : k0_ c pc 62 = true) : decode c pc = .ok (.istore_n 3, 1) := by
  obtain ⟨h1, h2⟩ := k0_b h
  exact ins_r h1 h2 rfl rfl
set_option maxRecDepth 20000 in
theorem op_7 {c : ByteArray} {pc : Nat} (h : k0_ c pc 7 = true) : decode c pc = .ok (.iconst 4, 1) := by
  obtain ⟨h1, h2⟩ := k0_b h
  exact ins_r h1 h2 rfl rfl
set_option maxRecDepth 20000 in
theorem op_76 {c : ByteArray} {pc : Nat} (h : k0_ c pc 76 = true) : decode c pc = .ok (.astore_n 1, 1) := by
  obtain ⟨h1, h2⟩ := k0_b h
  exact ins_r h1 h2 rfl rfl
set_option maxRecDepth 20000 in
theorem op_77 {c : ByteArray} {pc : Nat} (h : k0_ c pc 77 = true) : decode c pc = .ok (.astore_n 2, 1) := by
  obtain ⟨h1, h2⟩ := k0_b h
  exact ins_r h1 h2 rfl rfl
set_option maxRecDepth 20000 in
theorem op_78 {c : ByteArray} {pc : Nat} (h : k0_ c pc 78 = true) : decode c pc = .ok (.astore_n 3, 1) := by
  obtain ⟨h1, h2⟩ := k0_b h
  exact ins_r h1 h2 rfl rfl
set_option maxRecDepth 20000 in
theorem op_79 {c : ByteArray} {pc : Nat} (h : k0_ c pc 79 = true) : decode c pc = .ok (.iastore, 1) := by
  obtain ⟨h1, h2⟩ := k0_b h
  exact ins_r h1 h2 rfl rfl
set_option maxRecDepth 20000 in
theorem op_8 {c : ByteArray} {pc : Nat} (h : k0_ c pc 8 = true) : decode c pc = .ok (.iconst 5, 1) := by
  obtain ⟨h1, h2⟩ := k0_b h
  exact ins_r h1 h2 rfl rfl
set_option maxRecDepth 20000 in
theorem op_80 {c : ByteArray} {pc : Nat} (h : k0_ c pc 80 = true) : decode c pc = .ok (.lastore, 1) := by
  obtain ⟨h1, h2⟩ := k0_b h
  exact ins_r h1 h2 rfl rfl
set_option maxRecDepth 20000 in
theorem op_83 {c : ByteArray} {pc : Nat} (h : k0_ c pc 83 = true) : decode c pc = .ok (.aastore, 1) := by
  obtain ⟨h1, h2⟩ := k0_b h
  exact ins_r h1 h2 rfl rfl
set_option maxRecDepth 20000 in
theorem op_84 {c : ByteArray} {pc : Nat} (h : k0_ c pc 84 = true) : decode c pc = .ok (.bastore, 1) := by
  obtain ⟨h1, h2⟩ := k0_b h
  exact ins_r h1 h2 rfl rfl
set_option maxRecDepth 20000 in
theorem op_87 {c : ByteArray} {pc : Nat} (h : k0_ c pc 87 = true) : decode c pc = .ok (.pop, 1) := by
  obtain ⟨h1, h2⟩ := k0_b h
  exact ins_r h1 h2 rfl rfl
set_option maxRecDepth 20000 in
theorem op_88 {c : ByteArray} {pc : Nat} (h : k0_ c pc 88 = true) : decode c pc = .ok (.pop2, 1) := by
  obtain ⟨h1, h2⟩ := k0_b h
  exact ins_r h1 h2 rfl rfl
set_option maxRecDepth 20000 in
theorem op_89 {c : ByteArray} {pc : Nat} (h : k0_ c pc 89 = true) : decode c pc = .ok (.dup, 1) := by
  obtain ⟨h1, h2⟩ := k0_b h
  exact ins_r h1 h2 rfl rfl
set_option maxRecDepth 20000 in
theorem op_9 {c : ByteArray} {pc : Nat} (h : k0_ c pc 9 = true) : decode c pc = .ok (.lconst 0, 1) := by
  obtain ⟨h1, h2⟩ := k0_b h
  exact ins_r h1 h2 rfl rfl
set_option maxRecDepth 20000 in
theorem op_92 {c : ByteArray} {pc : Nat} (h : k0_ c pc 92 = true) : decode c pc = .ok (.dup2, 1) := by
  obtain ⟨h1, h2⟩ := k0_b h
  exact ins_r h1 h2 rfl rfl
set_option maxRecDepth 20000 in
theorem op_96 {c : ByteArray} {pc : Nat} (h : k0_ c pc 96 = true) : decode c pc = .ok (.iadd, 1) := by
  obtain ⟨h1, h2⟩ := k0_b h
  exact ins_r h1 h2 rfl rfl
set_option maxRecDepth 20000 in
theorem op_97 {c : ByteArray} {pc : Nat} (h : k0_ c pc 97 = true) : decode c pc = .ok (.ladd, 1) := by
  obtain ⟨h1, h2⟩ := k0_b h
  exact ins_r h1 h2 rfl rfl
