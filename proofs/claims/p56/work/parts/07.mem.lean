theorem nhX0 : RX0 ≠ "java/lang/invoke/MethodHandle" := by decide +kernel
theorem nvX0 : RX0 ≠ "java/lang/invoke/VarHandle" := by decide +kernel
theorem nhX1 : RX1 ≠ "java/lang/invoke/MethodHandle" := by decide +kernel
theorem nvX1 : RX1 ≠ "java/lang/invoke/VarHandle" := by decide +kernel
theorem nhX2 : RX2 ≠ "java/lang/invoke/MethodHandle" := by decide +kernel
theorem nvX2 : RX2 ≠ "java/lang/invoke/VarHandle" := by decide +kernel
theorem nhX3 : RX3 ≠ "java/lang/invoke/MethodHandle" := by decide +kernel
theorem nvX3 : RX3 ≠ "java/lang/invoke/VarHandle" := by decide +kernel
theorem nhX4 : RX4 ≠ "java/lang/invoke/MethodHandle" := by decide +kernel
theorem nvX4 : RX4 ≠ "java/lang/invoke/VarHandle" := by decide +kernel
theorem nhX5 : RX5 ≠ "java/lang/invoke/MethodHandle" := by decide +kernel
theorem nvX5 : RX5 ≠ "java/lang/invoke/VarHandle" := by decide +kernel
theorem nhX6 : RX6 ≠ "java/lang/invoke/MethodHandle" := by decide +kernel
theorem nvX6 : RX6 ≠ "java/lang/invoke/VarHandle" := by decide +kernel
theorem nhX7 : RX7 ≠ "java/lang/invoke/MethodHandle" := by decide +kernel
theorem nvX7 : RX7 ≠ "java/lang/invoke/VarHandle" := by decide +kernel
theorem nhX8 : RX8 ≠ "java/lang/invoke/MethodHandle" := by decide +kernel
theorem nvX8 : RX8 ≠ "java/lang/invoke/VarHandle" := by decide +kernel
theorem nhX9 : RX9 ≠ "java/lang/invoke/MethodHandle" := by decide +kernel
theorem nvX9 : RX9 ≠ "java/lang/invoke/VarHandle" := by decide +kernel
theorem nhX10 : RX10 ≠ "java/lang/invoke/MethodHandle" := by decide +kernel
theorem nvX10 : RX10 ≠ "java/lang/invoke/VarHandle" := by decide +kernel
theorem nhX11 : RX11 ≠ "java/lang/invoke/MethodHandle" := by decide +kernel
theorem nvX11 : RX11 ≠ "java/lang/invoke/VarHandle" := by decide +kernel
theorem nhX12 : RX12 ≠ "java/lang/invoke/MethodHandle" := by decide +kernel
theorem nvX12 : RX12 ≠ "java/lang/invoke/VarHandle" := by decide +kernel
theorem nhJ11 : RJ11 ≠ "java/lang/invoke/MethodHandle" := by decide +kernel
theorem nvJ11 : RJ11 ≠ "java/lang/invoke/VarHandle" := by decide +kernel
theorem nhJ9 : RJ9 ≠ "java/lang/invoke/MethodHandle" := by decide +kernel
theorem nvJ9 : RJ9 ≠ "java/lang/invoke/VarHandle" := by decide +kernel
theorem nhJ0 : RJ0 ≠ "java/lang/invoke/MethodHandle" := by decide +kernel
theorem nvJ0 : RJ0 ≠ "java/lang/invoke/VarHandle" := by decide +kernel
theorem nhJ1 : RJ1 ≠ "java/lang/invoke/MethodHandle" := by decide +kernel
theorem nvJ1 : RJ1 ≠ "java/lang/invoke/VarHandle" := by decide +kernel
theorem nhJ2 : RJ2 ≠ "java/lang/invoke/MethodHandle" := by decide +kernel
theorem nvJ2 : RJ2 ≠ "java/lang/invoke/VarHandle" := by decide +kernel
theorem nhJ7 : RJ7 ≠ "java/lang/invoke/MethodHandle" := by decide +kernel
theorem nvJ7 : RJ7 ≠ "java/lang/invoke/VarHandle" := by decide +kernel
theorem nhJ3 : RJ3 ≠ "java/lang/invoke/MethodHandle" := by decide +kernel
theorem nvJ3 : RJ3 ≠ "java/lang/invoke/VarHandle" := by decide +kernel
theorem gw_in {L : List Cond} (hL : ∀ w ∈ L, w ∈ lw_tbl) (i : Nat) {w : Cond} (h : L[i]? = some w) (hg : goodWord w = true) : w ∈ gw := List.mem_filter.mpr ⟨hL _ (List.mem_of_getElem? h), hg⟩
theorem in_t1 : ∀ w ∈ tables_1_1, w ∈ lw_tbl := fun w h => List.mem_append_right _ (List.mem_append_left _ h)
theorem in_t2 : ∀ w ∈ tables_1_2, w ∈ lw_tbl := fun w h => List.mem_append_right _ (List.mem_append_right _ (List.mem_append_left _ h))
theorem in_t3 : ∀ w ∈ tables_1_3, w ∈ lw_tbl := fun w h => List.mem_append_right _ (List.mem_append_right _ (List.mem_append_right _ (List.mem_append_left _ h)))
theorem in_t4 : ∀ w ∈ tables_1_4, w ∈ lw_tbl := fun w h => List.mem_append_right _ (List.mem_append_right _ (List.mem_append_right _ (List.mem_append_right _ (List.mem_append_left _ h))))
theorem in_t5 : ∀ w ∈ tables_1_5, w ∈ lw_tbl := fun w h => List.mem_append_right _ (List.mem_append_right _ (List.mem_append_right _ (List.mem_append_right _ (List.mem_append_right _ (List.mem_append_left _ h)))))
theorem in_t6 : ∀ w ∈ tables_1_6, w ∈ lw_tbl := fun w h => List.mem_append_right _ (List.mem_append_right _ (List.mem_append_right _ (List.mem_append_right _ (List.mem_append_right _ (List.mem_append_right _ (List.mem_append_left _ h))))))
theorem in_t7 : ∀ w ∈ tables_1_7, w ∈ lw_tbl := fun w h => List.mem_append_right _ (List.mem_append_right _ (List.mem_append_right _ (List.mem_append_right _ (List.mem_append_right _ (List.mem_append_right _ (List.mem_append_right _ (List.mem_append_left _ h)))))))
theorem in_t8 : ∀ w ∈ tables_1_8, w ∈ lw_tbl := fun w h => List.mem_append_right _ (List.mem_append_right _ (List.mem_append_right _ (List.mem_append_right _ (List.mem_append_right _ (List.mem_append_right _ (List.mem_append_right _ (List.mem_append_right _ (List.mem_append_left _ h))))))))
theorem in_t9 : ∀ w ∈ tables_1_9, w ∈ lw_tbl := fun w h => List.mem_append_right _ (List.mem_append_right _ (List.mem_append_right _ (List.mem_append_right _ (List.mem_append_right _ (List.mem_append_right _ (List.mem_append_right _ (List.mem_append_right _ (List.mem_append_right _ h))))))))
theorem gw_subL {L : List Cond} (hL : ∀ w ∈ L, w ∈ lw_tbl) {ws : List Cond} (ps : List Nat) (h : ws = ps.filterMap (fun i => L[i]?)) (hg : ws.all goodWord = true) : ∀ w ∈ ws, w ∈ gw := by
  intro w hw
  refine List.mem_filter.mpr ⟨hL w ?_, List.all_eq_true.mp hg w hw⟩
  rw [h] at hw
  obtain ⟨i, -, hi⟩ := List.mem_filterMap.mp hw
  exact List.mem_of_getElem? hi
theorem okX0 : ∀ w ∈ u_ws RX0 TX0 12, w ∈ gw := gw_subL in_t1 [143, 145, 147, 149, 151, 153, 155, 157, 159, 161, 163, 165] (by decide +kernel) (by decide +kernel)
theorem okX1 : ∀ w ∈ u_ws RX1 TX1 5, w ∈ gw := gw_subL in_t3 [167, 169, 171, 173, 175] (by decide +kernel) (by decide +kernel)
theorem okX2 : ∀ w ∈ u_ws RX2 TX2 13, w ∈ gw := gw_subL in_t1 [90, 92, 94, 96, 98, 100, 102, 104, 106, 108, 110, 112, 114] (by decide +kernel) (by decide +kernel)
theorem okX3 : ∀ w ∈ u_ws RX3 TX3 11, w ∈ gw := gw_subL (L := tables_1_2 ++ tables_1_3) (fun w h => (List.mem_append.mp h).elim (in_t2 w) (in_t3 w)) [229, 231, 233, 235, 237, 239, 241, 243, 245, 247, 249] (by decide +kernel) (by decide +kernel)
theorem okX4 : ∀ w ∈ u_ws RX4 TX4 3, w ∈ gw := gw_subL in_t1 [182, 184, 186] (by decide +kernel) (by decide +kernel)
theorem okX5 : ∀ w ∈ u_ws RX5 TX5 5, w ∈ gw := gw_subL in_t1 [49, 51, 53, 55, 57] (by decide +kernel) (by decide +kernel)
theorem okX6 : ∀ w ∈ u_ws RX6 TX6 15, w ∈ gw := gw_subL in_t2 [50, 52, 54, 56, 58, 60, 62, 64, 66, 68, 70, 72, 74, 76, 78] (by decide +kernel) (by decide +kernel)
theorem okX7 : ∀ w ∈ u_ws RX7 TX7 6, w ∈ gw := gw_subL in_t1 [204, 206, 208, 210, 212, 214] (by decide +kernel) (by decide +kernel)
theorem okX8 : ∀ w ∈ u_ws RX8 TX8 5, w ∈ gw := gw_subL in_t2 [97, 99, 101, 103, 105] (by decide +kernel) (by decide +kernel)
theorem okX9 : ∀ w ∈ u_ws RX9 TX9 6, w ∈ gw := gw_subL in_t2 [6, 8, 10, 12, 14, 16] (by decide +kernel) (by decide +kernel)
theorem okX10 : ∀ w ∈ u_ws RX10 TX10 5, w ∈ gw := gw_subL in_t4 [167, 169, 171, 173, 175] (by decide +kernel) (by decide +kernel)
theorem okX11 : ∀ w ∈ u_ws RX11 TX11 19, w ∈ gw := gw_subL in_t2 [128, 130, 132, 134, 136, 138, 140, 142, 144, 146, 148, 150, 152, 154, 156, 158, 160, 162, 164] (by decide +kernel) (by decide +kernel)
theorem okX12 : ∀ w ∈ u_ws RX12 TX12 95, w ∈ gw := gw_subL (L := tables_1_6 ++ tables_1_7) (fun w h => (List.mem_append.mp h).elim (in_t6 w) (in_t7 w)) [127, 129, 131, 133, 135, 137, 139, 141, 143, 145, 147, 149, 151, 153, 155, 157, 159, 161, 163, 165, 167, 169, 171, 173, 175, 177, 179, 181, 183, 185, 187, 189, 191, 193, 195, 197, 199, 201, 203, 205, 207, 209, 211, 213, 215, 217, 219, 221, 223, 225, 227, 229, 231, 233, 235, 237, 239, 241, 243, 245, 247, 249, 251, 253, 255, 257, 259, 261, 263, 265, 267, 269, 271, 273, 275, 277, 279, 281, 283, 285, 287, 289, 291, 293, 295, 297, 299, 301, 303, 305, 307, 309, 311, 313, 315] (by decide +kernel) (by decide +kernel)
theorem clsAll : ClsAll := by
  intro ci q hq
  match ci, hq with
  | 0, hq => cases hq; exact ⟨okX0, tyX0, tyX0_ok, nmX0⟩
  | 1, hq => cases hq; exact ⟨okX1, tyX1, tyX1_ok, nmX1⟩
  | 2, hq => cases hq; exact ⟨okX2, tyX2, tyX2_ok, nmX2⟩
  | 3, hq => cases hq; exact ⟨okX3, tyX3, tyX3_ok, nmX3⟩
  | 4, hq => cases hq; exact ⟨okX4, tyX4, tyX4_ok, nmX4⟩
  | 5, hq => cases hq; exact ⟨okX5, tyX5, tyX5_ok, nmX5⟩
  | 6, hq => cases hq; exact ⟨okX6, tyX6, tyX6_ok, nmX6⟩
  | 7, hq => cases hq; exact ⟨okX7, tyX7, tyX7_ok, nmX7⟩
  | 8, hq => cases hq; exact ⟨okX8, tyX8, tyX8_ok, nmX8⟩
  | 9, hq => cases hq; exact ⟨okX9, tyX9, tyX9_ok, nmX9⟩
  | 10, hq => cases hq; exact ⟨okX10, tyX10, tyX10_ok, nmX10⟩
  | 11, hq => cases hq; exact ⟨okX11, tyX11, tyX11_ok, nmX11⟩
  | 12, hq => cases hq; exact ⟨okX12, tyX12, tyX12_ok, nmX12⟩
  | n + 13, hq => simp [cls] at hq
theorem ini_RL : Cond.initialized RL ∈ gw := gw_in in_t1 0 rfl rfl
theorem ini_RX11 : Cond.initialized RX11 ∈ gw := gw_in in_t1 1 rfl rfl
theorem ini_RX5 : Cond.initialized RX5 ∈ gw := gw_in in_t1 2 rfl rfl
theorem ini_RJ7 : Cond.initialized RJ7 ∈ gw := gw_in in_t1 3 rfl rfl
theorem ini_RX2 : Cond.initialized RX2 ∈ gw := gw_in in_t1 4 rfl rfl
theorem ini_RX0 : Cond.initialized RX0 ∈ gw := gw_in in_t1 5 rfl rfl
theorem ini_RX4 : Cond.initialized RX4 ∈ gw := gw_in in_t1 6 rfl rfl
theorem ini_RX7 : Cond.initialized RX7 ∈ gw := gw_in in_t1 7 rfl rfl
theorem ini_RJ0 : Cond.initialized RJ0 ∈ gw := gw_in in_t1 8 rfl rfl
theorem ini_RX9 : Cond.initialized RX9 ∈ gw := gw_in in_t1 9 rfl rfl
theorem ini_RX6 : Cond.initialized RX6 ∈ gw := gw_in in_t1 10 rfl rfl
theorem ini_RX8 : Cond.initialized RX8 ∈ gw := gw_in in_t1 11 rfl rfl
theorem ini_RX12 : Cond.initialized RX12 ∈ gw := gw_in in_t1 12 rfl rfl
theorem ini_RX3 : Cond.initialized RX3 ∈ gw := gw_in in_t1 13 rfl rfl
theorem ini_RJ9 : Cond.initialized RJ9 ∈ gw := gw_in in_t1 14 rfl rfl
theorem ini_RX1 : Cond.initialized RX1 ∈ gw := gw_in in_t1 15 rfl rfl
theorem ini_RJ1 : Cond.initialized RJ1 ∈ gw := gw_in in_t1 16 rfl rfl
theorem ini_RJ2 : Cond.initialized RJ2 ∈ gw := gw_in in_t1 17 rfl rfl
theorem ini_RJ3 : Cond.initialized RJ3 ∈ gw := gw_in in_t1 18 rfl rfl
theorem ini_RJ11 : Cond.initialized RJ11 ∈ gw := gw_in in_t1 19 rfl rfl
theorem ini_RX10 : Cond.initialized RX10 ∈ gw := gw_in in_t1 20 rfl rfl
theorem ini_RJ10 : Cond.initialized RJ10 ∈ gw := gw_in in_t1 21 rfl rfl
theorem cl_RL_7 : Cond.classLink RL 7 RX11 ∈ gw := gw_in in_t1 22 rfl rfl
theorem ins_RX11 : Cond.instantiable RX11 19 ∈ gw := gw_in in_t1 23 rfl rfl
theorem ml_RL_9 : Cond.methodLink RL 9 yX11_init ∈ gw := gw_in in_t1 24 rfl rfl
theorem ml_RX11_1 : Cond.methodLink RX11 1 ⟨"java/lang/Object", "<init>", "()V"⟩ ∈ gw := gw_in in_t1 27 rfl rfl
theorem cl_RX11_7 : Cond.classLink RX11 7 RX5 ∈ gw := gw_in in_t1 30 rfl rfl
theorem ins_RX5 : Cond.instantiable RX5 5 ∈ gw := gw_in in_t1 31 rfl rfl
theorem ml_RX11_9 : Cond.methodLink RX11 9 yX5_init ∈ gw := gw_in in_t1 32 rfl rfl
theorem ml_RX5_3 : Cond.methodLink RX5 3 ⟨"java/lang/Object", "<init>", "()V"⟩ ∈ gw := gw_in in_t1 35 rfl rfl
theorem ml_RX5_24 : Cond.methodLink RX5 24 yJ7_fill_53178 ∈ gw := gw_in in_t1 36 rfl rfl
theorem fl_RX5_9 : FL RX5 9 5 0 (.array .int) true := ⟨_, rfl, by decide, gw_in in_t1 39 rfl rfl, rfl, by decide +kernel, rfl⟩
theorem fl_RX11_105 : FL RX11 105 5 0 (.array .int) true := ⟨_, rfl, by decide, gw_in in_t1 40 rfl rfl, rfl, by decide +kernel, rfl⟩
theorem fl_RX5_15 : FL RX5 15 5 1 (.array .int) true := ⟨_, rfl, by decide, gw_in in_t1 41 rfl rfl, rfl, by decide +kernel, rfl⟩
theorem fl_RX11_108 : FL RX11 108 5 1 (.array .int) true := ⟨_, rfl, by decide, gw_in in_t1 42 rfl rfl, rfl, by decide +kernel, rfl⟩
theorem fl_RX5_18 : FL RX5 18 5 2 (.array .int) true := ⟨_, rfl, by decide, gw_in in_t1 43 rfl rfl, rfl, by decide +kernel, rfl⟩
theorem fl_RX11_531 : FL RX11 531 5 2 (.array .int) true := ⟨_, rfl, by decide, gw_in in_t1 44 rfl rfl, rfl, by decide +kernel, rfl⟩
theorem fl_RX5_21 : FL RX5 21 5 3 (.array .int) true := ⟨_, rfl, by decide, gw_in in_t1 45 rfl rfl, rfl, by decide +kernel, rfl⟩
theorem fl_RX11_534 : FL RX11 534 5 3 (.array .int) true := ⟨_, rfl, by decide, gw_in in_t1 46 rfl rfl, rfl, by decide +kernel, rfl⟩
theorem fl_RX5_30 : FL RX5 30 5 4 .int false := ⟨_, rfl, by decide, gw_in in_t1 47 rfl rfl, rfl, by decide +kernel, rfl⟩
theorem fl_RX11_528 : FL RX11 528 5 4 .int false := ⟨_, rfl, by decide, gw_in in_t1 48 rfl rfl, rfl, by decide +kernel, rfl⟩
theorem ac_int : Cond.arrayClass .int ∈ gw := gw_in in_t1 60 rfl rfl
theorem cl_RX11_16 : Cond.classLink RX11 16 RX2 ∈ gw := gw_in in_t1 61 rfl rfl
theorem ins_RX2 : Cond.instantiable RX2 13 ∈ gw := gw_in in_t1 62 rfl rfl
theorem ml_RX2_3 : Cond.methodLink RX2 3 ⟨"java/lang/Object", "<init>", "()V"⟩ ∈ gw := gw_in in_t1 66 rfl rfl
theorem fl_RX2_9 : FL RX2 9 2 0 (.array .int) true := ⟨_, rfl, by decide, gw_in in_t1 67 rfl rfl, rfl, by decide +kernel, rfl⟩
theorem fl_RX0_97 : FL RX0 97 2 0 (.array .int) true := ⟨_, rfl, by decide, gw_in in_t1 68 rfl rfl, rfl, by decide +kernel, rfl⟩
theorem fl_RX11_489 : FL RX11 489 2 0 (.array .int) true := ⟨_, rfl, by decide, gw_in in_t1 69 rfl rfl, rfl, by decide +kernel, rfl⟩
theorem fl_RX2_15 : FL RX2 15 2 1 (.array .int) true := ⟨_, rfl, by decide, gw_in in_t1 70 rfl rfl, rfl, by decide +kernel, rfl⟩
theorem fl_RX11_492 : FL RX11 492 2 1 (.array .int) true := ⟨_, rfl, by decide, gw_in in_t1 71 rfl rfl, rfl, by decide +kernel, rfl⟩
theorem fl_RX2_18 : FL RX2 18 2 2 (.array .int) true := ⟨_, rfl, by decide, gw_in in_t1 72 rfl rfl, rfl, by decide +kernel, rfl⟩
theorem fl_RX11_155 : FL RX11 155 2 2 (.array .int) true := ⟨_, rfl, by decide, gw_in in_t1 73 rfl rfl, rfl, by decide +kernel, rfl⟩
theorem fl_RX2_21 : FL RX2 21 2 3 (.array .int) true := ⟨_, rfl, by decide, gw_in in_t1 74 rfl rfl, rfl, by decide +kernel, rfl⟩
theorem fl_RX11_384 : FL RX11 384 2 3 (.array .int) true := ⟨_, rfl, by decide, gw_in in_t1 75 rfl rfl, rfl, by decide +kernel, rfl⟩
theorem fl_RX2_36 : FL RX2 36 2 4 .int false := ⟨_, rfl, by decide, gw_in in_t1 76 rfl rfl, rfl, by decide +kernel, rfl⟩
theorem fl_RX11_301 : FL RX11 301 2 4 .int false := ⟨_, rfl, by decide, gw_in in_t1 77 rfl rfl, rfl, by decide +kernel, rfl⟩
theorem fl_RX2_24 : FL RX2 24 2 5 (.array .int) true := ⟨_, rfl, by decide, gw_in in_t1 78 rfl rfl, rfl, by decide +kernel, rfl⟩
theorem fl_RX2_27 : FL RX2 27 2 6 (.array .int) true := ⟨_, rfl, by decide, gw_in in_t1 79 rfl rfl, rfl, by decide +kernel, rfl⟩
theorem fl_RX11_344 : FL RX11 344 2 6 (.array .int) true := ⟨_, rfl, by decide, gw_in in_t1 80 rfl rfl, rfl, by decide +kernel, rfl⟩
theorem fl_RX2_54 : FL RX2 54 2 7 .int false := ⟨_, rfl, by decide, gw_in in_t1 81 rfl rfl, rfl, by decide +kernel, rfl⟩
theorem fl_RX11_341 : FL RX11 341 2 7 .int false := ⟨_, rfl, by decide, gw_in in_t1 82 rfl rfl, rfl, by decide +kernel, rfl⟩
theorem fl_RX2_30 : FL RX2 30 2 8 (.array .int) true := ⟨_, rfl, by decide, gw_in in_t1 83 rfl rfl, rfl, by decide +kernel, rfl⟩
theorem fl_RX11_396 : FL RX11 396 2 8 (.array .int) true := ⟨_, rfl, by decide, gw_in in_t1 84 rfl rfl, rfl, by decide +kernel, rfl⟩
theorem fl_RX2_33 : FL RX2 33 2 9 (.array .int) true := ⟨_, rfl, by decide, gw_in in_t1 85 rfl rfl, rfl, by decide +kernel, rfl⟩
theorem fl_RX2_63 : FL RX2 63 2 10 .int false := ⟨_, rfl, by decide, gw_in in_t1 86 rfl rfl, rfl, by decide +kernel, rfl⟩
theorem fl_RX11_390 : FL RX11 390 2 10 .int false := ⟨_, rfl, by decide, gw_in in_t1 87 rfl rfl, rfl, by decide +kernel, rfl⟩
theorem fl_RX2_66 : FL RX2 66 2 11 .int false := ⟨_, rfl, by decide, gw_in in_t1 88 rfl rfl, rfl, by decide +kernel, rfl⟩
theorem fl_RX2_69 : FL RX2 69 2 12 .int false := ⟨_, rfl, by decide, gw_in in_t1 89 rfl rfl, rfl, by decide +kernel, rfl⟩
theorem cl_RX11_23 : Cond.classLink RX11 23 RX0 ∈ gw := gw_in in_t1 117 rfl rfl
theorem ins_RX0 : Cond.instantiable RX0 12 ∈ gw := gw_in in_t1 118 rfl rfl
theorem ml_RX11_25 : Cond.methodLink RX11 25 yX0_init ∈ gw := gw_in in_t1 119 rfl rfl
theorem ml_RX0_3 : Cond.methodLink RX0 3 ⟨"java/lang/Object", "<init>", "()V"⟩ ∈ gw := gw_in in_t1 122 rfl rfl
theorem cl_RX0_15 : Cond.classLink RX0 15 RX3 ∈ gw := gw_in in_t1 123 rfl rfl
theorem fl_RX0_9 : FL RX0 9 0 0 (.array .int) true := ⟨_, rfl, by decide, gw_in in_t1 125 rfl rfl, rfl, by decide +kernel, rfl⟩
theorem fl_RX0_17 : FL RX0 17 0 1 (.array (.object "ThirtyThreeBelow$Hole")) true := ⟨_, rfl, by decide, gw_in in_t1 126 rfl rfl, rfl, by decide +kernel, rfl⟩
theorem fl_RX0_28 : FL RX0 28 0 2 (.object "ThirtyThreeBelow$Crew") true := ⟨_, rfl, by decide, gw_in in_t1 127 rfl rfl, rfl, by decide +kernel, rfl⟩
theorem fl_RX0_32 : FL RX0 32 0 3 .int false := ⟨_, rfl, by decide, gw_in in_t1 128 rfl rfl, rfl, by decide +kernel, rfl⟩
theorem fl_RX11_381 : FL RX11 381 0 3 .int false := ⟨_, rfl, by decide, gw_in in_t1 129 rfl rfl, rfl, by decide +kernel, rfl⟩
theorem fl_RX0_48 : FL RX0 48 0 4 .int false := ⟨_, rfl, by decide, gw_in in_t1 130 rfl rfl, rfl, by decide +kernel, rfl⟩
theorem fl_RX11_451 : FL RX11 451 0 4 .int false := ⟨_, rfl, by decide, gw_in in_t1 131 rfl rfl, rfl, by decide +kernel, rfl⟩
theorem fl_RX0_21 : FL RX0 21 0 5 .int false := ⟨_, rfl, by decide, gw_in in_t1 132 rfl rfl, rfl, by decide +kernel, rfl⟩
theorem fl_RX11_125 : FL RX11 125 0 5 .int false := ⟨_, rfl, by decide, gw_in in_t1 133 rfl rfl, rfl, by decide +kernel, rfl⟩
theorem fl_RX0_51 : FL RX0 51 0 6 .int false := ⟨_, rfl, by decide, gw_in in_t1 134 rfl rfl, rfl, by decide +kernel, rfl⟩
theorem fl_RX0_54 : FL RX0 54 0 7 .int false := ⟨_, rfl, by decide, gw_in in_t1 135 rfl rfl, rfl, by decide +kernel, rfl⟩
theorem fl_RX0_57 : FL RX0 57 0 8 .int false := ⟨_, rfl, by decide, gw_in in_t1 136 rfl rfl, rfl, by decide +kernel, rfl⟩
theorem fl_RX0_60 : FL RX0 60 0 9 .int false := ⟨_, rfl, by decide, gw_in in_t1 137 rfl rfl, rfl, by decide +kernel, rfl⟩
theorem fl_RX11_537 : FL RX11 537 0 9 .int false := ⟨_, rfl, by decide, gw_in in_t1 138 rfl rfl, rfl, by decide +kernel, rfl⟩
theorem fl_RX0_25 : FL RX0 25 0 10 (.array .int) true := ⟨_, rfl, by decide, gw_in in_t1 139 rfl rfl, rfl, by decide +kernel, rfl⟩
theorem fl_RX11_408 : FL RX11 408 0 10 (.array .int) true := ⟨_, rfl, by decide, gw_in in_t1 140 rfl rfl, rfl, by decide +kernel, rfl⟩
theorem fl_RX0_64 : FL RX0 64 0 11 .int false := ⟨_, rfl, by decide, gw_in in_t1 141 rfl rfl, rfl, by decide +kernel, rfl⟩
theorem fl_RX11_405 : FL RX11 405 0 11 .int false := ⟨_, rfl, by decide, gw_in in_t1 142 rfl rfl, rfl, by decide +kernel, rfl⟩
theorem cl_RX11_32 : Cond.classLink RX11 32 RX4 ∈ gw := gw_in in_t1 168 rfl rfl
theorem ins_RX4 : Cond.instantiable RX4 3 ∈ gw := gw_in in_t1 170 rfl rfl
theorem ml_RX4_1 : Cond.methodLink RX4 1 ⟨"java/lang/Object", "<init>", "()V"⟩ ∈ gw := gw_in in_t1 174 rfl rfl
theorem fl_RX4_7 : FL RX4 7 4 0 .int false := ⟨_, rfl, by decide, gw_in in_t1 175 rfl rfl, rfl, by decide +kernel, rfl⟩
theorem fl_RX6_77 : FL RX6 77 4 0 .int false := ⟨_, rfl, by decide, gw_in in_t1 176 rfl rfl, rfl, by decide +kernel, rfl⟩
theorem fl_RX11_162 : FL RX11 162 4 0 .int false := ⟨_, rfl, by decide, gw_in in_t1 177 rfl rfl, rfl, by decide +kernel, rfl⟩
theorem fl_RX4_13 : FL RX4 13 4 1 .int false := ⟨_, rfl, by decide, gw_in in_t1 178 rfl rfl, rfl, by decide +kernel, rfl⟩
theorem fl_RX11_165 : FL RX11 165 4 1 .int false := ⟨_, rfl, by decide, gw_in in_t1 179 rfl rfl, rfl, by decide +kernel, rfl⟩
theorem fl_RX4_16 : FL RX4 16 4 2 .int false := ⟨_, rfl, by decide, gw_in in_t1 180 rfl rfl, rfl, by decide +kernel, rfl⟩
theorem fl_RX11_171 : FL RX11 171 4 2 .int false := ⟨_, rfl, by decide, gw_in in_t1 181 rfl rfl, rfl, by decide +kernel, rfl⟩
theorem cl_RX11_39 : Cond.classLink RX11 39 RX1 ∈ gw := gw_in in_t1 189 rfl rfl
theorem cl_RX11_45 : Cond.classLink RX11 45 RX7 ∈ gw := gw_in in_t1 191 rfl rfl
theorem ins_RX7 : Cond.instantiable RX7 6 ∈ gw := gw_in in_t1 192 rfl rfl
theorem ml_RX7_3 : Cond.methodLink RX7 3 ⟨"java/lang/Object", "<init>", "()V"⟩ ∈ gw := gw_in in_t1 196 rfl rfl
theorem fl_RX7_11 : FL RX7 11 7 0 (.array .int) true := ⟨_, rfl, by decide, gw_in in_t1 197 rfl rfl, rfl, by decide +kernel, rfl⟩
theorem fl_RX7_18 : FL RX7 18 7 1 .int false := ⟨_, rfl, by decide, gw_in in_t1 198 rfl rfl, rfl, by decide +kernel, rfl⟩
theorem fl_RX11_273 : FL RX11 273 7 1 .int false := ⟨_, rfl, by decide, gw_in in_t1 199 rfl rfl, rfl, by decide +kernel, rfl⟩
theorem fl_RX7_15 : FL RX7 15 7 2 (.array .int) true := ⟨_, rfl, by decide, gw_in in_t1 200 rfl rfl, rfl, by decide +kernel, rfl⟩
theorem fl_RX7_22 : FL RX7 22 7 3 .int false := ⟨_, rfl, by decide, gw_in in_t1 201 rfl rfl, rfl, by decide +kernel, rfl⟩
theorem fl_RX7_31 : FL RX7 31 7 4 .int false := ⟨_, rfl, by decide, gw_in in_t1 202 rfl rfl, rfl, by decide +kernel, rfl⟩
theorem fl_RX7_34 : FL RX7 34 7 5 .int false := ⟨_, rfl, by decide, gw_in in_t1 203 rfl rfl, rfl, by decide +kernel, rfl⟩
theorem cl_RX11_52 : Cond.classLink RX11 52 RX10 ∈ gw := gw_in in_t1 217 rfl rfl
theorem ml_RX11_60 : Cond.methodLink RX11 60 yJ0_length_8abf5 ∈ gw := gw_in in_t1 220 rfl rfl
theorem ml_RJ0_335 : Cond.methodLink RJ0 335 yJ0_coder_7d493 ∈ gw := gw_in in_t1 224 rfl rfl
theorem cl_RX11_73 : Cond.classLink RX11 73 RX9 ∈ gw := gw_in in_t1 230 rfl rfl
theorem ins_RX9 : Cond.instantiable RX9 6 ∈ gw := gw_in in_t1 231 rfl rfl
theorem ml_RX9_1 : Cond.methodLink RX9 1 ⟨"java/lang/Object", "<init>", "()V"⟩ ∈ gw := gw_in in_t1 235 rfl rfl
theorem fl_RX9_27 : FL RX9 27 9 0 .int false := ⟨_, rfl, by decide, gw_in in_t1 236 rfl rfl, rfl, by decide +kernel, rfl⟩
theorem fl_RX11_295 : FL RX11 295 9 0 .int false := ⟨_, rfl, by decide, gw_in in_t1 237 rfl rfl, rfl, by decide +kernel, rfl⟩
theorem fl_RX9_36 : FL RX9 36 9 1 .int false := ⟨_, rfl, by decide, gw_in in_t1 238 rfl rfl, rfl, by decide +kernel, rfl⟩
theorem fl_RX11_460 : FL RX11 460 9 1 .int false := ⟨_, rfl, by decide, gw_in in_t1 239 rfl rfl, rfl, by decide +kernel, rfl⟩
theorem fl_RX9_7 : FL RX9 7 9 2 (.array .int) true := ⟨_, rfl, by decide, gw_in in_t2 0 rfl rfl, rfl, by decide +kernel, rfl⟩
theorem fl_RX11_320 : FL RX11 320 9 2 (.array .int) true := ⟨_, rfl, by decide, gw_in in_t2 1 rfl rfl, rfl, by decide +kernel, rfl⟩
theorem fl_RX9_13 : FL RX9 13 9 3 (.array .int) true := ⟨_, rfl, by decide, gw_in in_t2 2 rfl rfl, rfl, by decide +kernel, rfl⟩
theorem fl_RX9_16 : FL RX9 16 9 4 (.array .int) true := ⟨_, rfl, by decide, gw_in in_t2 3 rfl rfl, rfl, by decide +kernel, rfl⟩
theorem fl_RX9_19 : FL RX9 19 9 5 .int false := ⟨_, rfl, by decide, gw_in in_t2 4 rfl rfl, rfl, by decide +kernel, rfl⟩
theorem fl_RX11_310 : FL RX11 310 9 5 .int false := ⟨_, rfl, by decide, gw_in in_t2 5 rfl rfl, rfl, by decide +kernel, rfl⟩
theorem ac_byte : Cond.arrayClass .byte ∈ gw := gw_in in_t2 19 rfl rfl
theorem cl_RX11_80 : Cond.classLink RX11 80 RX6 ∈ gw := gw_in in_t2 20 rfl rfl
theorem ins_RX6 : Cond.instantiable RX6 15 ∈ gw := gw_in in_t2 21 rfl rfl
theorem ml_RX11_82 : Cond.methodLink RX11 82 yX6_init ∈ gw := gw_in in_t2 22 rfl rfl
theorem ml_RX6_3 : Cond.methodLink RX6 3 ⟨"java/lang/Object", "<init>", "()V"⟩ ∈ gw := gw_in in_t2 25 rfl rfl
theorem ml_RX6_45 : Cond.methodLink RX6 45 yJ7_fill_53178 ∈ gw := gw_in in_t2 26 rfl rfl
theorem fl_RX6_11 : FL RX6 11 6 0 (.array .int) true := ⟨_, rfl, by decide, gw_in in_t2 27 rfl rfl, rfl, by decide +kernel, rfl⟩
theorem fl_RX6_15 : FL RX6 15 6 1 (.array .int) true := ⟨_, rfl, by decide, gw_in in_t2 28 rfl rfl, rfl, by decide +kernel, rfl⟩
theorem fl_RX6_18 : FL RX6 18 6 2 (.array .int) true := ⟨_, rfl, by decide, gw_in in_t2 29 rfl rfl, rfl, by decide +kernel, rfl⟩
theorem fl_RX6_51 : FL RX6 51 6 3 .int false := ⟨_, rfl, by decide, gw_in in_t2 30 rfl rfl, rfl, by decide +kernel, rfl⟩
theorem fl_RX11_326 : FL RX11 326 6 3 .int false := ⟨_, rfl, by decide, gw_in in_t2 31 rfl rfl, rfl, by decide +kernel, rfl⟩
theorem fl_RX6_21 : FL RX6 21 6 4 (.array .int) true := ⟨_, rfl, by decide, gw_in in_t2 32 rfl rfl, rfl, by decide +kernel, rfl⟩
theorem fl_RX6_24 : FL RX6 24 6 5 (.array .int) true := ⟨_, rfl, by decide, gw_in in_t2 33 rfl rfl, rfl, by decide +kernel, rfl⟩
theorem fl_RX6_27 : FL RX6 27 6 6 (.array .int) true := ⟨_, rfl, by decide, gw_in in_t2 34 rfl rfl, rfl, by decide +kernel, rfl⟩
theorem fl_RX11_335 : FL RX11 335 6 6 (.array .int) true := ⟨_, rfl, by decide, gw_in in_t2 35 rfl rfl, rfl, by decide +kernel, rfl⟩
theorem fl_RX6_71 : FL RX6 71 6 7 .int false := ⟨_, rfl, by decide, gw_in in_t2 36 rfl rfl, rfl, by decide +kernel, rfl⟩
theorem fl_RX11_332 : FL RX11 332 6 7 .int false := ⟨_, rfl, by decide, gw_in in_t2 37 rfl rfl, rfl, by decide +kernel, rfl⟩
theorem fl_RX6_30 : FL RX6 30 6 8 (.array .int) true := ⟨_, rfl, by decide, gw_in in_t2 38 rfl rfl, rfl, by decide +kernel, rfl⟩
theorem fl_RX6_74 : FL RX6 74 6 9 .int false := ⟨_, rfl, by decide, gw_in in_t2 39 rfl rfl, rfl, by decide +kernel, rfl⟩
theorem fl_RX11_353 : FL RX11 353 6 9 .int false := ⟨_, rfl, by decide, gw_in in_t2 40 rfl rfl, rfl, by decide +kernel, rfl⟩
theorem fl_RX6_33 : FL RX6 33 6 10 (.array .int) true := ⟨_, rfl, by decide, gw_in in_t2 41 rfl rfl, rfl, by decide +kernel, rfl⟩
theorem fl_RX11_350 : FL RX11 350 6 10 (.array .int) true := ⟨_, rfl, by decide, gw_in in_t2 42 rfl rfl, rfl, by decide +kernel, rfl⟩
theorem fl_RX6_36 : FL RX6 36 6 11 (.array .int) true := ⟨_, rfl, by decide, gw_in in_t2 43 rfl rfl, rfl, by decide +kernel, rfl⟩
theorem fl_RX6_39 : FL RX6 39 6 12 (.array .int) true := ⟨_, rfl, by decide, gw_in in_t2 44 rfl rfl, rfl, by decide +kernel, rfl⟩
theorem fl_RX11_369 : FL RX11 369 6 12 (.array .int) true := ⟨_, rfl, by decide, gw_in in_t2 45 rfl rfl, rfl, by decide +kernel, rfl⟩
theorem fl_RX6_42 : FL RX6 42 6 13 (.array .int) true := ⟨_, rfl, by decide, gw_in in_t2 46 rfl rfl, rfl, by decide +kernel, rfl⟩
theorem fl_RX11_372 : FL RX11 372 6 13 (.array .int) true := ⟨_, rfl, by decide, gw_in in_t2 47 rfl rfl, rfl, by decide +kernel, rfl⟩
theorem fl_RX6_82 : FL RX6 82 6 14 .int false := ⟨_, rfl, by decide, gw_in in_t2 48 rfl rfl, rfl, by decide +kernel, rfl⟩
theorem fl_RX11_366 : FL RX11 366 6 14 .int false := ⟨_, rfl, by decide, gw_in in_t2 49 rfl rfl, rfl, by decide +kernel, rfl⟩
theorem cl_RX11_87 : Cond.classLink RX11 87 RX8 ∈ gw := gw_in in_t2 81 rfl rfl
theorem ins_RX8 : Cond.instantiable RX8 5 ∈ gw := gw_in in_t2 83 rfl rfl
theorem ml_RX8_5 : Cond.methodLink RX8 5 ⟨"java/lang/Object", "<init>", "()V"⟩ ∈ gw := gw_in in_t2 87 rfl rfl
theorem fl_RX8_15 : FL RX8 15 8 0 .int false := ⟨_, rfl, by decide, gw_in in_t2 88 rfl rfl, rfl, by decide +kernel, rfl⟩
theorem fl_RX11_194 : FL RX11 194 8 0 .int false := ⟨_, rfl, by decide, gw_in in_t2 89 rfl rfl, rfl, by decide +kernel, rfl⟩
theorem fl_RX11_411 : FL RX11 411 8 1 .int false := ⟨_, rfl, by decide, gw_in in_t2 90 rfl rfl, rfl, by decide +kernel, rfl⟩
theorem fl_RX8_19 : FL RX8 19 8 2 .int false := ⟨_, rfl, by decide, gw_in in_t2 91 rfl rfl, rfl, by decide +kernel, rfl⟩
theorem fl_RX11_436 : FL RX11 436 8 2 .int false := ⟨_, rfl, by decide, gw_in in_t2 92 rfl rfl, rfl, by decide +kernel, rfl⟩
theorem fl_RX8_22 : FL RX8 22 8 3 .int false := ⟨_, rfl, by decide, gw_in in_t2 93 rfl rfl, rfl, by decide +kernel, rfl⟩
theorem fl_RX8_11 : FL RX8 11 8 4 (.array .long) true := ⟨_, rfl, by decide, gw_in in_t2 94 rfl rfl, rfl, by decide +kernel, rfl⟩
theorem fl_RX3_61 : FL RX3 61 8 4 (.array .long) true := ⟨_, rfl, by decide, gw_in in_t2 95 rfl rfl, rfl, by decide +kernel, rfl⟩
theorem fl_RX11_424 : FL RX11 424 8 4 (.array .long) true := ⟨_, rfl, by decide, gw_in in_t2 96 rfl rfl, rfl, by decide +kernel, rfl⟩
theorem ac_long : Cond.arrayClass .long ∈ gw := gw_in in_t2 108 rfl rfl
theorem fl_RX11_10 : FL RX11 10 11 0 (.object "ThirtyThreeBelow$Mountain") true := ⟨_, rfl, by decide, gw_in in_t2 109 rfl rfl, rfl, by decide +kernel, rfl⟩
theorem fl_RX11_28 : FL RX11 28 11 1 (.object "ThirtyThreeBelow$Bodies") true := ⟨_, rfl, by decide, gw_in in_t2 110 rfl rfl, rfl, by decide +kernel, rfl⟩
theorem fl_RX11_19 : FL RX11 19 11 2 (.object "ThirtyThreeBelow$Crew") true := ⟨_, rfl, by decide, gw_in in_t2 111 rfl rfl, rfl, by decide +kernel, rfl⟩
theorem fl_RX11_34 : FL RX11 34 11 3 (.array (.object "ThirtyThreeBelow$Machine")) true := ⟨_, rfl, by decide, gw_in in_t2 112 rfl rfl, rfl, by decide +kernel, rfl⟩
theorem fl_RX11_41 : FL RX11 41 11 4 (.array (.object "ThirtyThreeBelow$Chart")) true := ⟨_, rfl, by decide, gw_in in_t2 113 rfl rfl, rfl, by decide +kernel, rfl⟩
theorem fl_RX11_220 : FL RX11 220 11 5 .int false := ⟨_, rfl, by decide, gw_in in_t2 114 rfl rfl, rfl, by decide +kernel, rfl⟩
theorem fl_RX11_48 : FL RX11 48 11 6 (.object "ThirtyThreeBelow$Reader") true := ⟨_, rfl, by decide, gw_in in_t2 115 rfl rfl, rfl, by decide +kernel, rfl⟩
theorem fl_RX11_54 : FL RX11 54 11 7 (.array (.object "ThirtyThreeBelow$Text")) true := ⟨_, rfl, by decide, gw_in in_t2 116 rfl rfl, rfl, by decide +kernel, rfl⟩
theorem fl_RX11_267 : FL RX11 267 11 8 .int false := ⟨_, rfl, by decide, gw_in in_t2 117 rfl rfl, rfl, by decide +kernel, rfl⟩
theorem fl_RX11_66 : FL RX11 66 11 9 (.array .int) true := ⟨_, rfl, by decide, gw_in in_t2 118 rfl rfl, rfl, by decide +kernel, rfl⟩
theorem fl_RX11_70 : FL RX11 70 11 10 (.array .int) true := ⟨_, rfl, by decide, gw_in in_t2 119 rfl rfl, rfl, by decide +kernel, rfl⟩
theorem fl_RX11_76 : FL RX11 76 11 11 (.object "ThirtyThreeBelow$Stores") true := ⟨_, rfl, by decide, gw_in in_t2 120 rfl rfl, rfl, by decide +kernel, rfl⟩
theorem fl_RX11_83 : FL RX11 83 11 12 (.object "ThirtyThreeBelow$Plans") true := ⟨_, rfl, by decide, gw_in in_t2 121 rfl rfl, rfl, by decide +kernel, rfl⟩
theorem fl_RX11_89 : FL RX11 89 11 13 (.array (.object "ThirtyThreeBelow$Shelf")) true := ⟨_, rfl, by decide, gw_in in_t2 122 rfl rfl, rfl, by decide +kernel, rfl⟩
theorem fl_RX11_168 : FL RX11 168 11 14 .int false := ⟨_, rfl, by decide, gw_in in_t2 123 rfl rfl, rfl, by decide +kernel, rfl⟩
theorem fl_RX11_94 : FL RX11 94 11 15 .int false := ⟨_, rfl, by decide, gw_in in_t2 124 rfl rfl, rfl, by decide +kernel, rfl⟩
theorem fl_RX11_457 : FL RX11 457 11 16 .int false := ⟨_, rfl, by decide, gw_in in_t2 125 rfl rfl, rfl, by decide +kernel, rfl⟩
theorem fl_RX11_454 : FL RX11 454 11 17 .int false := ⟨_, rfl, by decide, gw_in in_t2 126 rfl rfl, rfl, by decide +kernel, rfl⟩
theorem fl_RX11_98 : FL RX11 98 11 18 .int false := ⟨_, rfl, by decide, gw_in in_t2 127 rfl rfl, rfl, by decide +kernel, rfl⟩
theorem ml_RL_13 : Cond.methodLink RL 13 yX11_hard ∈ gw := gw_in in_t2 167 rfl rfl
theorem ml_RX11_101 : Cond.methodLink RX11 101 yX11_placeOf ∈ gw := gw_in in_t2 171 rfl rfl
theorem ml_RX11_122 : Cond.methodLink RX11 122 yX11_isYard ∈ gw := gw_in in_t2 174 rfl rfl
theorem ml_RL_18 : Cond.methodLink RL 18 yX11_open ∈ gw := gw_in in_t2 177 rfl rfl
theorem ml_RL_22 : Cond.methodLink RL 22 yX11_ofCell ∈ gw := gw_in in_t2 181 rfl rfl
theorem ml_RL_26 : Cond.methodLink RL 26 yX11_body ∈ gw := gw_in in_t2 185 rfl rfl
theorem ml_RX11_111 : Cond.methodLink RX11 111 yX0_added ∈ gw := gw_in in_t2 189 rfl rfl
theorem ml_RL_31 : Cond.methodLink RL 31 yX11_hole ∈ gw := gw_in in_t2 193 rfl rfl
theorem ml_RX11_114 : Cond.methodLink RX11 114 yX0_addedHole ∈ gw := gw_in in_t2 197 rfl rfl
theorem ml_RX0_42 : Cond.methodLink RX0 42 yX0_added ∈ gw := gw_in in_t2 201 rfl rfl
theorem ins_RX3 : Cond.instantiable RX3 11 ∈ gw := gw_in in_t2 202 rfl rfl
theorem ml_RX0_45 : Cond.methodLink RX0 45 yX3_init ∈ gw := gw_in in_t2 203 rfl rfl
theorem ml_RX3_3 : Cond.methodLink RX3 3 ⟨"java/lang/Object", "<init>", "()V"⟩ ∈ gw := gw_in in_t2 206 rfl rfl
theorem ct_RX3_31 : Cond.constant RX3 31 (-2000000000 : Int32) ∈ gw := gw_in in_t2 207 rfl rfl
theorem ml_RX3_32 : Cond.methodLink RX3 32 yJ7_fill_53178 ∈ gw := gw_in in_t2 208 rfl rfl
theorem fl_RX3_21 : FL RX3 21 3 0 .int true := ⟨_, rfl, by decide, gw_in in_t2 209 rfl rfl, rfl, by decide +kernel, rfl⟩
theorem fl_RX11_205 : FL RX11 205 3 0 .int true := ⟨_, rfl, by decide, gw_in in_t2 210 rfl rfl, rfl, by decide +kernel, rfl⟩
theorem fl_RX3_25 : FL RX3 25 3 1 .int true := ⟨_, rfl, by decide, gw_in in_t2 211 rfl rfl, rfl, by decide +kernel, rfl⟩
theorem fl_RX0_94 : FL RX0 94 3 1 .int true := ⟨_, rfl, by decide, gw_in in_t2 212 rfl rfl, rfl, by decide +kernel, rfl⟩
theorem fl_RX3_28 : FL RX3 28 3 2 .int false := ⟨_, rfl, by decide, gw_in in_t2 213 rfl rfl, rfl, by decide +kernel, rfl⟩
theorem fl_RX11_516 : FL RX11 516 3 2 .int false := ⟨_, rfl, by decide, gw_in in_t2 214 rfl rfl, rfl, by decide +kernel, rfl⟩
theorem fl_RX3_48 : FL RX3 48 3 3 .int false := ⟨_, rfl, by decide, gw_in in_t2 215 rfl rfl, rfl, by decide +kernel, rfl⟩
theorem fl_RX11_178 : FL RX11 178 3 3 .int false := ⟨_, rfl, by decide, gw_in in_t2 216 rfl rfl, rfl, by decide +kernel, rfl⟩
theorem fl_RX3_38 : FL RX3 38 3 4 .int false := ⟨_, rfl, by decide, gw_in in_t2 217 rfl rfl, rfl, by decide +kernel, rfl⟩
theorem fl_RX11_184 : FL RX11 184 3 4 .int false := ⟨_, rfl, by decide, gw_in in_t2 218 rfl rfl, rfl, by decide +kernel, rfl⟩
theorem fl_RX3_45 : FL RX3 45 3 5 .int false := ⟨_, rfl, by decide, gw_in in_t2 219 rfl rfl, rfl, by decide +kernel, rfl⟩
theorem fl_RX11_375 : FL RX11 375 3 5 .int false := ⟨_, rfl, by decide, gw_in in_t2 220 rfl rfl, rfl, by decide +kernel, rfl⟩
theorem fl_RX3_41 : FL RX3 41 3 6 .boolean false := ⟨_, rfl, by decide, gw_in in_t2 221 rfl rfl, rfl, by decide +kernel, rfl⟩
theorem fl_RX11_174 : FL RX11 174 3 6 .boolean false := ⟨_, rfl, by decide, gw_in in_t2 222 rfl rfl, rfl, by decide +kernel, rfl⟩
theorem fl_RX11_313 : FL RX11 313 3 7 .int false := ⟨_, rfl, by decide, gw_in in_t2 223 rfl rfl, rfl, by decide +kernel, rfl⟩
theorem fl_RX3_9 : FL RX3 9 3 8 (.array .int) true := ⟨_, rfl, by decide, gw_in in_t2 224 rfl rfl, rfl, by decide +kernel, rfl⟩
theorem fl_RX11_181 : FL RX11 181 3 8 (.array .int) true := ⟨_, rfl, by decide, gw_in in_t2 225 rfl rfl, rfl, by decide +kernel, rfl⟩
theorem fl_RX3_15 : FL RX3 15 3 9 (.array .int) true := ⟨_, rfl, by decide, gw_in in_t2 226 rfl rfl, rfl, by decide +kernel, rfl⟩
theorem fl_RX11_187 : FL RX11 187 3 9 (.array .int) true := ⟨_, rfl, by decide, gw_in in_t2 227 rfl rfl, rfl, by decide +kernel, rfl⟩
theorem fl_RX3_18 : FL RX3 18 3 10 (.array .int) true := ⟨_, rfl, by decide, gw_in in_t2 228 rfl rfl, rfl, by decide +kernel, rfl⟩
theorem ml_RL_35 : Cond.methodLink RL 35 yX11_shelter ∈ gw := gw_in in_t3 12 rfl rfl
theorem ml_RX11_118 : Cond.methodLink RX11 118 yX11_isSpan ∈ gw := gw_in in_t3 16 rfl rfl
theorem ml_RX11_128 : Cond.methodLink RX11 128 yX0_addedRefuge ∈ gw := gw_in in_t3 19 rfl rfl
theorem ml_RL_39 : Cond.methodLink RL 39 yX11_man ∈ gw := gw_in in_t3 23 rfl rfl
theorem ml_RX11_131 : Cond.methodLink RX11 131 yX2_comes ∈ gw := gw_in in_t3 27 rfl rfl
theorem ml_RL_43 : Cond.methodLink RL 43 yX11_ofBody ∈ gw := gw_in in_t3 31 rfl rfl
theorem ml_RX11_135 : Cond.methodLink RX11 135 yX0_kindOf ∈ gw := gw_in in_t3 35 rfl rfl
theorem ct_RX11_138 : Cond.constant RX11 138 (-2000000000 : Int32) ∈ gw := gw_in in_t3 39 rfl rfl
theorem ml_RX11_139 : Cond.methodLink RX11 139 yX0_holeOf ∈ gw := gw_in in_t3 40 rfl rfl
theorem ml_RX11_143 : Cond.methodLink RX11 143 yX3_told ∈ gw := gw_in in_t3 44 rfl rfl
theorem ml_RX11_148 : Cond.methodLink RX11 148 yX0_ofRefuge ∈ gw := gw_in in_t3 48 rfl rfl
theorem ct_RX0_63 : Cond.constant RX0 63 (-2000000000 : Int32) ∈ gw := gw_in in_t3 52 rfl rfl
theorem ml_RX11_151 : Cond.methodLink RX11 151 yX2_ofMan ∈ gw := gw_in in_t3 53 rfl rfl
theorem ct_RX2_40 : Cond.constant RX2 40 (-2000000000 : Int32) ∈ gw := gw_in in_t3 57 rfl rfl
theorem ml_RL_47 : Cond.methodLink RL 47 yX11_ill ∈ gw := gw_in in_t3 58 rfl rfl
theorem ml_RL_51 : Cond.methodLink RL 51 yX11_speed ∈ gw := gw_in in_t3 62 rfl rfl
theorem ml_RX11_158 : Cond.methodLink RX11 158 yX11_machineOf ∈ gw := gw_in in_t3 66 rfl rfl
theorem ml_RL_55 : Cond.methodLink RL 55 yX11_set ∈ gw := gw_in in_t3 70 rfl rfl
theorem ml_RL_59 : Cond.methodLink RL 59 yX11_breaks ∈ gw := gw_in in_t3 74 rfl rfl
theorem ml_RL_63 : Cond.methodLink RL 63 yX11_yard ∈ gw := gw_in in_t3 78 rfl rfl
theorem ml_RL_67 : Cond.methodLink RL 67 yX11_met ∈ gw := gw_in in_t3 82 rfl rfl
theorem ml_RL_71 : Cond.methodLink RL 71 yX11_log ∈ gw := gw_in in_t3 86 rfl rfl
theorem ml_RX11_190 : Cond.methodLink RX11 190 yX11_shelfOf ∈ gw := gw_in in_t3 90 rfl rfl
theorem ml_RX11_197 : Cond.methodLink RX11 197 yX8_isReal ∈ gw := gw_in in_t3 94 rfl rfl
theorem ml_RX11_201 : Cond.methodLink RX11 201 yX3_logged ∈ gw := gw_in in_t3 98 rfl rfl
theorem ml_RX3_51 : Cond.methodLink RX3 51 yX8_refusal ∈ gw := gw_in in_t3 102 rfl rfl
theorem ml_RX3_57 : Cond.methodLink RX3 57 yX3_lostFrom ∈ gw := gw_in in_t3 106 rfl rfl
theorem ml_RX3_70 : Cond.methodLink RX3 70 yJ9_max_7cf53 ∈ gw := gw_in in_t3 110 rfl rfl
theorem ct_RX3_65 : Cond.constantLong RX3 65 (9223372036854775807 : Int64) ∈ gw := gw_in in_t3 113 rfl rfl
theorem ml_RX3_67 : Cond.methodLink RX3 67 yX3_logAhead ∈ gw := gw_in in_t3 114 rfl rfl
theorem ml_RL_76 : Cond.methodLink RL 76 yX11_spread ∈ gw := gw_in in_t3 118 rfl rfl
theorem ml_RL_80 : Cond.methodLink RL 80 yX11_canBe ∈ gw := gw_in in_t3 122 rfl rfl
theorem ml_RX11_208 : Cond.methodLink RX11 208 yX3_leastLean ∈ gw := gw_in in_t3 126 rfl rfl
theorem ml_RX11_211 : Cond.methodLink RX11 211 yX3_mostLean ∈ gw := gw_in in_t3 130 rfl rfl
theorem ml_RX11_214 : Cond.methodLink RX11 214 yX11_cutDown ∈ gw := gw_in in_t3 134 rfl rfl
theorem ml_RX11_463 : Cond.methodLink RX11 463 yJ9_floorDiv_7cf53 ∈ gw := gw_in in_t3 137 rfl rfl
theorem ml_RX11_466 : Cond.methodLink RX11 466 yX11_held ∈ gw := gw_in in_t3 140 rfl rfl
theorem ml_RX11_255 : Cond.methodLink RX11 255 yJ9_min_7cf53 ∈ gw := gw_in in_t3 143 rfl rfl
theorem ml_RX11_247 : Cond.methodLink RX11 247 yJ9_max_7cf53 ∈ gw := gw_in in_t3 146 rfl rfl
theorem ml_RX11_217 : Cond.methodLink RX11 217 yX11_cutUp ∈ gw := gw_in in_t3 147 rfl rfl
theorem ml_RL_85 : Cond.methodLink RL 85 yX11_map ∈ gw := gw_in in_t3 150 rfl rfl
theorem ins_RX1 : Cond.instantiable RX1 5 ∈ gw := gw_in in_t3 154 rfl rfl
theorem ml_RX11_223 : Cond.methodLink RX11 223 yX1_init ∈ gw := gw_in in_t3 155 rfl rfl
theorem ml_RX1_3 : Cond.methodLink RX1 3 ⟨"java/lang/Object", "<init>", "()V"⟩ ∈ gw := gw_in in_t3 158 rfl rfl
theorem fl_RX1_15 : FL RX1 15 1 0 .int true := ⟨_, rfl, by decide, gw_in in_t3 159 rfl rfl, rfl, by decide +kernel, rfl⟩
theorem fl_RX11_244 : FL RX11 244 1 0 .int true := ⟨_, rfl, by decide, gw_in in_t3 160 rfl rfl, rfl, by decide +kernel, rfl⟩
theorem fl_RX1_19 : FL RX1 19 1 1 .int true := ⟨_, rfl, by decide, gw_in in_t3 161 rfl rfl, rfl, by decide +kernel, rfl⟩
theorem fl_RX11_252 : FL RX11 252 1 1 .int true := ⟨_, rfl, by decide, gw_in in_t3 162 rfl rfl, rfl, by decide +kernel, rfl⟩
theorem fl_RX1_22 : FL RX1 22 1 2 .int true := ⟨_, rfl, by decide, gw_in in_t3 163 rfl rfl, rfl, by decide +kernel, rfl⟩
theorem fl_RX11_241 : FL RX11 241 1 2 .int true := ⟨_, rfl, by decide, gw_in in_t3 164 rfl rfl, rfl, by decide +kernel, rfl⟩
theorem fl_RX1_9 : FL RX1 9 1 3 (.array .int) true := ⟨_, rfl, by decide, gw_in in_t3 165 rfl rfl, rfl, by decide +kernel, rfl⟩
theorem fl_RX1_33 : FL RX1 33 1 4 .int false := ⟨_, rfl, by decide, gw_in in_t3 166 rfl rfl, rfl, by decide +kernel, rfl⟩
theorem ml_RL_89 : Cond.methodLink RL 89 yX11_old ∈ gw := gw_in in_t3 178 rfl rfl
theorem ml_RX11_226 : Cond.methodLink RX11 226 yX11_chartOf ∈ gw := gw_in in_t3 182 rfl rfl
theorem ml_RX11_230 : Cond.methodLink RX11 230 yX1_lists ∈ gw := gw_in in_t3 186 rfl rfl
theorem ml_RX1_29 : Cond.methodLink RX1 29 yX1_bits ∈ gw := gw_in in_t3 191 rfl rfl
theorem ml_RX11_234 : Cond.methodLink RX11 234 yX1_listed ∈ gw := gw_in in_t3 194 rfl rfl
theorem ml_RL_93 : Cond.methodLink RL 93 yX11_wrong ∈ gw := gw_in in_t3 198 rfl rfl
theorem ml_RX11_237 : Cond.methodLink RX11 237 yX11_firstUnlike ∈ gw := gw_in in_t3 202 rfl rfl
theorem ml_RX11_469 : Cond.methodLink RX11 469 yX11_firstUnlikeYard ∈ gw := gw_in in_t3 206 rfl rfl
theorem ml_RX11_473 : Cond.methodLink RX11 473 yX1_isUnlike ∈ gw := gw_in in_t3 210 rfl rfl
theorem ml_RL_97 : Cond.methodLink RL 97 yX11_known ∈ gw := gw_in in_t3 214 rfl rfl
theorem ml_RX11_258 : Cond.methodLink RX11 258 yX1_edge ∈ gw := gw_in in_t3 218 rfl rfl
theorem ml_RL_101 : Cond.methodLink RL 101 yX11_feed ∈ gw := gw_in in_t3 222 rfl rfl
theorem ml_RX11_261 : Cond.methodLink RX11 261 yX7_fed ∈ gw := gw_in in_t3 226 rfl rfl
theorem ml_RL_105 : Cond.methodLink RL 105 yX11_text ∈ gw := gw_in in_t3 230 rfl rfl
theorem ml_RX11_264 : Cond.methodLink RX11 264 yX11_isOrder ∈ gw := gw_in in_t3 234 rfl rfl
theorem ml_RX11_270 : Cond.methodLink RX11 270 yX7_compiled ∈ gw := gw_in in_t3 237 rfl rfl
theorem ml_RX7_37 : Cond.methodLink RX7 37 yX7_line ∈ gw := gw_in in_t4 1 rfl rfl
theorem ml_RX7_44 : Cond.methodLink RX7 44 yX7_either ∈ gw := gw_in in_t4 5 rfl rfl
theorem ml_RX7_53 : Cond.methodLink RX7 53 yX7_both ∈ gw := gw_in in_t4 9 rfl rfl
theorem ml_RX7_56 : Cond.methodLink RX7 56 yX7_compared ∈ gw := gw_in in_t4 13 rfl rfl
theorem ml_RX7_59 : Cond.methodLink RX7 59 yX7_sum ∈ gw := gw_in in_t4 17 rfl rfl
theorem ml_RX7_62 : Cond.methodLink RX7 62 yX7_product ∈ gw := gw_in in_t4 21 rfl rfl
theorem ml_RX7_69 : Cond.methodLink RX7 69 yX7_single ∈ gw := gw_in in_t4 25 rfl rfl
theorem ml_RX7_75 : Cond.methodLink RX7 75 yX7_isDigit ∈ gw := gw_in in_t4 29 rfl rfl
theorem ml_RX7_79 : Cond.methodLink RX7 79 yX7_number ∈ gw := gw_in in_t4 33 rfl rfl
theorem ml_RX7_50 : Cond.methodLink RX7 50 yX7_emit ∈ gw := gw_in in_t4 37 rfl rfl
theorem ml_RX7_40 : Cond.methodLink RX7 40 yX7_takes ∈ gw := gw_in in_t4 41 rfl rfl
theorem ml_RX7_82 : Cond.methodLink RX7 82 yX7_fails ∈ gw := gw_in in_t4 45 rfl rfl
theorem ml_RX7_85 : Cond.methodLink RX7 85 yX7_name ∈ gw := gw_in in_t4 49 rfl rfl
theorem ml_RX7_90 : Cond.methodLink RX7 90 yJ0_indexOf_0f7a4 ∈ gw := gw_in in_t4 54 rfl rfl
theorem ml_RJ0_633 : Cond.methodLink RJ0 633 yJ0_indexOf_7cf53 ∈ gw := gw_in in_t4 58 rfl rfl
theorem ml_RJ0_492 : Cond.methodLink RJ0 492 yJ0_isLatin1_aae02 ∈ gw := gw_in in_t4 62 rfl rfl
theorem ml_RJ0_505 : Cond.methodLink RJ0 505 yJ0_length_8abf5 ∈ gw := gw_in in_t4 66 rfl rfl
theorem ml_RJ0_637 : Cond.methodLink RJ0 637 yJ1_indexOf_4cfef ∈ gw := gw_in in_t4 67 rfl rfl
theorem ml_RJ1_88 : Cond.methodLink RJ1 88 yJ1_canEncode_9a6ad ∈ gw := gw_in in_t4 70 rfl rfl
theorem ml_RJ1_92 : Cond.methodLink RJ1 92 yJ9_max_7cf53 ∈ gw := gw_in in_t4 73 rfl rfl
theorem ml_RJ1_38 : Cond.methodLink RJ1 38 yJ9_min_7cf53 ∈ gw := gw_in in_t4 74 rfl rfl
theorem ml_RJ1_95 : Cond.methodLink RJ1 95 yJ1_indexOfChar_4cfef ∈ gw := gw_in in_t4 75 rfl rfl
theorem ml_RJ0_640 : Cond.methodLink RJ0 640 yJ2_indexOf_4cfef ∈ gw := gw_in in_t4 78 rfl rfl
theorem ml_RJ2_224 : Cond.methodLink RJ2 224 yJ9_max_7cf53 ∈ gw := gw_in in_t4 81 rfl rfl
theorem ml_RJ2_183 : Cond.methodLink RJ2 183 yJ9_min_7cf53 ∈ gw := gw_in in_t4 82 rfl rfl
theorem ct_RJ2_227 : Cond.constant RJ2 227 (65536 : Int32) ∈ gw := gw_in in_t4 83 rfl rfl
theorem ml_RJ2_228 : Cond.methodLink RJ2 228 yJ2_indexOfChar_4cfef ∈ gw := gw_in in_t4 84 rfl rfl
theorem ml_RJ2_96 : Cond.methodLink RJ2 96 yJ2_checkBoundsBeginEnd_d044e ∈ gw := gw_in in_t4 87 rfl rfl
theorem ml_RJ2_48 : Cond.methodLink RJ2 48 yJ2_length_9d52b ∈ gw := gw_in in_t4 90 rfl rfl
theorem ml_RJ2_241 : Cond.methodLink RJ2 241 yJ0_checkBoundsBeginEnd_23922 ∈ gw := gw_in in_t4 93 rfl rfl
theorem ml_RJ0_1062 : Cond.methodLink RJ0 1062 yJ3_checkFromToIndex_8c36e ∈ gw := gw_in in_t4 98 rfl rfl
theorem ml_RJ2_244 : Cond.methodLink RJ2 244 yJ2_indexOfCharUnsafe_4cfef ∈ gw := gw_in in_t4 101 rfl rfl
theorem ml_RJ2_71 : Cond.methodLink RJ2 71 yJ2_getChar_3b067 ∈ gw := gw_in in_t4 104 rfl rfl
theorem ml_RJ2_232 : Cond.methodLink RJ2 232 yJ2_indexOfSupplementary_4cfef ∈ gw := gw_in in_t4 113 rfl rfl
theorem ml_RJ2_164 : Cond.methodLink RJ2 164 yJ11_isValidCodePoint_9a6ad ∈ gw := gw_in in_t4 116 rfl rfl
theorem ml_RJ2_157 : Cond.methodLink RJ2 157 yJ11_highSurrogate_5068e ∈ gw := gw_in in_t4 119 rfl rfl
theorem ct_RJ11_110 : Cond.constant RJ11 110 (55232 : Int32) ∈ gw := gw_in in_t4 122 rfl rfl
theorem ml_RJ2_161 : Cond.methodLink RJ2 161 yJ11_lowSurrogate_5068e ∈ gw := gw_in in_t4 123 rfl rfl
theorem ct_RJ11_76 : Cond.constant RJ11 76 (56320 : Int32) ∈ gw := gw_in in_t4 126 rfl rfl
theorem ml_RX7_72 : Cond.methodLink RX7 72 yX7_timesOrOver ∈ gw := gw_in in_t4 127 rfl rfl
theorem ml_RX7_65 : Cond.methodLink RX7 65 yX7_plusOrMinus ∈ gw := gw_in in_t4 131 rfl rfl
theorem ins_RX10 : Cond.instantiable RX10 5 ∈ gw := gw_in in_t4 135 rfl rfl
theorem ml_RX11_275 : Cond.methodLink RX11 275 yX7_code ∈ gw := gw_in in_t4 136 rfl rfl
theorem ml_RX7_25 : Cond.methodLink RX7 25 yJ7_copyOf_59c91 ∈ gw := gw_in in_t4 140 rfl rfl
theorem ml_RJ7_316 : Cond.methodLink RJ7 316 ⟨"[I", "clone", "()Ljava/lang/Object;"⟩ ∈ gw := gw_in in_t4 143 rfl rfl
theorem cl_RJ7_317 : Cond.classLink RJ7 317 "[I" ∈ gw := gw_in in_t4 149 rfl rfl
theorem ml_RJ7_304 : Cond.methodLink RJ7 304 yJ9_min_7cf53 ∈ gw := gw_in in_t4 150 rfl rfl
theorem ml_RJ7_150 : Cond.methodLink RJ7 150 ⟨"java/lang/System", "arraycopy", "(Ljava/lang/Object;ILjava/lang/Object;II)V"⟩ ∈ gw := gw_in in_t4 151 rfl rfl
theorem ml_RX11_279 : Cond.methodLink RX11 279 yX10_init ∈ gw := gw_in in_t4 154 rfl rfl
theorem ml_RX10_1 : Cond.methodLink RX10 1 ⟨"java/lang/Object", "<init>", "()V"⟩ ∈ gw := gw_in in_t4 157 rfl rfl
theorem fl_RX10_7 : FL RX10 7 10 0 .int true := ⟨_, rfl, by decide, gw_in in_t4 158 rfl rfl, rfl, by decide +kernel, rfl⟩
theorem fl_RX11_486 : FL RX11 486 10 0 .int true := ⟨_, rfl, by decide, gw_in in_t4 159 rfl rfl, rfl, by decide +kernel, rfl⟩
theorem fl_RX10_13 : FL RX10 13 10 1 .int true := ⟨_, rfl, by decide, gw_in in_t4 160 rfl rfl, rfl, by decide +kernel, rfl⟩
theorem fl_RX11_477 : FL RX11 477 10 1 .int true := ⟨_, rfl, by decide, gw_in in_t4 161 rfl rfl, rfl, by decide +kernel, rfl⟩
theorem fl_RX10_16 : FL RX10 16 10 2 .int true := ⟨_, rfl, by decide, gw_in in_t4 162 rfl rfl, rfl, by decide +kernel, rfl⟩
theorem fl_RX11_480 : FL RX11 480 10 2 .int true := ⟨_, rfl, by decide, gw_in in_t4 163 rfl rfl, rfl, by decide +kernel, rfl⟩
theorem fl_RX10_19 : FL RX10 19 10 3 .int true := ⟨_, rfl, by decide, gw_in in_t4 164 rfl rfl, rfl, by decide +kernel, rfl⟩
theorem fl_RX11_483 : FL RX11 483 10 3 .int true := ⟨_, rfl, by decide, gw_in in_t4 165 rfl rfl, rfl, by decide +kernel, rfl⟩
theorem fl_RX10_22 : FL RX10 22 10 4 (.array .int) true := ⟨_, rfl, by decide, gw_in in_t4 166 rfl rfl, rfl, by decide +kernel, rfl⟩
theorem ml_RL_109 : Cond.methodLink RL 109 yX11_inForce ∈ gw := gw_in in_t4 178 rfl rfl
theorem ml_RX11_282 : Cond.methodLink RX11 282 yX11_isHour ∈ gw := gw_in in_t4 182 rfl rfl
theorem ml_RX11_285 : Cond.methodLink RX11 285 yX11_latestText ∈ gw := gw_in in_t4 185 rfl rfl
theorem ml_RL_113 : Cond.methodLink RL 113 yX11_says ∈ gw := gw_in in_t4 189 rfl rfl
theorem ml_RX11_289 : Cond.methodLink RX11 289 yX11_given ∈ gw := gw_in in_t4 193 rfl rfl
theorem ml_RX11_495 : Cond.methodLink RX11 495 yX10_worth ∈ gw := gw_in in_t4 197 rfl rfl
theorem ml_RX10_26 : Cond.methodLink RX10 26 yJ9_min_7cf53 ∈ gw := gw_in in_t4 201 rfl rfl
theorem ml_RX10_32 : Cond.methodLink RX10 32 yX10_nameAt ∈ gw := gw_in in_t4 202 rfl rfl
theorem ml_RX10_36 : Cond.methodLink RX10 36 yX10_joined ∈ gw := gw_in in_t4 205 rfl rfl
theorem ml_RL_117 : Cond.methodLink RL 117 yX11_hours ∈ gw := gw_in in_t4 208 rfl rfl
theorem ml_RX11_292 : Cond.methodLink RX11 292 yX11_hourGoesBy ∈ gw := gw_in in_t4 212 rfl rfl
theorem ml_RX11_499 : Cond.methodLink RX11 499 yX11_machinesWork ∈ gw := gw_in in_t4 216 rfl rfl
theorem ml_RX11_512 : Cond.methodLink RX11 512 yX11_boreOn ∈ gw := gw_in in_t4 220 rfl rfl
theorem ml_RX11_519 : Cond.methodLink RX11 519 yX0_isRefuge ∈ gw := gw_in in_t4 224 rfl rfl
theorem ml_RX11_502 : Cond.methodLink RX11 502 yX9_arrivals ∈ gw := gw_in in_t4 228 rfl rfl
theorem ml_RX9_23 : Cond.methodLink RX9 23 yX9_comesBelow ∈ gw := gw_in in_t4 232 rfl rfl
theorem ml_RX11_506 : Cond.methodLink RX11 506 yX11_menEat ∈ gw := gw_in in_t4 236 rfl rfl
theorem ml_RX11_522 : Cond.methodLink RX11 522 yX9_eats ∈ gw := gw_in in_t5 0 rfl rfl
theorem ml_RX9_30 : Cond.methodLink RX9 30 yJ9_min_7cf53 ∈ gw := gw_in in_t5 4 rfl rfl
theorem ml_RX11_525 : Cond.methodLink RX11 525 yX2_afterDay ∈ gw := gw_in in_t5 5 rfl rfl
theorem ml_RX11_509 : Cond.methodLink RX11 509 yX11_rockMoves ∈ gw := gw_in in_t5 9 rfl rfl
theorem ml_RL_121 : Cond.methodLink RL 121 yX11_spoons ∈ gw := gw_in in_t5 13 rfl rfl
theorem ml_RL_125 : Cond.methodLink RL 125 yX11_move ∈ gw := gw_in in_t5 17 rfl rfl
theorem ml_RX11_298 : Cond.methodLink RX11 298 yX5_moveTold ∈ gw := gw_in in_t5 21 rfl rfl
theorem ml_RL_129 : Cond.methodLink RL 129 yX11_last ∈ gw := gw_in in_t5 25 rfl rfl
theorem ml_RX11_304 : Cond.methodLink RX11 304 yX2_daysKept ∈ gw := gw_in in_t5 29 rfl rfl
theorem ml_RX2_45 : Cond.methodLink RX2 45 yJ9_min_7cf53 ∈ gw := gw_in in_t5 33 rfl rfl
theorem ml_RX2_51 : Cond.methodLink RX2 51 yX2_afterDay ∈ gw := gw_in in_t5 34 rfl rfl
theorem ml_RL_133 : Cond.methodLink RL 133 yX11_best ∈ gw := gw_in in_t5 35 rfl rfl
theorem ml_RL_137 : Cond.methodLink RL 137 yX11_down ∈ gw := gw_in in_t5 39 rfl rfl
theorem ml_RX11_307 : Cond.methodLink RX11 307 yX11_isThing ∈ gw := gw_in in_t5 43 rfl rfl
theorem ml_RX11_316 : Cond.methodLink RX11 316 yX9_sends ∈ gw := gw_in in_t5 46 rfl rfl
theorem ml_RL_141 : Cond.methodLink RL 141 yX11_below ∈ gw := gw_in in_t5 50 rfl rfl
theorem ml_RL_145 : Cond.methodLink RL 145 yX11_need ∈ gw := gw_in in_t5 54 rfl rfl
theorem ml_RX11_323 : Cond.methodLink RX11 323 yX6_needTold ∈ gw := gw_in in_t5 58 rfl rfl
theorem ml_RL_149 : Cond.methodLink RL 149 yX11_order ∈ gw := gw_in in_t5 62 rfl rfl
theorem ml_RX11_329 : Cond.methodLink RX11 329 yX6_leastLateness ∈ gw := gw_in in_t5 66 rfl rfl
theorem ct_RX6_55 : Cond.constant RX6 55 (1000000000 : Int32) ∈ gw := gw_in in_t5 70 rfl rfl
theorem ml_RX6_56 : Cond.methodLink RX6 56 yX6_sumWith ∈ gw := gw_in in_t5 71 rfl rfl
theorem ml_RX6_68 : Cond.methodLink RX6 68 yJ9_max_7cf53 ∈ gw := gw_in in_t5 75 rfl rfl
theorem ml_RX6_60 : Cond.methodLink RX6 60 yJ9_min_7cf53 ∈ gw := gw_in in_t5 76 rfl rfl
theorem ml_RX6_65 : Cond.methodLink RX6 65 yX6_placesFollow ∈ gw := gw_in in_t5 77 rfl rfl
theorem ml_RL_154 : Cond.methodLink RL 154 yX11_ordered ∈ gw := gw_in in_t5 81 rfl rfl
theorem ml_RL_158 : Cond.methodLink RL 158 yX11_watch ∈ gw := gw_in in_t5 85 rfl rfl
theorem ml_RX11_338 : Cond.methodLink RX11 338 yX2_watchesMade ∈ gw := gw_in in_t5 89 rfl rfl
theorem ml_RX2_57 : Cond.methodLink RX2 57 yJ7_fill_53178 ∈ gw := gw_in in_t5 93 rfl rfl
theorem ml_RL_162 : Cond.methodLink RL 162 yX11_watched ∈ gw := gw_in in_t5 94 rfl rfl
theorem ml_RL_166 : Cond.methodLink RL 166 yX11_aim ∈ gw := gw_in in_t5 98 rfl rfl
theorem ml_RX11_347 : Cond.methodLink RX11 347 yX6_aimTold ∈ gw := gw_in in_t5 102 rfl rfl
theorem ml_RL_170 : Cond.methodLink RL 170 yX11_rock ∈ gw := gw_in in_t5 106 rfl rfl
theorem ml_RL_174 : Cond.methodLink RL 174 yX11_aimed ∈ gw := gw_in in_t5 110 rfl rfl
theorem ml_RX11_356 : Cond.methodLink RX11 356 yX6_weighPlaces ∈ gw := gw_in in_t5 114 rfl rfl
theorem ml_RX11_359 : Cond.methodLink RX11 359 yX6_soonestOne ∈ gw := gw_in in_t5 118 rfl rfl
theorem ml_RX11_363 : Cond.methodLink RX11 363 yX6_soonestTwo ∈ gw := gw_in in_t5 122 rfl rfl
theorem ml_RX6_85 : Cond.methodLink RX6 85 yX6_soonestPair ∈ gw := gw_in in_t5 126 rfl rfl
theorem ml_RL_178 : Cond.methodLink RL 178 yX11_aimedAt ∈ gw := gw_in in_t5 130 rfl rfl
theorem ml_RL_182 : Cond.methodLink RL 182 yX11_race ∈ gw := gw_in in_t5 134 rfl rfl
theorem ml_RL_186 : Cond.methodLink RL 186 yX11_capsule ∈ gw := gw_in in_t5 138 rfl rfl
theorem ml_RX11_378 : Cond.methodLink RX11 378 yX2_liftBegins ∈ gw := gw_in in_t5 142 rfl rfl
theorem ml_RX11_387 : Cond.methodLink RX11 387 yX2_liftTakes ∈ gw := gw_in in_t5 146 rfl rfl
theorem ml_RX11_393 : Cond.methodLink RX11 393 yX2_upAt ∈ gw := gw_in in_t5 150 rfl rfl
theorem ml_RL_190 : Cond.methodLink RL 190 yX11_up ∈ gw := gw_in in_t5 154 rfl rfl
theorem ml_RL_194 : Cond.methodLink RL 194 yX11_raise ∈ gw := gw_in in_t5 158 rfl rfl
theorem ml_RX11_399 : Cond.methodLink RX11 399 yX2_raisedWithin ∈ gw := gw_in in_t5 162 rfl rfl
theorem ml_RL_198 : Cond.methodLink RL 198 yX11_act ∈ gw := gw_in in_t5 166 rfl rfl
theorem ml_RX11_402 : Cond.methodLink RX11 402 yX0_acted ∈ gw := gw_in in_t5 170 rfl rfl
theorem ml_RX0_35 : Cond.methodLink RX0 35 yX0_kindOf ∈ gw := gw_in in_t5 174 rfl rfl
theorem ml_RX0_67 : Cond.methodLink RX0 67 yX0_boresFrom ∈ gw := gw_in in_t5 175 rfl rfl
theorem ml_RX0_80 : Cond.methodLink RX0 80 yX0_runs ∈ gw := gw_in in_t5 179 rfl rfl
theorem ml_RX0_71 : Cond.methodLink RX0 71 yX0_carriesFrom ∈ gw := gw_in in_t5 183 rfl rfl
theorem ml_RX0_84 : Cond.methodLink RX0 84 yX0_widthOf ∈ gw := gw_in in_t5 187 rfl rfl
theorem ml_RX0_90 : Cond.methodLink RX0 90 yX0_holeOf ∈ gw := gw_in in_t5 191 rfl rfl
theorem ml_RX0_87 : Cond.methodLink RX0 87 yX0_strengthOf ∈ gw := gw_in in_t5 192 rfl rfl
theorem ml_RX0_74 : Cond.methodLink RX0 74 yX0_holdsFrom ∈ gw := gw_in in_t5 196 rfl rfl
theorem ml_RX0_77 : Cond.methodLink RX0 77 yX0_tellsFrom ∈ gw := gw_in in_t5 200 rfl rfl
theorem ml_RL_202 : Cond.methodLink RL 202 yX11_trace ∈ gw := gw_in in_t5 204 rfl rfl
theorem ml_RL_206 : Cond.methodLink RL 206 yX11_keep ∈ gw := gw_in in_t5 208 rfl rfl
theorem ml_RL_210 : Cond.methodLink RL 210 yX11_row ∈ gw := gw_in in_t5 212 rfl rfl
theorem ml_RX11_414 : Cond.methodLink RX11 414 yX8_becomesRow ∈ gw := gw_in in_t5 216 rfl rfl
theorem ml_RX8_25 : Cond.methodLink RX8 25 yJ7_fill_d0a16 ∈ gw := gw_in in_t5 220 rfl rfl
theorem ml_RL_216 : Cond.methodLink RL 216 yX11_put ∈ gw := gw_in in_t5 223 rfl rfl
theorem ct_RX11_417 : Cond.constantLong RX11 417 (-9999 : Int64) ∈ gw := gw_in in_t5 227 rfl rfl
theorem ct_RX11_419 : Cond.constantLong RX11 419 (9999 : Int64) ∈ gw := gw_in in_t5 228 rfl rfl
theorem ml_RX11_421 : Cond.methodLink RX11 421 yX8_refusal ∈ gw := gw_in in_t5 229 rfl rfl
theorem ml_RX11_428 : Cond.methodLink RX11 428 yX8_narrowed ∈ gw := gw_in in_t5 230 rfl rfl
theorem ml_RL_221 : Cond.methodLink RL 221 yX11_blank ∈ gw := gw_in in_t5 234 rfl rfl
theorem ct_RX11_432 : Cond.constantLong RX11 432 (9223372036854775807 : Int64) ∈ gw := gw_in in_t5 238 rfl rfl
theorem ml_RL_225 : Cond.methodLink RL 225 yX11_element ∈ gw := gw_in in_t5 239 rfl rfl
theorem ct_RX11_434 : Cond.constantLong RX11 434 (-9223372036854775808 : Int64) ∈ gw := gw_in in_t6 3 rfl rfl
theorem ml_RL_230 : Cond.methodLink RL 230 yX11_shift ∈ gw := gw_in in_t6 4 rfl rfl
theorem ml_RX11_439 : Cond.methodLink RX11 439 yX8_hasPlaces ∈ gw := gw_in in_t6 8 rfl rfl
theorem ml_RX11_442 : Cond.methodLink RX11 442 ⟨"java/lang/System", "arraycopy", "(Ljava/lang/Object;ILjava/lang/Object;II)V"⟩ ∈ gw := gw_in in_t6 12 rfl rfl
theorem ml_RL_234 : Cond.methodLink RL 234 yX11_taken ∈ gw := gw_in in_t6 13 rfl rfl
theorem ml_RX11_448 : Cond.methodLink RX11 448 yX0_isUnder ∈ gw := gw_in in_t6 17 rfl rfl
theorem ml_RL_238 : Cond.methodLink RL 238 yX11_count ∈ gw := gw_in in_t6 23 rfl rfl
theorem cl_RL_10 : Cond.classLink RL 10 RX12 ∈ gw := gw_in in_t6 27 rfl rfl
theorem ins_RX12 : Cond.instantiable RX12 95 ∈ gw := gw_in in_t6 28 rfl rfl
theorem ml_RL_12 : Cond.methodLink RL 12 yX12_init ∈ gw := gw_in in_t6 29 rfl rfl
theorem ml_RX12_1 : Cond.methodLink RX12 1 ⟨"java/lang/Object", "<init>", "()V"⟩ ∈ gw := gw_in in_t6 32 rfl rfl
theorem fl_RX12_281 : FL RX12 281 12 1 .int false := ⟨_, rfl, by decide, gw_in in_t6 33 rfl rfl, rfl, by decide +kernel, rfl⟩
theorem fl_RX12_7 : FL RX12 7 12 2 (.array .int) true := ⟨_, rfl, by decide, gw_in in_t6 34 rfl rfl, rfl, by decide +kernel, rfl⟩
theorem fl_RX12_13 : FL RX12 13 12 3 (.array .boolean) true := ⟨_, rfl, by decide, gw_in in_t6 35 rfl rfl, rfl, by decide +kernel, rfl⟩
theorem fl_RX12_242 : FL RX12 242 12 4 .int false := ⟨_, rfl, by decide, gw_in in_t6 36 rfl rfl, rfl, by decide +kernel, rfl⟩
theorem fl_RX12_17 : FL RX12 17 12 5 (.array .int) true := ⟨_, rfl, by decide, gw_in in_t6 37 rfl rfl, rfl, by decide +kernel, rfl⟩
theorem fl_RX12_20 : FL RX12 20 12 6 (.array .int) true := ⟨_, rfl, by decide, gw_in in_t6 38 rfl rfl, rfl, by decide +kernel, rfl⟩
theorem fl_RX12_23 : FL RX12 23 12 7 (.array .int) true := ⟨_, rfl, by decide, gw_in in_t6 39 rfl rfl, rfl, by decide +kernel, rfl⟩
theorem fl_RX12_26 : FL RX12 26 12 8 (.array .int) true := ⟨_, rfl, by decide, gw_in in_t6 40 rfl rfl, rfl, by decide +kernel, rfl⟩
theorem fl_RX12_29 : FL RX12 29 12 9 (.array .int) true := ⟨_, rfl, by decide, gw_in in_t6 41 rfl rfl, rfl, by decide +kernel, rfl⟩
theorem fl_RX12_32 : FL RX12 32 12 10 (.array .int) true := ⟨_, rfl, by decide, gw_in in_t6 42 rfl rfl, rfl, by decide +kernel, rfl⟩
theorem fl_RX12_35 : FL RX12 35 12 11 (.array .int) true := ⟨_, rfl, by decide, gw_in in_t6 43 rfl rfl, rfl, by decide +kernel, rfl⟩
theorem fl_RX12_38 : FL RX12 38 12 12 (.array .int) true := ⟨_, rfl, by decide, gw_in in_t6 44 rfl rfl, rfl, by decide +kernel, rfl⟩
theorem fl_RX12_41 : FL RX12 41 12 13 (.array .int) true := ⟨_, rfl, by decide, gw_in in_t6 45 rfl rfl, rfl, by decide +kernel, rfl⟩
theorem fl_RX12_44 : FL RX12 44 12 14 (.array .int) true := ⟨_, rfl, by decide, gw_in in_t6 46 rfl rfl, rfl, by decide +kernel, rfl⟩
theorem fl_RX12_47 : FL RX12 47 12 15 (.array .boolean) true := ⟨_, rfl, by decide, gw_in in_t6 47 rfl rfl, rfl, by decide +kernel, rfl⟩
theorem fl_RX12_50 : FL RX12 50 12 16 (.array .int) true := ⟨_, rfl, by decide, gw_in in_t6 48 rfl rfl, rfl, by decide +kernel, rfl⟩
theorem fl_RX12_53 : FL RX12 53 12 17 (.array .int) true := ⟨_, rfl, by decide, gw_in in_t6 49 rfl rfl, rfl, by decide +kernel, rfl⟩
theorem fl_RX12_56 : FL RX12 56 12 18 (.array .int) true := ⟨_, rfl, by decide, gw_in in_t6 50 rfl rfl, rfl, by decide +kernel, rfl⟩
theorem fl_RX12_59 : FL RX12 59 12 19 (.array .int) true := ⟨_, rfl, by decide, gw_in in_t6 51 rfl rfl, rfl, by decide +kernel, rfl⟩
theorem fl_RX12_62 : FL RX12 62 12 20 (.array .boolean) true := ⟨_, rfl, by decide, gw_in in_t6 52 rfl rfl, rfl, by decide +kernel, rfl⟩
theorem fl_RX12_65 : FL RX12 65 12 21 .int false := ⟨_, rfl, by decide, gw_in in_t6 53 rfl rfl, rfl, by decide +kernel, rfl⟩
theorem fl_RX12_258 : FL RX12 258 12 22 .int false := ⟨_, rfl, by decide, gw_in in_t6 54 rfl rfl, rfl, by decide +kernel, rfl⟩
theorem fl_RX12_261 : FL RX12 261 12 23 .int false := ⟨_, rfl, by decide, gw_in in_t6 55 rfl rfl, rfl, by decide +kernel, rfl⟩
theorem fl_RX12_264 : FL RX12 264 12 24 .int false := ⟨_, rfl, by decide, gw_in in_t6 56 rfl rfl, rfl, by decide +kernel, rfl⟩
theorem fl_RX12_271 : FL RX12 271 12 25 .boolean false := ⟨_, rfl, by decide, gw_in in_t6 57 rfl rfl, rfl, by decide +kernel, rfl⟩
theorem fl_RX12_69 : FL RX12 69 12 26 (.array .int) true := ⟨_, rfl, by decide, gw_in in_t6 58 rfl rfl, rfl, by decide +kernel, rfl⟩
theorem fl_RX12_72 : FL RX12 72 12 27 (.array .int) true := ⟨_, rfl, by decide, gw_in in_t6 59 rfl rfl, rfl, by decide +kernel, rfl⟩
theorem fl_RX12_75 : FL RX12 75 12 28 (.array .int) true := ⟨_, rfl, by decide, gw_in in_t6 60 rfl rfl, rfl, by decide +kernel, rfl⟩
theorem fl_RX12_78 : FL RX12 78 12 29 .int false := ⟨_, rfl, by decide, gw_in in_t6 61 rfl rfl, rfl, by decide +kernel, rfl⟩
theorem fl_RX12_301 : FL RX12 301 12 30 .int false := ⟨_, rfl, by decide, gw_in in_t6 62 rfl rfl, rfl, by decide +kernel, rfl⟩
theorem fl_RX12_81 : FL RX12 81 12 31 (.array .int) true := ⟨_, rfl, by decide, gw_in in_t6 63 rfl rfl, rfl, by decide +kernel, rfl⟩
theorem fl_RX12_84 : FL RX12 84 12 32 (.array .int) true := ⟨_, rfl, by decide, gw_in in_t6 64 rfl rfl, rfl, by decide +kernel, rfl⟩
theorem fl_RX12_87 : FL RX12 87 12 33 (.array .int) true := ⟨_, rfl, by decide, gw_in in_t6 65 rfl rfl, rfl, by decide +kernel, rfl⟩
theorem fl_RX12_90 : FL RX12 90 12 34 (.array .int) true := ⟨_, rfl, by decide, gw_in in_t6 66 rfl rfl, rfl, by decide +kernel, rfl⟩
theorem fl_RX12_93 : FL RX12 93 12 35 (.array .int) true := ⟨_, rfl, by decide, gw_in in_t6 67 rfl rfl, rfl, by decide +kernel, rfl⟩
theorem fl_RX12_96 : FL RX12 96 12 36 (.array .byte) true := ⟨_, rfl, by decide, gw_in in_t6 68 rfl rfl, rfl, by decide +kernel, rfl⟩
theorem fl_RX12_316 : FL RX12 316 12 37 .int false := ⟨_, rfl, by decide, gw_in in_t6 69 rfl rfl, rfl, by decide +kernel, rfl⟩
theorem fl_RX12_373 : FL RX12 373 12 38 .int false := ⟨_, rfl, by decide, gw_in in_t6 70 rfl rfl, rfl, by decide +kernel, rfl⟩
theorem fl_RX12_100 : FL RX12 100 12 39 (.array .int) true := ⟨_, rfl, by decide, gw_in in_t6 71 rfl rfl, rfl, by decide +kernel, rfl⟩
theorem fl_RX12_103 : FL RX12 103 12 40 (.array .int) true := ⟨_, rfl, by decide, gw_in in_t6 72 rfl rfl, rfl, by decide +kernel, rfl⟩
theorem fl_RX12_106 : FL RX12 106 12 41 (.array .int) true := ⟨_, rfl, by decide, gw_in in_t6 73 rfl rfl, rfl, by decide +kernel, rfl⟩
theorem fl_RX12_109 : FL RX12 109 12 42 (.array .int) true := ⟨_, rfl, by decide, gw_in in_t6 74 rfl rfl, rfl, by decide +kernel, rfl⟩
theorem fl_RX12_112 : FL RX12 112 12 43 (.array .int) true := ⟨_, rfl, by decide, gw_in in_t6 75 rfl rfl, rfl, by decide +kernel, rfl⟩
theorem fl_RX12_115 : FL RX12 115 12 44 (.array .int) true := ⟨_, rfl, by decide, gw_in in_t6 76 rfl rfl, rfl, by decide +kernel, rfl⟩
theorem fl_RX12_118 : FL RX12 118 12 45 (.array .int) true := ⟨_, rfl, by decide, gw_in in_t6 77 rfl rfl, rfl, by decide +kernel, rfl⟩
theorem fl_RX12_121 : FL RX12 121 12 46 (.array .int) true := ⟨_, rfl, by decide, gw_in in_t6 78 rfl rfl, rfl, by decide +kernel, rfl⟩
theorem fl_RX12_319 : FL RX12 319 12 47 .int false := ⟨_, rfl, by decide, gw_in in_t6 79 rfl rfl, rfl, by decide +kernel, rfl⟩
theorem fl_RX12_322 : FL RX12 322 12 48 .int false := ⟨_, rfl, by decide, gw_in in_t6 80 rfl rfl, rfl, by decide +kernel, rfl⟩
theorem fl_RX12_331 : FL RX12 331 12 49 .int false := ⟨_, rfl, by decide, gw_in in_t6 81 rfl rfl, rfl, by decide +kernel, rfl⟩
theorem fl_RX12_325 : FL RX12 325 12 50 .int false := ⟨_, rfl, by decide, gw_in in_t6 82 rfl rfl, rfl, by decide +kernel, rfl⟩
theorem fl_RX12_328 : FL RX12 328 12 51 .int false := ⟨_, rfl, by decide, gw_in in_t6 83 rfl rfl, rfl, by decide +kernel, rfl⟩
theorem fl_RX12_124 : FL RX12 124 12 52 (.array .int) true := ⟨_, rfl, by decide, gw_in in_t6 84 rfl rfl, rfl, by decide +kernel, rfl⟩
theorem fl_RX12_127 : FL RX12 127 12 53 (.array .int) true := ⟨_, rfl, by decide, gw_in in_t6 85 rfl rfl, rfl, by decide +kernel, rfl⟩
theorem fl_RX12_397 : FL RX12 397 12 54 .int false := ⟨_, rfl, by decide, gw_in in_t6 86 rfl rfl, rfl, by decide +kernel, rfl⟩
theorem fl_RX12_412 : FL RX12 412 12 55 .int false := ⟨_, rfl, by decide, gw_in in_t6 87 rfl rfl, rfl, by decide +kernel, rfl⟩
theorem fl_RX12_406 : FL RX12 406 12 56 .int false := ⟨_, rfl, by decide, gw_in in_t6 88 rfl rfl, rfl, by decide +kernel, rfl⟩
theorem fl_RX12_130 : FL RX12 130 12 57 (.array .int) true := ⟨_, rfl, by decide, gw_in in_t6 89 rfl rfl, rfl, by decide +kernel, rfl⟩
theorem fl_RX12_133 : FL RX12 133 12 58 (.array .int) true := ⟨_, rfl, by decide, gw_in in_t6 90 rfl rfl, rfl, by decide +kernel, rfl⟩
theorem fl_RX12_136 : FL RX12 136 12 59 (.array .boolean) true := ⟨_, rfl, by decide, gw_in in_t6 91 rfl rfl, rfl, by decide +kernel, rfl⟩
theorem fl_RX12_139 : FL RX12 139 12 60 (.array .int) true := ⟨_, rfl, by decide, gw_in in_t6 92 rfl rfl, rfl, by decide +kernel, rfl⟩
theorem fl_RX12_142 : FL RX12 142 12 61 (.array .int) true := ⟨_, rfl, by decide, gw_in in_t6 93 rfl rfl, rfl, by decide +kernel, rfl⟩
theorem fl_RX12_428 : FL RX12 428 12 62 .int false := ⟨_, rfl, by decide, gw_in in_t6 94 rfl rfl, rfl, by decide +kernel, rfl⟩
theorem fl_RX12_145 : FL RX12 145 12 63 (.array .int) true := ⟨_, rfl, by decide, gw_in in_t6 95 rfl rfl, rfl, by decide +kernel, rfl⟩
theorem fl_RX12_148 : FL RX12 148 12 64 (.array .int) true := ⟨_, rfl, by decide, gw_in in_t6 96 rfl rfl, rfl, by decide +kernel, rfl⟩
theorem fl_RX12_151 : FL RX12 151 12 65 (.array .int) true := ⟨_, rfl, by decide, gw_in in_t6 97 rfl rfl, rfl, by decide +kernel, rfl⟩
theorem fl_RX12_154 : FL RX12 154 12 66 (.array .int) true := ⟨_, rfl, by decide, gw_in in_t6 98 rfl rfl, rfl, by decide +kernel, rfl⟩
theorem fl_RX12_431 : FL RX12 431 12 67 .int false := ⟨_, rfl, by decide, gw_in in_t6 99 rfl rfl, rfl, by decide +kernel, rfl⟩
theorem fl_RX12_157 : FL RX12 157 12 68 (.array .int) true := ⟨_, rfl, by decide, gw_in in_t6 100 rfl rfl, rfl, by decide +kernel, rfl⟩
theorem fl_RX12_160 : FL RX12 160 12 69 (.array .int) true := ⟨_, rfl, by decide, gw_in in_t6 101 rfl rfl, rfl, by decide +kernel, rfl⟩
theorem fl_RX12_163 : FL RX12 163 12 70 (.array .int) true := ⟨_, rfl, by decide, gw_in in_t6 102 rfl rfl, rfl, by decide +kernel, rfl⟩
theorem fl_RX12_166 : FL RX12 166 12 71 (.array .int) true := ⟨_, rfl, by decide, gw_in in_t6 103 rfl rfl, rfl, by decide +kernel, rfl⟩
theorem fl_RX12_169 : FL RX12 169 12 72 .int false := ⟨_, rfl, by decide, gw_in in_t6 104 rfl rfl, rfl, by decide +kernel, rfl⟩
theorem fl_RX12_172 : FL RX12 172 12 73 (.array .int) true := ⟨_, rfl, by decide, gw_in in_t6 105 rfl rfl, rfl, by decide +kernel, rfl⟩
theorem fl_RX12_175 : FL RX12 175 12 74 .int false := ⟨_, rfl, by decide, gw_in in_t6 106 rfl rfl, rfl, by decide +kernel, rfl⟩
theorem fl_RX12_178 : FL RX12 178 12 75 (.array .int) true := ⟨_, rfl, by decide, gw_in in_t6 107 rfl rfl, rfl, by decide +kernel, rfl⟩
theorem fl_RX12_440 : FL RX12 440 12 76 .int false := ⟨_, rfl, by decide, gw_in in_t6 108 rfl rfl, rfl, by decide +kernel, rfl⟩
theorem fl_RX12_181 : FL RX12 181 12 77 (.array .int) true := ⟨_, rfl, by decide, gw_in in_t6 109 rfl rfl, rfl, by decide +kernel, rfl⟩
theorem fl_RX12_184 : FL RX12 184 12 78 (.array .int) true := ⟨_, rfl, by decide, gw_in in_t6 110 rfl rfl, rfl, by decide +kernel, rfl⟩
theorem fl_RX12_447 : FL RX12 447 12 79 .int false := ⟨_, rfl, by decide, gw_in in_t6 111 rfl rfl, rfl, by decide +kernel, rfl⟩
theorem fl_RX12_187 : FL RX12 187 12 80 (.array .int) true := ⟨_, rfl, by decide, gw_in in_t6 112 rfl rfl, rfl, by decide +kernel, rfl⟩
theorem fl_RX12_190 : FL RX12 190 12 81 (.array .int) true := ⟨_, rfl, by decide, gw_in in_t6 113 rfl rfl, rfl, by decide +kernel, rfl⟩
theorem fl_RX12_193 : FL RX12 193 12 82 .int false := ⟨_, rfl, by decide, gw_in in_t6 114 rfl rfl, rfl, by decide +kernel, rfl⟩
theorem fl_RX12_450 : FL RX12 450 12 83 .int false := ⟨_, rfl, by decide, gw_in in_t6 115 rfl rfl, rfl, by decide +kernel, rfl⟩
theorem fl_RX12_196 : FL RX12 196 12 84 (.array .int) true := ⟨_, rfl, by decide, gw_in in_t6 116 rfl rfl, rfl, by decide +kernel, rfl⟩
theorem fl_RX12_199 : FL RX12 199 12 85 (.array .int) true := ⟨_, rfl, by decide, gw_in in_t6 117 rfl rfl, rfl, by decide +kernel, rfl⟩
theorem fl_RX12_202 : FL RX12 202 12 86 (.array .int) true := ⟨_, rfl, by decide, gw_in in_t6 118 rfl rfl, rfl, by decide +kernel, rfl⟩
theorem fl_RX12_453 : FL RX12 453 12 87 .int false := ⟨_, rfl, by decide, gw_in in_t6 119 rfl rfl, rfl, by decide +kernel, rfl⟩
theorem fl_RX12_205 : FL RX12 205 12 88 (.array .int) true := ⟨_, rfl, by decide, gw_in in_t6 120 rfl rfl, rfl, by decide +kernel, rfl⟩
theorem fl_RX12_208 : FL RX12 208 12 89 (.array .int) true := ⟨_, rfl, by decide, gw_in in_t6 121 rfl rfl, rfl, by decide +kernel, rfl⟩
theorem fl_RX12_211 : FL RX12 211 12 90 (.array .int) true := ⟨_, rfl, by decide, gw_in in_t6 122 rfl rfl, rfl, by decide +kernel, rfl⟩
theorem fl_RX12_214 : FL RX12 214 12 91 (.array .long) true := ⟨_, rfl, by decide, gw_in in_t6 123 rfl rfl, rfl, by decide +kernel, rfl⟩
theorem fl_RX12_218 : FL RX12 218 12 92 (.array .boolean) true := ⟨_, rfl, by decide, gw_in in_t6 124 rfl rfl, rfl, by decide +kernel, rfl⟩
theorem fl_RX12_221 : FL RX12 221 12 93 (.array .long) true := ⟨_, rfl, by decide, gw_in in_t6 125 rfl rfl, rfl, by decide +kernel, rfl⟩
theorem fl_RX12_224 : FL RX12 224 12 94 (.array .boolean) true := ⟨_, rfl, by decide, gw_in in_t6 126 rfl rfl, rfl, by decide +kernel, rfl⟩
theorem ac_boolean : Cond.arrayClass .boolean ∈ gw := gw_in in_t7 78 rfl rfl
theorem ml_RL_17 : Cond.methodLink RL 17 yX12_hard ∈ gw := gw_in in_t7 79 rfl rfl
theorem ml_RX12_234 : Cond.methodLink RX12 234 yX12_isCell ∈ gw := gw_in in_t7 83 rfl rfl
theorem ml_RX12_230 : Cond.methodLink RX12 230 yX12_in ∈ gw := gw_in in_t7 86 rfl rfl
theorem ml_RX12_238 : Cond.methodLink RX12 238 yX12_placeOf ∈ gw := gw_in in_t7 89 rfl rfl
theorem ml_RL_21 : Cond.methodLink RL 21 yX12_open ∈ gw := gw_in in_t7 92 rfl rfl
theorem ml_RL_25 : Cond.methodLink RL 25 yX12_ofCell ∈ gw := gw_in in_t7 96 rfl rfl
theorem ml_RL_30 : Cond.methodLink RL 30 yX12_body ∈ gw := gw_in in_t7 100 rfl rfl
theorem ml_RX12_252 : Cond.methodLink RX12 252 yX12_add ∈ gw := gw_in in_t7 104 rfl rfl
theorem ml_RL_34 : Cond.methodLink RL 34 yX12_hole ∈ gw := gw_in in_t7 108 rfl rfl
theorem ml_RL_38 : Cond.methodLink RL 38 yX12_shelter ∈ gw := gw_in in_t7 112 rfl rfl
theorem ml_RX12_255 : Cond.methodLink RX12 255 yX12_isSpan ∈ gw := gw_in in_t7 116 rfl rfl
theorem ml_RL_42 : Cond.methodLink RL 42 yX12_man ∈ gw := gw_in in_t7 119 rfl rfl
theorem ml_RL_46 : Cond.methodLink RL 46 yX12_ofBody ∈ gw := gw_in in_t7 123 rfl rfl
theorem ml_RX12_245 : Cond.methodLink RX12 245 yX12_isBody ∈ gw := gw_in in_t7 127 rfl rfl
theorem ct_RX12_267 : Cond.constant RX12 267 (-2000000000 : Int32) ∈ gw := gw_in in_t7 131 rfl rfl
theorem ml_RX12_268 : Cond.methodLink RX12 268 yX12_isHole ∈ gw := gw_in in_t7 132 rfl rfl
theorem ml_RX12_248 : Cond.methodLink RX12 248 yX12_isUnder ∈ gw := gw_in in_t7 136 rfl rfl
theorem ml_RL_50 : Cond.methodLink RL 50 yX12_ill ∈ gw := gw_in in_t7 139 rfl rfl
theorem ml_RX12_275 : Cond.methodLink RX12 275 yX12_isMan ∈ gw := gw_in in_t7 143 rfl rfl
theorem ml_RL_54 : Cond.methodLink RL 54 yX12_speed ∈ gw := gw_in in_t7 147 rfl rfl
theorem ml_RX12_278 : Cond.methodLink RX12 278 yX12_isMachine ∈ gw := gw_in in_t7 151 rfl rfl
theorem ml_RL_58 : Cond.methodLink RL 58 yX12_set ∈ gw := gw_in in_t7 154 rfl rfl
theorem ml_RL_62 : Cond.methodLink RL 62 yX12_breaks ∈ gw := gw_in in_t7 158 rfl rfl
theorem ml_RL_66 : Cond.methodLink RL 66 yX12_yard ∈ gw := gw_in in_t7 162 rfl rfl
theorem ml_RL_70 : Cond.methodLink RL 70 yX12_met ∈ gw := gw_in in_t7 166 rfl rfl
theorem ml_RL_79 : Cond.methodLink RL 79 yX12_spread ∈ gw := gw_in in_t7 170 rfl rfl
theorem ml_RL_75 : Cond.methodLink RL 75 yX12_log ∈ gw := gw_in in_t7 174 rfl rfl
theorem ml_RX12_288 : Cond.methodLink RX12 288 yX12_isShelf ∈ gw := gw_in in_t7 178 rfl rfl
theorem ml_RX12_291 : Cond.methodLink RX12 291 yX12_isReals ∈ gw := gw_in in_t7 181 rfl rfl
theorem ml_RL_84 : Cond.methodLink RL 84 yX12_canBe ∈ gw := gw_in in_t7 185 rfl rfl
theorem ml_RX12_297 : Cond.methodLink RX12 297 yX12_canBeAt ∈ gw := gw_in in_t7 189 rfl rfl
theorem ml_RX12_294 : Cond.methodLink RX12 294 yX12_down4 ∈ gw := gw_in in_t7 193 rfl rfl
theorem ml_RX12_284 : Cond.methodLink RX12 284 yX12_held ∈ gw := gw_in in_t7 196 rfl rfl
theorem ml_RL_88 : Cond.methodLink RL 88 yX12_map ∈ gw := gw_in in_t7 199 rfl rfl
theorem ml_RL_92 : Cond.methodLink RL 92 yX12_old ∈ gw := gw_in in_t7 203 rfl rfl
theorem ml_RX12_304 : Cond.methodLink RX12 304 yX12_isOldBy ∈ gw := gw_in in_t7 207 rfl rfl
theorem ml_RL_96 : Cond.methodLink RL 96 yX12_wrong ∈ gw := gw_in in_t7 211 rfl rfl
theorem ml_RX12_313 : Cond.methodLink RX12 313 yX12_wrongBy ∈ gw := gw_in in_t7 215 rfl rfl
theorem ml_RX12_310 : Cond.methodLink RX12 310 yX12_isUnlike ∈ gw := gw_in in_t7 219 rfl rfl
theorem ml_RX12_307 : Cond.methodLink RX12 307 yX12_isShelterBy ∈ gw := gw_in in_t7 223 rfl rfl
theorem ml_RL_100 : Cond.methodLink RL 100 yX12_known ∈ gw := gw_in in_t7 227 rfl rfl
theorem ml_RL_104 : Cond.methodLink RL 104 yX12_feed ∈ gw := gw_in in_t7 231 rfl rfl
theorem ml_RL_108 : Cond.methodLink RL 108 yX12_text ∈ gw := gw_in in_t7 235 rfl rfl
theorem ml_RX12_370 : Cond.methodLink RX12 370 yX12_isWhat ∈ gw := gw_in in_t7 239 rfl rfl
theorem ml_RX12_376 : Cond.methodLink RX12 376 yX12_readLine ∈ gw := gw_in in_t8 2 rfl rfl
theorem ml_RX12_355 : Cond.methodLink RX12 355 yX12_either ∈ gw := gw_in in_t8 6 rfl rfl
theorem ml_RX12_367 : Cond.methodLink RX12 367 yX12_all ∈ gw := gw_in in_t8 10 rfl rfl
theorem ml_RX12_364 : Cond.methodLink RX12 364 yX12_compared ∈ gw := gw_in in_t8 14 rfl rfl
theorem ml_RX12_361 : Cond.methodLink RX12 361 yX12_sum ∈ gw := gw_in in_t8 18 rfl rfl
theorem ml_RX12_358 : Cond.methodLink RX12 358 yX12_product ∈ gw := gw_in in_t8 22 rfl rfl
theorem ml_RX12_352 : Cond.methodLink RX12 352 yX12_operand ∈ gw := gw_in in_t8 26 rfl rfl
theorem ml_RX12_337 : Cond.methodLink RX12 337 yX12_look ∈ gw := gw_in in_t8 30 rfl rfl
theorem ml_RX12_341 : Cond.methodLink RX12 341 yX12_nameOf ∈ gw := gw_in in_t8 34 rfl rfl
theorem ml_RX12_344 : Cond.methodLink RX12 344 yX12_lay ∈ gw := gw_in in_t8 37 rfl rfl
theorem ml_RX12_348 : Cond.methodLink RX12 348 yX12_opens ∈ gw := gw_in in_t8 41 rfl rfl
theorem ml_RX12_334 : Cond.methodLink RX12 334 yX12_faultHere ∈ gw := gw_in in_t8 45 rfl rfl
theorem ml_RL_112 : Cond.methodLink RL 112 yX12_inForce ∈ gw := gw_in in_t8 49 rfl rfl
theorem ml_RX12_382 : Cond.methodLink RX12 382 yX12_isHour ∈ gw := gw_in in_t8 53 rfl rfl
theorem ml_RX12_385 : Cond.methodLink RX12 385 yX12_forceOf ∈ gw := gw_in in_t8 56 rfl rfl
theorem ml_RX12_379 : Cond.methodLink RX12 379 yX12_firstThrough ∈ gw := gw_in in_t8 60 rfl rfl
theorem ml_RL_116 : Cond.methodLink RL 116 yX12_says ∈ gw := gw_in in_t8 64 rfl rfl
theorem ml_RX12_403 : Cond.methodLink RX12 403 yX12_saysNow ∈ gw := gw_in in_t8 68 rfl rfl
theorem ml_RX12_394 : Cond.methodLink RX12 394 yX12_menBelow ∈ gw := gw_in in_t8 72 rfl rfl
theorem ml_RX12_400 : Cond.methodLink RX12 400 yX12_gives ∈ gw := gw_in in_t8 76 rfl rfl
theorem ml_RX12_391 : Cond.methodLink RX12 391 yX12_worked ∈ gw := gw_in in_t8 80 rfl rfl
theorem ml_RX12_388 : Cond.methodLink RX12 388 yX12_both ∈ gw := gw_in in_t8 84 rfl rfl
theorem ml_RL_128 : Cond.methodLink RL 128 yX12_move ∈ gw := gw_in in_t8 87 rfl rfl
theorem ml_RL_124 : Cond.methodLink RL 124 yX12_spoons ∈ gw := gw_in in_t8 91 rfl rfl
theorem ml_RL_120 : Cond.methodLink RL 120 yX12_hours ∈ gw := gw_in in_t8 95 rfl rfl
theorem ml_RX12_415 : Cond.methodLink RX12 415 yX12_drill ∈ gw := gw_in in_t8 99 rfl rfl
theorem ml_RX12_409 : Cond.methodLink RX12 409 yX12_bore ∈ gw := gw_in in_t8 103 rfl rfl
theorem ml_RX12_418 : Cond.methodLink RX12 418 yX12_comeDown ∈ gw := gw_in in_t8 107 rfl rfl
theorem ml_RX12_421 : Cond.methodLink RX12 421 yX12_eat ∈ gw := gw_in in_t8 111 rfl rfl
theorem ml_RL_132 : Cond.methodLink RL 132 yX12_last ∈ gw := gw_in in_t8 115 rfl rfl
theorem ml_RX12_424 : Cond.methodLink RX12 424 yX12_lastsBy ∈ gw := gw_in in_t8 119 rfl rfl
theorem ml_RL_136 : Cond.methodLink RL 136 yX12_best ∈ gw := gw_in in_t8 123 rfl rfl
theorem ml_RL_140 : Cond.methodLink RL 140 yX12_down ∈ gw := gw_in in_t8 127 rfl rfl
theorem ml_RL_144 : Cond.methodLink RL 144 yX12_below ∈ gw := gw_in in_t8 131 rfl rfl
theorem ml_RL_148 : Cond.methodLink RL 148 yX12_need ∈ gw := gw_in in_t8 135 rfl rfl
theorem ml_RL_153 : Cond.methodLink RL 153 yX12_order ∈ gw := gw_in in_t8 139 rfl rfl
theorem ct_RX12_436 : Cond.constant RX12 436 (2147483647 : Int32) ∈ gw := gw_in in_t8 143 rfl rfl
theorem ml_RX12_437 : Cond.methodLink RX12 437 yX12_costNext ∈ gw := gw_in in_t8 144 rfl rfl
theorem ml_RL_157 : Cond.methodLink RL 157 yX12_ordered ∈ gw := gw_in in_t8 148 rfl rfl
theorem ml_RL_161 : Cond.methodLink RL 161 yX12_watch ∈ gw := gw_in in_t8 152 rfl rfl
theorem ml_RL_165 : Cond.methodLink RL 165 yX12_watched ∈ gw := gw_in in_t8 156 rfl rfl
theorem ml_RL_169 : Cond.methodLink RL 169 yX12_aim ∈ gw := gw_in in_t8 160 rfl rfl
theorem ml_RL_173 : Cond.methodLink RL 173 yX12_rock ∈ gw := gw_in in_t8 164 rfl rfl
theorem ml_RL_177 : Cond.methodLink RL 177 yX12_aimed ∈ gw := gw_in in_t8 168 rfl rfl
theorem ml_RX12_443 : Cond.methodLink RX12 443 yX12_minutesAt ∈ gw := gw_in in_t8 172 rfl rfl
theorem ml_RL_181 : Cond.methodLink RL 181 yX12_aimedAt ∈ gw := gw_in in_t8 176 rfl rfl
theorem ml_RL_185 : Cond.methodLink RL 185 yX12_race ∈ gw := gw_in in_t8 180 rfl rfl
theorem ml_RL_189 : Cond.methodLink RL 189 yX12_capsule ∈ gw := gw_in in_t8 184 rfl rfl
theorem ml_RL_193 : Cond.methodLink RL 193 yX12_up ∈ gw := gw_in in_t8 188 rfl rfl
theorem ml_RL_197 : Cond.methodLink RL 197 yX12_raise ∈ gw := gw_in in_t8 192 rfl rfl
theorem ml_RL_201 : Cond.methodLink RL 201 yX12_act ∈ gw := gw_in in_t8 196 rfl rfl
theorem ml_RX12_469 : Cond.methodLink RX12 469 yX12_bores ∈ gw := gw_in in_t8 200 rfl rfl
theorem ml_RX12_456 : Cond.methodLink RX12 456 yX12_ran ∈ gw := gw_in in_t8 204 rfl rfl
theorem ml_RX12_466 : Cond.methodLink RX12 466 yX12_shaftBores ∈ gw := gw_in in_t8 208 rfl rfl
theorem ml_RX12_463 : Cond.methodLink RX12 463 yX12_wayBores ∈ gw := gw_in in_t8 212 rfl rfl
theorem ml_RX12_460 : Cond.methodLink RX12 460 yX12_plainBores ∈ gw := gw_in in_t8 216 rfl rfl
theorem ml_RX12_478 : Cond.methodLink RX12 478 yX12_carries ∈ gw := gw_in in_t8 220 rfl rfl
theorem ml_RX12_472 : Cond.methodLink RX12 472 yX12_plainCarries ∈ gw := gw_in in_t8 224 rfl rfl
theorem ml_RX12_481 : Cond.methodLink RX12 481 yX12_holdsBy ∈ gw := gw_in in_t8 228 rfl rfl
theorem ml_RX12_475 : Cond.methodLink RX12 475 yX12_plainHolds ∈ gw := gw_in in_t8 232 rfl rfl
theorem ml_RX12_487 : Cond.methodLink RX12 487 yX12_tells ∈ gw := gw_in in_t8 236 rfl rfl
theorem ml_RX12_484 : Cond.methodLink RX12 484 yX12_plainTells ∈ gw := gw_in in_t9 0 rfl rfl
theorem ml_RL_205 : Cond.methodLink RL 205 yX12_trace ∈ gw := gw_in in_t9 4 rfl rfl
theorem ml_RL_241 : Cond.methodLink RL 241 yX12_count ∈ gw := gw_in in_t9 8 rfl rfl
theorem ml_RL_209 : Cond.methodLink RL 209 yX12_keep ∈ gw := gw_in in_t9 12 rfl rfl
theorem ml_RL_213 : Cond.methodLink RL 213 yX12_row ∈ gw := gw_in in_t9 16 rfl rfl
theorem ml_RL_220 : Cond.methodLink RL 220 yX12_put ∈ gw := gw_in in_t9 20 rfl rfl
theorem ct_RX12_490 : Cond.constantLong RX12 490 (-9999 : Int64) ∈ gw := gw_in in_t9 24 rfl rfl
theorem ct_RX12_492 : Cond.constantLong RX12 492 (9999 : Int64) ∈ gw := gw_in in_t9 25 rfl rfl
theorem ml_RX12_494 : Cond.methodLink RX12 494 yX12_whyNoPlace ∈ gw := gw_in in_t9 26 rfl rfl
theorem ct_RX12_497 : Cond.constantLong RX12 497 (65535 : Int64) ∈ gw := gw_in in_t9 30 rfl rfl
theorem ml_RL_224 : Cond.methodLink RL 224 yX12_blank ∈ gw := gw_in in_t9 31 rfl rfl
theorem ml_RL_229 : Cond.methodLink RL 229 yX12_element ∈ gw := gw_in in_t9 35 rfl rfl
theorem ct_RX12_501 : Cond.constantLong RX12 501 (-9223372036854775808 : Int64) ∈ gw := gw_in in_t9 39 rfl rfl
theorem ct_RX12_503 : Cond.constantLong RX12 503 (9223372036854775807 : Int64) ∈ gw := gw_in in_t9 40 rfl rfl
theorem ml_RL_233 : Cond.methodLink RL 233 yX12_shift ∈ gw := gw_in in_t9 41 rfl rfl
theorem ml_RL_237 : Cond.methodLink RL 237 yX12_taken ∈ gw := gw_in in_t9 45 rfl rfl
theorem ct_RL_214 : Cond.constantLong RL 214 (4294967295 : Int64) ∈ gw := gw_in in_t9 49 rfl rfl
theorem oi_i : Cond.instanceMethod Lib.objectInit ∈ gw := gw_in in_t1 28 rfl rfl
theorem oi_c : Cond.code Lib.objectInit ⟨#[0xb1]⟩ 1 none ∈ gw := gw_in in_t1 29 rfl rfl
set_option maxRecDepth 20000 in
theorem kX0_init : MI mX0_init 1 := ⟨⟨ini_RX0, gw_in in_t1 121 rfl rfl, nhX0, nvX0, by decide +kernel⟩, rfl, gw_in in_t1 120 rfl rfl, rfl⟩
set_option maxRecDepth 20000 in
theorem kX0_kindOf : MV mX0_kindOf 1 := ⟨⟨ini_RX0, gw_in in_t3 38 rfl rfl, nhX0, nvX0, by decide +kernel⟩, gw_in in_t3 36 rfl rfl, gw_in in_t3 37 rfl rfl⟩
set_option maxRecDepth 20000 in
theorem kX0_holeOf : MV mX0_holeOf 1 := ⟨⟨ini_RX0, gw_in in_t3 43 rfl rfl, nhX0, nvX0, by decide +kernel⟩, gw_in in_t3 41 rfl rfl, gw_in in_t3 42 rfl rfl⟩
set_option maxRecDepth 20000 in
theorem kX0_isUnder : MV mX0_isUnder 2 := ⟨⟨ini_RX0, gw_in in_t6 20 rfl rfl, nhX0, nvX0, by decide +kernel⟩, gw_in in_t6 18 rfl rfl, gw_in in_t6 19 rfl rfl⟩
set_option maxRecDepth 20000 in
theorem kX0_added : MV mX0_added 1 := ⟨⟨ini_RX0, gw_in in_t2 192 rfl rfl, nhX0, nvX0, by decide +kernel⟩, gw_in in_t2 190 rfl rfl, gw_in in_t2 191 rfl rfl⟩
set_option maxRecDepth 20000 in
theorem kX0_addedHole : MV mX0_addedHole 3 := ⟨⟨ini_RX0, gw_in in_t2 200 rfl rfl, nhX0, nvX0, by decide +kernel⟩, gw_in in_t2 198 rfl rfl, gw_in in_t2 199 rfl rfl⟩
set_option maxRecDepth 20000 in
theorem kX0_addedRefuge : MV mX0_addedRefuge 3 := ⟨⟨ini_RX0, gw_in in_t3 22 rfl rfl, nhX0, nvX0, by decide +kernel⟩, gw_in in_t3 20 rfl rfl, gw_in in_t3 21 rfl rfl⟩
set_option maxRecDepth 20000 in
theorem kX0_isRefuge : MV mX0_isRefuge 2 := ⟨⟨ini_RX0, gw_in in_t4 227 rfl rfl, nhX0, nvX0, by decide +kernel⟩, gw_in in_t4 225 rfl rfl, gw_in in_t4 226 rfl rfl⟩
set_option maxRecDepth 20000 in
theorem kX0_ofRefuge : MV mX0_ofRefuge 1 := ⟨⟨ini_RX0, gw_in in_t3 51 rfl rfl, nhX0, nvX0, by decide +kernel⟩, gw_in in_t3 49 rfl rfl, gw_in in_t3 50 rfl rfl⟩
set_option maxRecDepth 20000 in
theorem kX0_acted : MV mX0_acted 3 := ⟨⟨ini_RX0, gw_in in_t5 173 rfl rfl, nhX0, nvX0, by decide +kernel⟩, gw_in in_t5 171 rfl rfl, gw_in in_t5 172 rfl rfl⟩
set_option maxRecDepth 20000 in
theorem kX0_runs : MV mX0_runs 1 := ⟨⟨ini_RX0, gw_in in_t5 182 rfl rfl, nhX0, nvX0, by decide +kernel⟩, gw_in in_t5 181 rfl rfl, gw_of 34 (by decide +kernel) rfl⟩
set_option maxRecDepth 20000 in
theorem kX0_boresFrom : MV mX0_boresFrom 4 := ⟨⟨ini_RX0, gw_in in_t5 178 rfl rfl, nhX0, nvX0, by decide +kernel⟩, gw_in in_t5 177 rfl rfl, gw_of 33 (by decide +kernel) rfl⟩
set_option maxRecDepth 20000 in
theorem kX0_carriesFrom : MV mX0_carriesFrom 4 := ⟨⟨ini_RX0, gw_in in_t5 186 rfl rfl, nhX0, nvX0, by decide +kernel⟩, gw_in in_t5 185 rfl rfl, gw_of 35 (by decide +kernel) rfl⟩
set_option maxRecDepth 20000 in
theorem kX0_holdsFrom : MV mX0_holdsFrom 4 := ⟨⟨ini_RX0, gw_in in_t5 199 rfl rfl, nhX0, nvX0, by decide +kernel⟩, gw_in in_t5 198 rfl rfl, gw_of 38 (by decide +kernel) rfl⟩
set_option maxRecDepth 20000 in
theorem kX0_tellsFrom : MV mX0_tellsFrom 4 := ⟨⟨ini_RX0, gw_in in_t5 203 rfl rfl, nhX0, nvX0, by decide +kernel⟩, gw_in in_t5 202 rfl rfl, gw_of 39 (by decide +kernel) rfl⟩
set_option maxRecDepth 20000 in
theorem kX0_widthOf : MV mX0_widthOf 1 := ⟨⟨ini_RX0, gw_in in_t5 190 rfl rfl, nhX0, nvX0, by decide +kernel⟩, gw_in in_t5 189 rfl rfl, gw_of 36 (by decide +kernel) rfl⟩
set_option maxRecDepth 20000 in
theorem kX0_strengthOf : MV mX0_strengthOf 1 := ⟨⟨ini_RX0, gw_in in_t5 195 rfl rfl, nhX0, nvX0, by decide +kernel⟩, gw_in in_t5 194 rfl rfl, gw_of 37 (by decide +kernel) rfl⟩
set_option maxRecDepth 20000 in
theorem kX1_init : MI mX1_init 3 := ⟨⟨ini_RX1, gw_in in_t3 157 rfl rfl, nhX1, nvX1, by decide +kernel⟩, rfl, gw_in in_t3 156 rfl rfl, rfl⟩
set_option maxRecDepth 20000 in
theorem kX1_bits : MS mX1_bits 2 := ⟨⟨ini_RX1, gw_in in_t3 193 rfl rfl, nhX1, nvX1, by decide +kernel⟩, gw_in in_t3 192 rfl rfl⟩
set_option maxRecDepth 20000 in
theorem kX1_lists : MV mX1_lists 2 := ⟨⟨ini_RX1, gw_in in_t3 189 rfl rfl, nhX1, nvX1, by decide +kernel⟩, gw_in in_t3 187 rfl rfl, gw_in in_t3 188 rfl rfl⟩
set_option maxRecDepth 20000 in
theorem kX1_listed : MV mX1_listed 2 := ⟨⟨ini_RX1, gw_in in_t3 197 rfl rfl, nhX1, nvX1, by decide +kernel⟩, gw_in in_t3 195 rfl rfl, gw_in in_t3 196 rfl rfl⟩
set_option maxRecDepth 20000 in
theorem kX1_isUnlike : MV mX1_isUnlike 4 := ⟨⟨ini_RX1, gw_in in_t3 213 rfl rfl, nhX1, nvX1, by decide +kernel⟩, gw_in in_t3 211 rfl rfl, gw_in in_t3 212 rfl rfl⟩
set_option maxRecDepth 20000 in
theorem kX1_edge : MV mX1_edge 1 := ⟨⟨ini_RX1, gw_in in_t3 221 rfl rfl, nhX1, nvX1, by decide +kernel⟩, gw_in in_t3 219 rfl rfl, gw_in in_t3 220 rfl rfl⟩
set_option maxRecDepth 20000 in
theorem kX2_init : MI mX2_init 0 := ⟨⟨ini_RX2, gw_in in_t1 65 rfl rfl, nhX2, nvX2, by decide +kernel⟩, rfl, gw_in in_t1 64 rfl rfl, rfl⟩
set_option maxRecDepth 20000 in
theorem kX2_comes : MV mX2_comes 4 := ⟨⟨ini_RX2, gw_in in_t3 30 rfl rfl, nhX2, nvX2, by decide +kernel⟩, gw_in in_t3 28 rfl rfl, gw_in in_t3 29 rfl rfl⟩
set_option maxRecDepth 20000 in
theorem kX2_ofMan : MV mX2_ofMan 2 := ⟨⟨ini_RX2, gw_in in_t3 56 rfl rfl, nhX2, nvX2, by decide +kernel⟩, gw_in in_t3 54 rfl rfl, gw_in in_t3 55 rfl rfl⟩
set_option maxRecDepth 20000 in
theorem kX2_afterDay : MS mX2_afterDay 2 := ⟨⟨ini_RX2, gw_in in_t5 7 rfl rfl, nhX2, nvX2, by decide +kernel⟩, gw_in in_t5 6 rfl rfl⟩
set_option maxRecDepth 20000 in
theorem kX2_daysKept : MV mX2_daysKept 3 := ⟨⟨ini_RX2, gw_in in_t5 32 rfl rfl, nhX2, nvX2, by decide +kernel⟩, gw_in in_t5 30 rfl rfl, gw_in in_t5 31 rfl rfl⟩
set_option maxRecDepth 20000 in
theorem kX2_watchesMade : MV mX2_watchesMade 2 := ⟨⟨ini_RX2, gw_in in_t5 92 rfl rfl, nhX2, nvX2, by decide +kernel⟩, gw_in in_t5 90 rfl rfl, gw_in in_t5 91 rfl rfl⟩
set_option maxRecDepth 20000 in
theorem kX2_liftBegins : MV mX2_liftBegins 2 := ⟨⟨ini_RX2, gw_in in_t5 145 rfl rfl, nhX2, nvX2, by decide +kernel⟩, gw_in in_t5 143 rfl rfl, gw_in in_t5 144 rfl rfl⟩
set_option maxRecDepth 20000 in
theorem kX2_liftTakes : MV mX2_liftTakes 2 := ⟨⟨ini_RX2, gw_in in_t5 149 rfl rfl, nhX2, nvX2, by decide +kernel⟩, gw_in in_t5 147 rfl rfl, gw_in in_t5 148 rfl rfl⟩
set_option maxRecDepth 20000 in
theorem kX2_upAt : MV mX2_upAt 1 := ⟨⟨ini_RX2, gw_in in_t5 153 rfl rfl, nhX2, nvX2, by decide +kernel⟩, gw_in in_t5 151 rfl rfl, gw_in in_t5 152 rfl rfl⟩
set_option maxRecDepth 20000 in
theorem kX2_raisedWithin : MV mX2_raisedWithin 1 := ⟨⟨ini_RX2, gw_in in_t5 165 rfl rfl, nhX2, nvX2, by decide +kernel⟩, gw_in in_t5 163 rfl rfl, gw_in in_t5 164 rfl rfl⟩
set_option maxRecDepth 20000 in
theorem kX3_init : MI mX3_init 2 := ⟨⟨ini_RX3, gw_in in_t2 205 rfl rfl, nhX3, nvX3, by decide +kernel⟩, rfl, gw_in in_t2 204 rfl rfl, rfl⟩
set_option maxRecDepth 20000 in
theorem kX3_told : MV mX3_told 1 := ⟨⟨ini_RX3, gw_in in_t3 47 rfl rfl, nhX3, nvX3, by decide +kernel⟩, gw_in in_t3 45 rfl rfl, gw_in in_t3 46 rfl rfl⟩
set_option maxRecDepth 20000 in
theorem kX3_logged : MV mX3_logged 4 := ⟨⟨ini_RX3, gw_in in_t3 101 rfl rfl, nhX3, nvX3, by decide +kernel⟩, gw_in in_t3 99 rfl rfl, gw_in in_t3 100 rfl rfl⟩
set_option maxRecDepth 20000 in
theorem kX3_lostFrom : MV mX3_lostFrom 1 := ⟨⟨ini_RX3, gw_in in_t3 109 rfl rfl, nhX3, nvX3, by decide +kernel⟩, gw_in in_t3 108 rfl rfl, gw_of 2 (by decide +kernel) rfl⟩
set_option maxRecDepth 20000 in
theorem kX3_logAhead : MV mX3_logAhead 1 := ⟨⟨ini_RX3, gw_in in_t3 117 rfl rfl, nhX3, nvX3, by decide +kernel⟩, gw_in in_t3 116 rfl rfl, gw_of 3 (by decide +kernel) rfl⟩
set_option maxRecDepth 20000 in
theorem kX3_leastLean : MV mX3_leastLean 2 := ⟨⟨ini_RX3, gw_in in_t3 129 rfl rfl, nhX3, nvX3, by decide +kernel⟩, gw_in in_t3 127 rfl rfl, gw_in in_t3 128 rfl rfl⟩
set_option maxRecDepth 20000 in
theorem kX3_mostLean : MV mX3_mostLean 2 := ⟨⟨ini_RX3, gw_in in_t3 133 rfl rfl, nhX3, nvX3, by decide +kernel⟩, gw_in in_t3 131 rfl rfl, gw_in in_t3 132 rfl rfl⟩
set_option maxRecDepth 20000 in
theorem kX4_init : MI mX4_init 0 := ⟨⟨ini_RX4, gw_in in_t1 173 rfl rfl, nhX4, nvX4, by decide +kernel⟩, rfl, gw_in in_t1 172 rfl rfl, rfl⟩
set_option maxRecDepth 20000 in
theorem kX5_init : MI mX5_init 0 := ⟨⟨ini_RX5, gw_in in_t1 34 rfl rfl, nhX5, nvX5, by decide +kernel⟩, rfl, gw_in in_t1 33 rfl rfl, rfl⟩
set_option maxRecDepth 20000 in
theorem kX5_moveTold : MV mX5_moveTold 2 := ⟨⟨ini_RX5, gw_in in_t5 24 rfl rfl, nhX5, nvX5, by decide +kernel⟩, gw_in in_t5 22 rfl rfl, gw_in in_t5 23 rfl rfl⟩
set_option maxRecDepth 20000 in
theorem kX6_init : MI mX6_init 0 := ⟨⟨ini_RX6, gw_in in_t2 24 rfl rfl, nhX6, nvX6, by decide +kernel⟩, rfl, gw_in in_t2 23 rfl rfl, rfl⟩
set_option maxRecDepth 20000 in
theorem kX6_needTold : MV mX6_needTold 3 := ⟨⟨ini_RX6, gw_in in_t5 61 rfl rfl, nhX6, nvX6, by decide +kernel⟩, gw_in in_t5 59 rfl rfl, gw_in in_t5 60 rfl rfl⟩
set_option maxRecDepth 20000 in
theorem kX6_leastLateness : MV mX6_leastLateness 0 := ⟨⟨ini_RX6, gw_in in_t5 69 rfl rfl, nhX6, nvX6, by decide +kernel⟩, gw_in in_t5 67 rfl rfl, gw_in in_t5 68 rfl rfl⟩
set_option maxRecDepth 20000 in
theorem kX6_sumWith : MV mX6_sumWith 2 := ⟨⟨ini_RX6, gw_in in_t5 74 rfl rfl, nhX6, nvX6, by decide +kernel⟩, gw_in in_t5 73 rfl rfl, gw_of 30 (by decide +kernel) rfl⟩
set_option maxRecDepth 20000 in
theorem kX6_placesFollow : MV mX6_placesFollow 0 := ⟨⟨ini_RX6, gw_in in_t5 80 rfl rfl, nhX6, nvX6, by decide +kernel⟩, gw_in in_t5 79 rfl rfl, gw_of 31 (by decide +kernel) rfl⟩
set_option maxRecDepth 20000 in
theorem kX6_aimTold : MV mX6_aimTold 1 := ⟨⟨ini_RX6, gw_in in_t5 105 rfl rfl, nhX6, nvX6, by decide +kernel⟩, gw_in in_t5 103 rfl rfl, gw_in in_t5 104 rfl rfl⟩
set_option maxRecDepth 20000 in
theorem kX6_weighPlaces : MV mX6_weighPlaces 2 := ⟨⟨ini_RX6, gw_in in_t5 117 rfl rfl, nhX6, nvX6, by decide +kernel⟩, gw_in in_t5 115 rfl rfl, gw_in in_t5 116 rfl rfl⟩
set_option maxRecDepth 20000 in
theorem kX6_soonestOne : MV mX6_soonestOne 1 := ⟨⟨ini_RX6, gw_in in_t5 121 rfl rfl, nhX6, nvX6, by decide +kernel⟩, gw_in in_t5 119 rfl rfl, gw_in in_t5 120 rfl rfl⟩
set_option maxRecDepth 20000 in
theorem kX6_soonestTwo : MV mX6_soonestTwo 1 := ⟨⟨ini_RX6, gw_in in_t5 125 rfl rfl, nhX6, nvX6, by decide +kernel⟩, gw_in in_t5 123 rfl rfl, gw_in in_t5 124 rfl rfl⟩
set_option maxRecDepth 20000 in
theorem kX6_soonestPair : MV mX6_soonestPair 4 := ⟨⟨ini_RX6, gw_in in_t5 129 rfl rfl, nhX6, nvX6, by decide +kernel⟩, gw_in in_t5 128 rfl rfl, gw_of 32 (by decide +kernel) rfl⟩
set_option maxRecDepth 20000 in
theorem kX7_init : MI mX7_init 0 := ⟨⟨ini_RX7, gw_in in_t1 195 rfl rfl, nhX7, nvX7, by decide +kernel⟩, rfl, gw_in in_t1 194 rfl rfl, rfl⟩
set_option maxRecDepth 20000 in
theorem kX7_fed : MV mX7_fed 2 := ⟨⟨ini_RX7, gw_in in_t3 229 rfl rfl, nhX7, nvX7, by decide +kernel⟩, gw_in in_t3 227 rfl rfl, gw_in in_t3 228 rfl rfl⟩
set_option maxRecDepth 20000 in
theorem kX7_code : MV mX7_code 0 := ⟨⟨ini_RX7, gw_in in_t4 139 rfl rfl, nhX7, nvX7, by decide +kernel⟩, gw_in in_t4 137 rfl rfl, gw_in in_t4 138 rfl rfl⟩
set_option maxRecDepth 20000 in
theorem kX7_compiled : MV mX7_compiled 0 := ⟨⟨ini_RX7, gw_in in_t4 0 rfl rfl, nhX7, nvX7, by decide +kernel⟩, gw_in in_t3 238 rfl rfl, gw_in in_t3 239 rfl rfl⟩
set_option maxRecDepth 20000 in
theorem kX7_line : MV mX7_line 0 := ⟨⟨ini_RX7, gw_in in_t4 4 rfl rfl, nhX7, nvX7, by decide +kernel⟩, gw_in in_t4 3 rfl rfl, gw_of 7 (by decide +kernel) rfl⟩
set_option maxRecDepth 20000 in
theorem kX7_either : MV mX7_either 1 := ⟨⟨ini_RX7, gw_in in_t4 8 rfl rfl, nhX7, nvX7, by decide +kernel⟩, gw_in in_t4 7 rfl rfl, gw_of 8 (by decide +kernel) rfl⟩
set_option maxRecDepth 20000 in
theorem kX7_both : MV mX7_both 1 := ⟨⟨ini_RX7, gw_in in_t4 12 rfl rfl, nhX7, nvX7, by decide +kernel⟩, gw_in in_t4 11 rfl rfl, gw_of 9 (by decide +kernel) rfl⟩
set_option maxRecDepth 20000 in
theorem kX7_compared : MV mX7_compared 1 := ⟨⟨ini_RX7, gw_in in_t4 16 rfl rfl, nhX7, nvX7, by decide +kernel⟩, gw_in in_t4 15 rfl rfl, gw_of 10 (by decide +kernel) rfl⟩
set_option maxRecDepth 20000 in
theorem kX7_sum : MV mX7_sum 1 := ⟨⟨ini_RX7, gw_in in_t4 20 rfl rfl, nhX7, nvX7, by decide +kernel⟩, gw_in in_t4 19 rfl rfl, gw_of 11 (by decide +kernel) rfl⟩
set_option maxRecDepth 20000 in
theorem kX7_plusOrMinus : MV mX7_plusOrMinus 0 := ⟨⟨ini_RX7, gw_in in_t4 134 rfl rfl, nhX7, nvX7, by decide +kernel⟩, gw_in in_t4 133 rfl rfl, gw_of 21 (by decide +kernel) rfl⟩
set_option maxRecDepth 20000 in
theorem kX7_product : MV mX7_product 1 := ⟨⟨ini_RX7, gw_in in_t4 24 rfl rfl, nhX7, nvX7, by decide +kernel⟩, gw_in in_t4 23 rfl rfl, gw_of 12 (by decide +kernel) rfl⟩
set_option maxRecDepth 20000 in
theorem kX7_timesOrOver : MV mX7_timesOrOver 0 := ⟨⟨ini_RX7, gw_in in_t4 130 rfl rfl, nhX7, nvX7, by decide +kernel⟩, gw_in in_t4 129 rfl rfl, gw_of 20 (by decide +kernel) rfl⟩
set_option maxRecDepth 20000 in
theorem kX7_single : MV mX7_single 1 := ⟨⟨ini_RX7, gw_in in_t4 28 rfl rfl, nhX7, nvX7, by decide +kernel⟩, gw_in in_t4 27 rfl rfl, gw_of 13 (by decide +kernel) rfl⟩
set_option maxRecDepth 20000 in
theorem kX7_number : MV mX7_number 0 := ⟨⟨ini_RX7, gw_in in_t4 36 rfl rfl, nhX7, nvX7, by decide +kernel⟩, gw_in in_t4 35 rfl rfl, gw_of 15 (by decide +kernel) rfl⟩
set_option maxRecDepth 20000 in
theorem kX7_name : MV mX7_name 0 := ⟨⟨ini_RX7, gw_in in_t4 52 rfl rfl, nhX7, nvX7, by decide +kernel⟩, gw_in in_t4 51 rfl rfl, gw_of 19 (by decide +kernel) rfl⟩
set_option maxRecDepth 20000 in
theorem kX7_isDigit : MV mX7_isDigit 0 := ⟨⟨ini_RX7, gw_in in_t4 32 rfl rfl, nhX7, nvX7, by decide +kernel⟩, gw_in in_t4 31 rfl rfl, gw_of 14 (by decide +kernel) rfl⟩
set_option maxRecDepth 20000 in
theorem kX7_takes : MV mX7_takes 1 := ⟨⟨ini_RX7, gw_in in_t4 44 rfl rfl, nhX7, nvX7, by decide +kernel⟩, gw_in in_t4 43 rfl rfl, gw_of 17 (by decide +kernel) rfl⟩
set_option maxRecDepth 20000 in
theorem kX7_fails : MV mX7_fails 0 := ⟨⟨ini_RX7, gw_in in_t4 48 rfl rfl, nhX7, nvX7, by decide +kernel⟩, gw_in in_t4 47 rfl rfl, gw_of 18 (by decide +kernel) rfl⟩
set_option maxRecDepth 20000 in
theorem kX7_emit : MV mX7_emit 1 := ⟨⟨ini_RX7, gw_in in_t4 40 rfl rfl, nhX7, nvX7, by decide +kernel⟩, gw_in in_t4 39 rfl rfl, gw_of 16 (by decide +kernel) rfl⟩
set_option maxRecDepth 20000 in
theorem kX8_init : MI mX8_init 0 := ⟨⟨ini_RX8, gw_in in_t2 86 rfl rfl, nhX8, nvX8, by decide +kernel⟩, rfl, gw_in in_t2 85 rfl rfl, rfl⟩
set_option maxRecDepth 20000 in
theorem kX8_isReal : MV mX8_isReal 0 := ⟨⟨ini_RX8, gw_in in_t3 97 rfl rfl, nhX8, nvX8, by decide +kernel⟩, gw_in in_t3 95 rfl rfl, gw_in in_t3 96 rfl rfl⟩
set_option maxRecDepth 20000 in
theorem kX8_becomesRow : MV mX8_becomesRow 2 := ⟨⟨ini_RX8, gw_in in_t5 219 rfl rfl, nhX8, nvX8, by decide +kernel⟩, gw_in in_t5 217 rfl rfl, gw_in in_t5 218 rfl rfl⟩
set_option maxRecDepth 20000 in
theorem kX8_refusal : MV mX8_refusal 1 := ⟨⟨ini_RX8, gw_in in_t3 105 rfl rfl, nhX8, nvX8, by decide +kernel⟩, gw_in in_t3 103 rfl rfl, gw_in in_t3 104 rfl rfl⟩
set_option maxRecDepth 20000 in
theorem kX8_hasPlaces : MV mX8_hasPlaces 2 := ⟨⟨ini_RX8, gw_in in_t6 11 rfl rfl, nhX8, nvX8, by decide +kernel⟩, gw_in in_t6 9 rfl rfl, gw_in in_t6 10 rfl rfl⟩
set_option maxRecDepth 20000 in
theorem kX8_narrowed : MV mX8_narrowed 1 := ⟨⟨ini_RX8, gw_in in_t5 233 rfl rfl, nhX8, nvX8, by decide +kernel⟩, gw_in in_t5 231 rfl rfl, gw_in in_t5 232 rfl rfl⟩
set_option maxRecDepth 20000 in
theorem kX9_init : MI mX9_init 0 := ⟨⟨ini_RX9, gw_in in_t1 234 rfl rfl, nhX9, nvX9, by decide +kernel⟩, rfl, gw_in in_t1 233 rfl rfl, rfl⟩
set_option maxRecDepth 20000 in
theorem kX9_sends : MV mX9_sends 2 := ⟨⟨ini_RX9, gw_in in_t5 49 rfl rfl, nhX9, nvX9, by decide +kernel⟩, gw_in in_t5 47 rfl rfl, gw_in in_t5 48 rfl rfl⟩
set_option maxRecDepth 20000 in
theorem kX9_arrivals : MV mX9_arrivals 1 := ⟨⟨ini_RX9, gw_in in_t4 231 rfl rfl, nhX9, nvX9, by decide +kernel⟩, gw_in in_t4 229 rfl rfl, gw_in in_t4 230 rfl rfl⟩
set_option maxRecDepth 20000 in
theorem kX9_comesBelow : MV mX9_comesBelow 1 := ⟨⟨ini_RX9, gw_in in_t4 235 rfl rfl, nhX9, nvX9, by decide +kernel⟩, gw_in in_t4 234 rfl rfl, gw_of 27 (by decide +kernel) rfl⟩
set_option maxRecDepth 20000 in
theorem kX9_eats : MV mX9_eats 1 := ⟨⟨ini_RX9, gw_in in_t5 3 rfl rfl, nhX9, nvX9, by decide +kernel⟩, gw_in in_t5 1 rfl rfl, gw_in in_t5 2 rfl rfl⟩
set_option maxRecDepth 20000 in
theorem kX10_init : MI mX10_init 5 := ⟨⟨ini_RX10, gw_in in_t4 156 rfl rfl, nhX10, nvX10, by decide +kernel⟩, rfl, gw_in in_t4 155 rfl rfl, rfl⟩
set_option maxRecDepth 20000 in
theorem kX10_worth : MV mX10_worth 2 := ⟨⟨ini_RX10, gw_in in_t4 200 rfl rfl, nhX10, nvX10, by decide +kernel⟩, gw_in in_t4 198 rfl rfl, gw_in in_t4 199 rfl rfl⟩
set_option maxRecDepth 20000 in
theorem kX10_nameAt : MS mX10_nameAt 2 := ⟨⟨ini_RX10, gw_in in_t4 204 rfl rfl, nhX10, nvX10, by decide +kernel⟩, gw_in in_t4 203 rfl rfl⟩
set_option maxRecDepth 20000 in
theorem kX10_joined : MS mX10_joined 3 := ⟨⟨ini_RX10, gw_in in_t4 207 rfl rfl, nhX10, nvX10, by decide +kernel⟩, gw_in in_t4 206 rfl rfl⟩
set_option maxRecDepth 20000 in
theorem kX11_init : MI mX11_init 0 := ⟨⟨ini_RX11, gw_in in_t1 26 rfl rfl, nhX11, nvX11, by decide +kernel⟩, rfl, gw_in in_t1 25 rfl rfl, rfl⟩
set_option maxRecDepth 20000 in
theorem kX11_hard : MV mX11_hard 2 := ⟨⟨ini_RX11, gw_in in_t2 170 rfl rfl, nhX11, nvX11, by decide +kernel⟩, gw_in in_t2 168 rfl rfl, gw_in in_t2 169 rfl rfl⟩
set_option maxRecDepth 20000 in
theorem kX11_open : MV mX11_open 2 := ⟨⟨ini_RX11, gw_in in_t2 180 rfl rfl, nhX11, nvX11, by decide +kernel⟩, gw_in in_t2 178 rfl rfl, gw_in in_t2 179 rfl rfl⟩
set_option maxRecDepth 20000 in
theorem kX11_ofCell : MV mX11_ofCell 2 := ⟨⟨ini_RX11, gw_in in_t2 184 rfl rfl, nhX11, nvX11, by decide +kernel⟩, gw_in in_t2 182 rfl rfl, gw_in in_t2 183 rfl rfl⟩
set_option maxRecDepth 20000 in
theorem kX11_body : MV mX11_body 1 := ⟨⟨ini_RX11, gw_in in_t2 188 rfl rfl, nhX11, nvX11, by decide +kernel⟩, gw_in in_t2 186 rfl rfl, gw_in in_t2 187 rfl rfl⟩
set_option maxRecDepth 20000 in
theorem kX11_hole : MV mX11_hole 2 := ⟨⟨ini_RX11, gw_in in_t2 196 rfl rfl, nhX11, nvX11, by decide +kernel⟩, gw_in in_t2 194 rfl rfl, gw_in in_t2 195 rfl rfl⟩
set_option maxRecDepth 20000 in
theorem kX11_shelter : MV mX11_shelter 2 := ⟨⟨ini_RX11, gw_in in_t3 15 rfl rfl, nhX11, nvX11, by decide +kernel⟩, gw_in in_t3 13 rfl rfl, gw_in in_t3 14 rfl rfl⟩
set_option maxRecDepth 20000 in
theorem kX11_man : MV mX11_man 2 := ⟨⟨ini_RX11, gw_in in_t3 26 rfl rfl, nhX11, nvX11, by decide +kernel⟩, gw_in in_t3 24 rfl rfl, gw_in in_t3 25 rfl rfl⟩
set_option maxRecDepth 20000 in
theorem kX11_ofBody : MV mX11_ofBody 2 := ⟨⟨ini_RX11, gw_in in_t3 34 rfl rfl, nhX11, nvX11, by decide +kernel⟩, gw_in in_t3 32 rfl rfl, gw_in in_t3 33 rfl rfl⟩
set_option maxRecDepth 20000 in
theorem kX11_ill : MV mX11_ill 2 := ⟨⟨ini_RX11, gw_in in_t3 61 rfl rfl, nhX11, nvX11, by decide +kernel⟩, gw_in in_t3 59 rfl rfl, gw_in in_t3 60 rfl rfl⟩
set_option maxRecDepth 20000 in
theorem kX11_speed : MV mX11_speed 2 := ⟨⟨ini_RX11, gw_in in_t3 65 rfl rfl, nhX11, nvX11, by decide +kernel⟩, gw_in in_t3 63 rfl rfl, gw_in in_t3 64 rfl rfl⟩
set_option maxRecDepth 20000 in
theorem kX11_set : MV mX11_set 2 := ⟨⟨ini_RX11, gw_in in_t3 73 rfl rfl, nhX11, nvX11, by decide +kernel⟩, gw_in in_t3 71 rfl rfl, gw_in in_t3 72 rfl rfl⟩
set_option maxRecDepth 20000 in
theorem kX11_breaks : MV mX11_breaks 2 := ⟨⟨ini_RX11, gw_in in_t3 77 rfl rfl, nhX11, nvX11, by decide +kernel⟩, gw_in in_t3 75 rfl rfl, gw_in in_t3 76 rfl rfl⟩
set_option maxRecDepth 20000 in
theorem kX11_yard : MV mX11_yard 2 := ⟨⟨ini_RX11, gw_in in_t3 81 rfl rfl, nhX11, nvX11, by decide +kernel⟩, gw_in in_t3 79 rfl rfl, gw_in in_t3 80 rfl rfl⟩
set_option maxRecDepth 20000 in
theorem kX11_met : MV mX11_met 2 := ⟨⟨ini_RX11, gw_in in_t3 85 rfl rfl, nhX11, nvX11, by decide +kernel⟩, gw_in in_t3 83 rfl rfl, gw_in in_t3 84 rfl rfl⟩
set_option maxRecDepth 20000 in
theorem kX11_log : MV mX11_log 5 := ⟨⟨ini_RX11, gw_in in_t3 89 rfl rfl, nhX11, nvX11, by decide +kernel⟩, gw_in in_t3 87 rfl rfl, gw_in in_t3 88 rfl rfl⟩
set_option maxRecDepth 20000 in
theorem kX11_spread : MV mX11_spread 1 := ⟨⟨ini_RX11, gw_in in_t3 121 rfl rfl, nhX11, nvX11, by decide +kernel⟩, gw_in in_t3 119 rfl rfl, gw_in in_t3 120 rfl rfl⟩
set_option maxRecDepth 20000 in
theorem kX11_canBe : MV mX11_canBe 3 := ⟨⟨ini_RX11, gw_in in_t3 125 rfl rfl, nhX11, nvX11, by decide +kernel⟩, gw_in in_t3 123 rfl rfl, gw_in in_t3 124 rfl rfl⟩
set_option maxRecDepth 20000 in
theorem kX11_map : MV mX11_map 2 := ⟨⟨ini_RX11, gw_in in_t3 153 rfl rfl, nhX11, nvX11, by decide +kernel⟩, gw_in in_t3 151 rfl rfl, gw_in in_t3 152 rfl rfl⟩
set_option maxRecDepth 20000 in
theorem kX11_old : MV mX11_old 2 := ⟨⟨ini_RX11, gw_in in_t3 181 rfl rfl, nhX11, nvX11, by decide +kernel⟩, gw_in in_t3 179 rfl rfl, gw_in in_t3 180 rfl rfl⟩
set_option maxRecDepth 20000 in
theorem kX11_wrong : MV mX11_wrong 1 := ⟨⟨ini_RX11, gw_in in_t3 201 rfl rfl, nhX11, nvX11, by decide +kernel⟩, gw_in in_t3 199 rfl rfl, gw_in in_t3 200 rfl rfl⟩
set_option maxRecDepth 20000 in
theorem kX11_known : MV mX11_known 1 := ⟨⟨ini_RX11, gw_in in_t3 217 rfl rfl, nhX11, nvX11, by decide +kernel⟩, gw_in in_t3 215 rfl rfl, gw_in in_t3 216 rfl rfl⟩
set_option maxRecDepth 20000 in
theorem kX11_feed : MV mX11_feed 2 := ⟨⟨ini_RX11, gw_in in_t3 225 rfl rfl, nhX11, nvX11, by decide +kernel⟩, gw_in in_t3 223 rfl rfl, gw_in in_t3 224 rfl rfl⟩
set_option maxRecDepth 20000 in
theorem kX11_text : MV mX11_text 2 := ⟨⟨ini_RX11, gw_in in_t3 233 rfl rfl, nhX11, nvX11, by decide +kernel⟩, gw_in in_t3 231 rfl rfl, gw_in in_t3 232 rfl rfl⟩
set_option maxRecDepth 20000 in
theorem kX11_inForce : MV mX11_inForce 3 := ⟨⟨ini_RX11, gw_in in_t4 181 rfl rfl, nhX11, nvX11, by decide +kernel⟩, gw_in in_t4 179 rfl rfl, gw_in in_t4 180 rfl rfl⟩
set_option maxRecDepth 20000 in
theorem kX11_says : MV mX11_says 2 := ⟨⟨ini_RX11, gw_in in_t4 192 rfl rfl, nhX11, nvX11, by decide +kernel⟩, gw_in in_t4 190 rfl rfl, gw_in in_t4 191 rfl rfl⟩
set_option maxRecDepth 20000 in
theorem kX11_hours : MV mX11_hours 1 := ⟨⟨ini_RX11, gw_in in_t4 211 rfl rfl, nhX11, nvX11, by decide +kernel⟩, gw_in in_t4 209 rfl rfl, gw_in in_t4 210 rfl rfl⟩
set_option maxRecDepth 20000 in
theorem kX11_spoons : MV mX11_spoons 1 := ⟨⟨ini_RX11, gw_in in_t5 16 rfl rfl, nhX11, nvX11, by decide +kernel⟩, gw_in in_t5 14 rfl rfl, gw_in in_t5 15 rfl rfl⟩
set_option maxRecDepth 20000 in
theorem kX11_move : MV mX11_move 2 := ⟨⟨ini_RX11, gw_in in_t5 20 rfl rfl, nhX11, nvX11, by decide +kernel⟩, gw_in in_t5 18 rfl rfl, gw_in in_t5 19 rfl rfl⟩
set_option maxRecDepth 20000 in
theorem kX11_last : MV mX11_last 2 := ⟨⟨ini_RX11, gw_in in_t5 28 rfl rfl, nhX11, nvX11, by decide +kernel⟩, gw_in in_t5 26 rfl rfl, gw_in in_t5 27 rfl rfl⟩
set_option maxRecDepth 20000 in
theorem kX11_best : MV mX11_best 1 := ⟨⟨ini_RX11, gw_in in_t5 38 rfl rfl, nhX11, nvX11, by decide +kernel⟩, gw_in in_t5 36 rfl rfl, gw_in in_t5 37 rfl rfl⟩
set_option maxRecDepth 20000 in
theorem kX11_down : MV mX11_down 3 := ⟨⟨ini_RX11, gw_in in_t5 42 rfl rfl, nhX11, nvX11, by decide +kernel⟩, gw_in in_t5 40 rfl rfl, gw_in in_t5 41 rfl rfl⟩
set_option maxRecDepth 20000 in
theorem kX11_below : MV mX11_below 1 := ⟨⟨ini_RX11, gw_in in_t5 53 rfl rfl, nhX11, nvX11, by decide +kernel⟩, gw_in in_t5 51 rfl rfl, gw_in in_t5 52 rfl rfl⟩
set_option maxRecDepth 20000 in
theorem kX11_need : MV mX11_need 2 := ⟨⟨ini_RX11, gw_in in_t5 57 rfl rfl, nhX11, nvX11, by decide +kernel⟩, gw_in in_t5 55 rfl rfl, gw_in in_t5 56 rfl rfl⟩
set_option maxRecDepth 20000 in
theorem kX11_order : MV mX11_order 0 := ⟨⟨ini_RX11, gw_in in_t5 65 rfl rfl, nhX11, nvX11, by decide +kernel⟩, gw_in in_t5 63 rfl rfl, gw_in in_t5 64 rfl rfl⟩
set_option maxRecDepth 20000 in
theorem kX11_ordered : MV mX11_ordered 1 := ⟨⟨ini_RX11, gw_in in_t5 84 rfl rfl, nhX11, nvX11, by decide +kernel⟩, gw_in in_t5 82 rfl rfl, gw_in in_t5 83 rfl rfl⟩
set_option maxRecDepth 20000 in
theorem kX11_watch : MV mX11_watch 2 := ⟨⟨ini_RX11, gw_in in_t5 88 rfl rfl, nhX11, nvX11, by decide +kernel⟩, gw_in in_t5 86 rfl rfl, gw_in in_t5 87 rfl rfl⟩
set_option maxRecDepth 20000 in
theorem kX11_watched : MV mX11_watched 2 := ⟨⟨ini_RX11, gw_in in_t5 97 rfl rfl, nhX11, nvX11, by decide +kernel⟩, gw_in in_t5 95 rfl rfl, gw_in in_t5 96 rfl rfl⟩
set_option maxRecDepth 20000 in
theorem kX11_aim : MV mX11_aim 2 := ⟨⟨ini_RX11, gw_in in_t5 101 rfl rfl, nhX11, nvX11, by decide +kernel⟩, gw_in in_t5 99 rfl rfl, gw_in in_t5 100 rfl rfl⟩
set_option maxRecDepth 20000 in
theorem kX11_rock : MV mX11_rock 3 := ⟨⟨ini_RX11, gw_in in_t5 109 rfl rfl, nhX11, nvX11, by decide +kernel⟩, gw_in in_t5 107 rfl rfl, gw_in in_t5 108 rfl rfl⟩
set_option maxRecDepth 20000 in
theorem kX11_aimed : MV mX11_aimed 3 := ⟨⟨ini_RX11, gw_in in_t5 113 rfl rfl, nhX11, nvX11, by decide +kernel⟩, gw_in in_t5 111 rfl rfl, gw_in in_t5 112 rfl rfl⟩
set_option maxRecDepth 20000 in
theorem kX11_aimedAt : MV mX11_aimedAt 2 := ⟨⟨ini_RX11, gw_in in_t5 133 rfl rfl, nhX11, nvX11, by decide +kernel⟩, gw_in in_t5 131 rfl rfl, gw_in in_t5 132 rfl rfl⟩
set_option maxRecDepth 20000 in
theorem kX11_race : MV mX11_race 3 := ⟨⟨ini_RX11, gw_in in_t5 137 rfl rfl, nhX11, nvX11, by decide +kernel⟩, gw_in in_t5 135 rfl rfl, gw_in in_t5 136 rfl rfl⟩
set_option maxRecDepth 20000 in
theorem kX11_capsule : MV mX11_capsule 1 := ⟨⟨ini_RX11, gw_in in_t5 141 rfl rfl, nhX11, nvX11, by decide +kernel⟩, gw_in in_t5 139 rfl rfl, gw_in in_t5 140 rfl rfl⟩
set_option maxRecDepth 20000 in
theorem kX11_up : MV mX11_up 2 := ⟨⟨ini_RX11, gw_in in_t5 157 rfl rfl, nhX11, nvX11, by decide +kernel⟩, gw_in in_t5 155 rfl rfl, gw_in in_t5 156 rfl rfl⟩
set_option maxRecDepth 20000 in
theorem kX11_raise : MV mX11_raise 1 := ⟨⟨ini_RX11, gw_in in_t5 161 rfl rfl, nhX11, nvX11, by decide +kernel⟩, gw_in in_t5 159 rfl rfl, gw_in in_t5 160 rfl rfl⟩
set_option maxRecDepth 20000 in
theorem kX11_act : MV mX11_act 3 := ⟨⟨ini_RX11, gw_in in_t5 169 rfl rfl, nhX11, nvX11, by decide +kernel⟩, gw_in in_t5 167 rfl rfl, gw_in in_t5 168 rfl rfl⟩
set_option maxRecDepth 20000 in
theorem kX11_trace : MV mX11_trace 1 := ⟨⟨ini_RX11, gw_in in_t5 207 rfl rfl, nhX11, nvX11, by decide +kernel⟩, gw_in in_t5 205 rfl rfl, gw_in in_t5 206 rfl rfl⟩
set_option maxRecDepth 20000 in
theorem kX11_keep : MV mX11_keep 2 := ⟨⟨ini_RX11, gw_in in_t5 211 rfl rfl, nhX11, nvX11, by decide +kernel⟩, gw_in in_t5 209 rfl rfl, gw_in in_t5 210 rfl rfl⟩
set_option maxRecDepth 20000 in
theorem kX11_row : MV mX11_row 3 := ⟨⟨ini_RX11, gw_in in_t5 215 rfl rfl, nhX11, nvX11, by decide +kernel⟩, gw_in in_t5 213 rfl rfl, gw_in in_t5 214 rfl rfl⟩
set_option maxRecDepth 20000 in
theorem kX11_put : MV mX11_put 3 := ⟨⟨ini_RX11, gw_in in_t5 226 rfl rfl, nhX11, nvX11, by decide +kernel⟩, gw_in in_t5 224 rfl rfl, gw_in in_t5 225 rfl rfl⟩
set_option maxRecDepth 20000 in
theorem kX11_blank : MV mX11_blank 2 := ⟨⟨ini_RX11, gw_in in_t5 237 rfl rfl, nhX11, nvX11, by decide +kernel⟩, gw_in in_t5 235 rfl rfl, gw_in in_t5 236 rfl rfl⟩
set_option maxRecDepth 20000 in
theorem kX11_element : MV mX11_element 2 := ⟨⟨ini_RX11, gw_in in_t6 2 rfl rfl, nhX11, nvX11, by decide +kernel⟩, gw_in in_t6 0 rfl rfl, gw_in in_t6 1 rfl rfl⟩
set_option maxRecDepth 20000 in
theorem kX11_shift : MV mX11_shift 5 := ⟨⟨ini_RX11, gw_in in_t6 7 rfl rfl, nhX11, nvX11, by decide +kernel⟩, gw_in in_t6 5 rfl rfl, gw_in in_t6 6 rfl rfl⟩
set_option maxRecDepth 20000 in
theorem kX11_taken : MV mX11_taken 2 := ⟨⟨ini_RX11, gw_in in_t6 16 rfl rfl, nhX11, nvX11, by decide +kernel⟩, gw_in in_t6 14 rfl rfl, gw_in in_t6 15 rfl rfl⟩
set_option maxRecDepth 20000 in
theorem kX11_count : MV mX11_count 1 := ⟨⟨ini_RX11, gw_in in_t6 26 rfl rfl, nhX11, nvX11, by decide +kernel⟩, gw_in in_t6 24 rfl rfl, gw_in in_t6 25 rfl rfl⟩
set_option maxRecDepth 20000 in
theorem kX11_isYard : MS mX11_isYard 1 := ⟨⟨ini_RX11, gw_in in_t2 176 rfl rfl, nhX11, nvX11, by decide +kernel⟩, gw_in in_t2 175 rfl rfl⟩
set_option maxRecDepth 20000 in
theorem kX11_isHour : MS mX11_isHour 1 := ⟨⟨ini_RX11, gw_in in_t4 184 rfl rfl, nhX11, nvX11, by decide +kernel⟩, gw_in in_t4 183 rfl rfl⟩
set_option maxRecDepth 20000 in
theorem kX11_isSpan : MS mX11_isSpan 1 := ⟨⟨ini_RX11, gw_in in_t3 18 rfl rfl, nhX11, nvX11, by decide +kernel⟩, gw_in in_t3 17 rfl rfl⟩
set_option maxRecDepth 20000 in
theorem kX11_isOrder : MS mX11_isOrder 1 := ⟨⟨ini_RX11, gw_in in_t3 236 rfl rfl, nhX11, nvX11, by decide +kernel⟩, gw_in in_t3 235 rfl rfl⟩
set_option maxRecDepth 20000 in
theorem kX11_isThing : MS mX11_isThing 1 := ⟨⟨ini_RX11, gw_in in_t5 45 rfl rfl, nhX11, nvX11, by decide +kernel⟩, gw_in in_t5 44 rfl rfl⟩
set_option maxRecDepth 20000 in
theorem kX11_placeOf : MS mX11_placeOf 1 := ⟨⟨ini_RX11, gw_in in_t2 173 rfl rfl, nhX11, nvX11, by decide +kernel⟩, gw_in in_t2 172 rfl rfl⟩
set_option maxRecDepth 20000 in
theorem kX11_held : MS mX11_held 3 := ⟨⟨ini_RX11, gw_in in_t3 142 rfl rfl, nhX11, nvX11, by decide +kernel⟩, gw_in in_t3 141 rfl rfl⟩
set_option maxRecDepth 20000 in
theorem kX11_cutDown : MS mX11_cutDown 1 := ⟨⟨ini_RX11, gw_in in_t3 136 rfl rfl, nhX11, nvX11, by decide +kernel⟩, gw_in in_t3 135 rfl rfl⟩
set_option maxRecDepth 20000 in
theorem kX11_cutUp : MS mX11_cutUp 1 := ⟨⟨ini_RX11, gw_in in_t3 149 rfl rfl, nhX11, nvX11, by decide +kernel⟩, gw_in in_t3 148 rfl rfl⟩
set_option maxRecDepth 20000 in
theorem kX11_machineOf : MV mX11_machineOf 1 := ⟨⟨ini_RX11, gw_in in_t3 69 rfl rfl, nhX11, nvX11, by decide +kernel⟩, gw_in in_t3 68 rfl rfl, gw_of 0 (by decide +kernel) rfl⟩
set_option maxRecDepth 20000 in
theorem kX11_chartOf : MV mX11_chartOf 1 := ⟨⟨ini_RX11, gw_in in_t3 185 rfl rfl, nhX11, nvX11, by decide +kernel⟩, gw_in in_t3 184 rfl rfl, gw_of 4 (by decide +kernel) rfl⟩
set_option maxRecDepth 20000 in
theorem kX11_shelfOf : MV mX11_shelfOf 1 := ⟨⟨ini_RX11, gw_in in_t3 93 rfl rfl, nhX11, nvX11, by decide +kernel⟩, gw_in in_t3 92 rfl rfl, gw_of 1 (by decide +kernel) rfl⟩
set_option maxRecDepth 20000 in
theorem kX11_firstUnlike : MV mX11_firstUnlike 1 := ⟨⟨ini_RX11, gw_in in_t3 205 rfl rfl, nhX11, nvX11, by decide +kernel⟩, gw_in in_t3 204 rfl rfl, gw_of 5 (by decide +kernel) rfl⟩
set_option maxRecDepth 20000 in
theorem kX11_firstUnlikeYard : MV mX11_firstUnlikeYard 2 := ⟨⟨ini_RX11, gw_in in_t3 209 rfl rfl, nhX11, nvX11, by decide +kernel⟩, gw_in in_t3 208 rfl rfl, gw_of 6 (by decide +kernel) rfl⟩
set_option maxRecDepth 20000 in
theorem kX11_latestText : MV mX11_latestText 4 := ⟨⟨ini_RX11, gw_in in_t4 188 rfl rfl, nhX11, nvX11, by decide +kernel⟩, gw_in in_t4 187 rfl rfl, gw_of 22 (by decide +kernel) rfl⟩
set_option maxRecDepth 20000 in
theorem kX11_given : MV mX11_given 3 := ⟨⟨ini_RX11, gw_in in_t4 196 rfl rfl, nhX11, nvX11, by decide +kernel⟩, gw_in in_t4 195 rfl rfl, gw_of 23 (by decide +kernel) rfl⟩
set_option maxRecDepth 20000 in
theorem kX11_hourGoesBy : MV mX11_hourGoesBy 0 := ⟨⟨ini_RX11, gw_in in_t4 215 rfl rfl, nhX11, nvX11, by decide +kernel⟩, gw_in in_t4 214 rfl rfl, gw_of 24 (by decide +kernel) rfl⟩
set_option maxRecDepth 20000 in
theorem kX11_machinesWork : MV mX11_machinesWork 0 := ⟨⟨ini_RX11, gw_in in_t4 219 rfl rfl, nhX11, nvX11, by decide +kernel⟩, gw_in in_t4 218 rfl rfl, gw_of 25 (by decide +kernel) rfl⟩
set_option maxRecDepth 20000 in
theorem kX11_boreOn : MV mX11_boreOn 2 := ⟨⟨ini_RX11, gw_in in_t4 223 rfl rfl, nhX11, nvX11, by decide +kernel⟩, gw_in in_t4 222 rfl rfl, gw_of 26 (by decide +kernel) rfl⟩
set_option maxRecDepth 20000 in
theorem kX11_menEat : MV mX11_menEat 0 := ⟨⟨ini_RX11, gw_in in_t4 239 rfl rfl, nhX11, nvX11, by decide +kernel⟩, gw_in in_t4 238 rfl rfl, gw_of 28 (by decide +kernel) rfl⟩
set_option maxRecDepth 20000 in
theorem kX11_rockMoves : MV mX11_rockMoves 0 := ⟨⟨ini_RX11, gw_in in_t5 12 rfl rfl, nhX11, nvX11, by decide +kernel⟩, gw_in in_t5 11 rfl rfl, gw_of 29 (by decide +kernel) rfl⟩
set_option maxRecDepth 20000 in
theorem kX12_init : MI mX12_init 0 := ⟨⟨ini_RX12, gw_in in_t6 31 rfl rfl, nhX12, nvX12, by decide +kernel⟩, rfl, gw_in in_t6 30 rfl rfl, rfl⟩
set_option maxRecDepth 20000 in
theorem kX12_in : MS mX12_in 3 := ⟨⟨ini_RX12, gw_in in_t7 88 rfl rfl, nhX12, nvX12, by decide +kernel⟩, gw_in in_t7 87 rfl rfl⟩
set_option maxRecDepth 20000 in
theorem kX12_isHour : MS mX12_isHour 1 := ⟨⟨ini_RX12, gw_in in_t8 55 rfl rfl, nhX12, nvX12, by decide +kernel⟩, gw_in in_t8 54 rfl rfl⟩
set_option maxRecDepth 20000 in
theorem kX12_held : MS mX12_held 3 := ⟨⟨ini_RX12, gw_in in_t7 198 rfl rfl, nhX12, nvX12, by decide +kernel⟩, gw_in in_t7 197 rfl rfl⟩
set_option maxRecDepth 20000 in
theorem kX12_isCell : MS mX12_isCell 1 := ⟨⟨ini_RX12, gw_in in_t7 85 rfl rfl, nhX12, nvX12, by decide +kernel⟩, gw_in in_t7 84 rfl rfl⟩
set_option maxRecDepth 20000 in
theorem kX12_placeOf : MS mX12_placeOf 1 := ⟨⟨ini_RX12, gw_in in_t7 91 rfl rfl, nhX12, nvX12, by decide +kernel⟩, gw_in in_t7 90 rfl rfl⟩
set_option maxRecDepth 20000 in
theorem kX12_hard : MV mX12_hard 2 := ⟨⟨ini_RX12, gw_in in_t7 82 rfl rfl, nhX12, nvX12, by decide +kernel⟩, gw_in in_t7 80 rfl rfl, gw_in in_t7 81 rfl rfl⟩
set_option maxRecDepth 20000 in
theorem kX12_open : MV mX12_open 2 := ⟨⟨ini_RX12, gw_in in_t7 95 rfl rfl, nhX12, nvX12, by decide +kernel⟩, gw_in in_t7 93 rfl rfl, gw_in in_t7 94 rfl rfl⟩
set_option maxRecDepth 20000 in
theorem kX12_ofCell : MV mX12_ofCell 2 := ⟨⟨ini_RX12, gw_in in_t7 99 rfl rfl, nhX12, nvX12, by decide +kernel⟩, gw_in in_t7 97 rfl rfl, gw_in in_t7 98 rfl rfl⟩
set_option maxRecDepth 20000 in
theorem kX12_isBody : MV mX12_isBody 1 := ⟨⟨ini_RX12, gw_in in_t7 130 rfl rfl, nhX12, nvX12, by decide +kernel⟩, gw_in in_t7 129 rfl rfl, gw_of 41 (by decide +kernel) rfl⟩
set_option maxRecDepth 20000 in
theorem kX12_isUnder : MS mX12_isUnder 2 := ⟨⟨ini_RX12, gw_in in_t7 138 rfl rfl, nhX12, nvX12, by decide +kernel⟩, gw_in in_t7 137 rfl rfl⟩
set_option maxRecDepth 20000 in
theorem kX12_isHole : MV mX12_isHole 1 := ⟨⟨ini_RX12, gw_in in_t7 135 rfl rfl, nhX12, nvX12, by decide +kernel⟩, gw_in in_t7 134 rfl rfl, gw_of 42 (by decide +kernel) rfl⟩
set_option maxRecDepth 20000 in
theorem kX12_isMan : MV mX12_isMan 1 := ⟨⟨ini_RX12, gw_in in_t7 146 rfl rfl, nhX12, nvX12, by decide +kernel⟩, gw_in in_t7 145 rfl rfl, gw_of 43 (by decide +kernel) rfl⟩
set_option maxRecDepth 20000 in
theorem kX12_add : MV mX12_add 1 := ⟨⟨ini_RX12, gw_in in_t7 107 rfl rfl, nhX12, nvX12, by decide +kernel⟩, gw_in in_t7 106 rfl rfl, gw_of 40 (by decide +kernel) rfl⟩
set_option maxRecDepth 20000 in
theorem kX12_body : MV mX12_body 1 := ⟨⟨ini_RX12, gw_in in_t7 103 rfl rfl, nhX12, nvX12, by decide +kernel⟩, gw_in in_t7 101 rfl rfl, gw_in in_t7 102 rfl rfl⟩
set_option maxRecDepth 20000 in
theorem kX12_hole : MV mX12_hole 2 := ⟨⟨ini_RX12, gw_in in_t7 111 rfl rfl, nhX12, nvX12, by decide +kernel⟩, gw_in in_t7 109 rfl rfl, gw_in in_t7 110 rfl rfl⟩
set_option maxRecDepth 20000 in
theorem kX12_isSpan : MS mX12_isSpan 1 := ⟨⟨ini_RX12, gw_in in_t7 118 rfl rfl, nhX12, nvX12, by decide +kernel⟩, gw_in in_t7 117 rfl rfl⟩
set_option maxRecDepth 20000 in
theorem kX12_shelter : MV mX12_shelter 2 := ⟨⟨ini_RX12, gw_in in_t7 115 rfl rfl, nhX12, nvX12, by decide +kernel⟩, gw_in in_t7 113 rfl rfl, gw_in in_t7 114 rfl rfl⟩
set_option maxRecDepth 20000 in
theorem kX12_man : MV mX12_man 2 := ⟨⟨ini_RX12, gw_in in_t7 122 rfl rfl, nhX12, nvX12, by decide +kernel⟩, gw_in in_t7 120 rfl rfl, gw_in in_t7 121 rfl rfl⟩
set_option maxRecDepth 20000 in
theorem kX12_ofBody : MV mX12_ofBody 2 := ⟨⟨ini_RX12, gw_in in_t7 126 rfl rfl, nhX12, nvX12, by decide +kernel⟩, gw_in in_t7 124 rfl rfl, gw_in in_t7 125 rfl rfl⟩
set_option maxRecDepth 20000 in
theorem kX12_ill : MV mX12_ill 2 := ⟨⟨ini_RX12, gw_in in_t7 142 rfl rfl, nhX12, nvX12, by decide +kernel⟩, gw_in in_t7 140 rfl rfl, gw_in in_t7 141 rfl rfl⟩
set_option maxRecDepth 20000 in
theorem kX12_menBelow : MV mX12_menBelow 0 := ⟨⟨ini_RX12, gw_in in_t8 75 rfl rfl, nhX12, nvX12, by decide +kernel⟩, gw_in in_t8 74 rfl rfl, gw_of 64 (by decide +kernel) rfl⟩
set_option maxRecDepth 20000 in
theorem kX12_isMachine : MS mX12_isMachine 1 := ⟨⟨ini_RX12, gw_in in_t7 153 rfl rfl, nhX12, nvX12, by decide +kernel⟩, gw_in in_t7 152 rfl rfl⟩
set_option maxRecDepth 20000 in
theorem kX12_speed : MV mX12_speed 2 := ⟨⟨ini_RX12, gw_in in_t7 150 rfl rfl, nhX12, nvX12, by decide +kernel⟩, gw_in in_t7 148 rfl rfl, gw_in in_t7 149 rfl rfl⟩
set_option maxRecDepth 20000 in
theorem kX12_set : MV mX12_set 2 := ⟨⟨ini_RX12, gw_in in_t7 157 rfl rfl, nhX12, nvX12, by decide +kernel⟩, gw_in in_t7 155 rfl rfl, gw_in in_t7 156 rfl rfl⟩
set_option maxRecDepth 20000 in
theorem kX12_breaks : MV mX12_breaks 2 := ⟨⟨ini_RX12, gw_in in_t7 161 rfl rfl, nhX12, nvX12, by decide +kernel⟩, gw_in in_t7 159 rfl rfl, gw_in in_t7 160 rfl rfl⟩
set_option maxRecDepth 20000 in
theorem kX12_yard : MV mX12_yard 2 := ⟨⟨ini_RX12, gw_in in_t7 165 rfl rfl, nhX12, nvX12, by decide +kernel⟩, gw_in in_t7 163 rfl rfl, gw_in in_t7 164 rfl rfl⟩
set_option maxRecDepth 20000 in
theorem kX12_met : MV mX12_met 2 := ⟨⟨ini_RX12, gw_in in_t7 169 rfl rfl, nhX12, nvX12, by decide +kernel⟩, gw_in in_t7 167 rfl rfl, gw_in in_t7 168 rfl rfl⟩
set_option maxRecDepth 20000 in
theorem kX12_firstThrough : MV mX12_firstThrough 0 := ⟨⟨ini_RX12, gw_in in_t8 63 rfl rfl, nhX12, nvX12, by decide +kernel⟩, gw_in in_t8 62 rfl rfl, gw_of 62 (by decide +kernel) rfl⟩
set_option maxRecDepth 20000 in
theorem kX12_bore : MV mX12_bore 2 := ⟨⟨ini_RX12, gw_in in_t8 106 rfl rfl, nhX12, nvX12, by decide +kernel⟩, gw_in in_t8 105 rfl rfl, gw_of 68 (by decide +kernel) rfl⟩
set_option maxRecDepth 20000 in
theorem kX12_spread : MV mX12_spread 1 := ⟨⟨ini_RX12, gw_in in_t7 173 rfl rfl, nhX12, nvX12, by decide +kernel⟩, gw_in in_t7 171 rfl rfl, gw_in in_t7 172 rfl rfl⟩
set_option maxRecDepth 20000 in
theorem kX12_log : MV mX12_log 5 := ⟨⟨ini_RX12, gw_in in_t7 177 rfl rfl, nhX12, nvX12, by decide +kernel⟩, gw_in in_t7 175 rfl rfl, gw_in in_t7 176 rfl rfl⟩
set_option maxRecDepth 20000 in
theorem kX12_down4 : MS mX12_down4 1 := ⟨⟨ini_RX12, gw_in in_t7 195 rfl rfl, nhX12, nvX12, by decide +kernel⟩, gw_in in_t7 194 rfl rfl⟩
set_option maxRecDepth 20000 in
theorem kX12_canBeAt : MV mX12_canBeAt 3 := ⟨⟨ini_RX12, gw_in in_t7 192 rfl rfl, nhX12, nvX12, by decide +kernel⟩, gw_in in_t7 191 rfl rfl, gw_of 45 (by decide +kernel) rfl⟩
set_option maxRecDepth 20000 in
theorem kX12_canBe : MV mX12_canBe 3 := ⟨⟨ini_RX12, gw_in in_t7 188 rfl rfl, nhX12, nvX12, by decide +kernel⟩, gw_in in_t7 186 rfl rfl, gw_in in_t7 187 rfl rfl⟩
set_option maxRecDepth 20000 in
theorem kX12_map : MV mX12_map 2 := ⟨⟨ini_RX12, gw_in in_t7 202 rfl rfl, nhX12, nvX12, by decide +kernel⟩, gw_in in_t7 200 rfl rfl, gw_in in_t7 201 rfl rfl⟩
set_option maxRecDepth 20000 in
theorem kX12_isOldBy : MV mX12_isOldBy 2 := ⟨⟨ini_RX12, gw_in in_t7 210 rfl rfl, nhX12, nvX12, by decide +kernel⟩, gw_in in_t7 209 rfl rfl, gw_of 46 (by decide +kernel) rfl⟩
set_option maxRecDepth 20000 in
theorem kX12_old : MV mX12_old 2 := ⟨⟨ini_RX12, gw_in in_t7 206 rfl rfl, nhX12, nvX12, by decide +kernel⟩, gw_in in_t7 204 rfl rfl, gw_in in_t7 205 rfl rfl⟩
set_option maxRecDepth 20000 in
theorem kX12_isShelterBy : MV mX12_isShelterBy 3 := ⟨⟨ini_RX12, gw_in in_t7 226 rfl rfl, nhX12, nvX12, by decide +kernel⟩, gw_in in_t7 225 rfl rfl, gw_of 49 (by decide +kernel) rfl⟩
set_option maxRecDepth 20000 in
theorem kX12_isUnlike : MV mX12_isUnlike 3 := ⟨⟨ini_RX12, gw_in in_t7 222 rfl rfl, nhX12, nvX12, by decide +kernel⟩, gw_in in_t7 221 rfl rfl, gw_of 48 (by decide +kernel) rfl⟩
set_option maxRecDepth 20000 in
theorem kX12_wrongBy : MV mX12_wrongBy 1 := ⟨⟨ini_RX12, gw_in in_t7 218 rfl rfl, nhX12, nvX12, by decide +kernel⟩, gw_in in_t7 217 rfl rfl, gw_of 47 (by decide +kernel) rfl⟩
set_option maxRecDepth 20000 in
theorem kX12_wrong : MV mX12_wrong 1 := ⟨⟨ini_RX12, gw_in in_t7 214 rfl rfl, nhX12, nvX12, by decide +kernel⟩, gw_in in_t7 212 rfl rfl, gw_in in_t7 213 rfl rfl⟩
set_option maxRecDepth 20000 in
theorem kX12_known : MV mX12_known 1 := ⟨⟨ini_RX12, gw_in in_t7 230 rfl rfl, nhX12, nvX12, by decide +kernel⟩, gw_in in_t7 228 rfl rfl, gw_in in_t7 229 rfl rfl⟩
set_option maxRecDepth 20000 in
theorem kX12_feed : MV mX12_feed 2 := ⟨⟨ini_RX12, gw_in in_t7 234 rfl rfl, nhX12, nvX12, by decide +kernel⟩, gw_in in_t7 232 rfl rfl, gw_in in_t7 233 rfl rfl⟩
set_option maxRecDepth 20000 in
theorem kX12_look : MV mX12_look 0 := ⟨⟨ini_RX12, gw_in in_t8 33 rfl rfl, nhX12, nvX12, by decide +kernel⟩, gw_in in_t8 32 rfl rfl, gw_of 57 (by decide +kernel) rfl⟩
set_option maxRecDepth 20000 in
theorem kX12_faultHere : MV mX12_faultHere 0 := ⟨⟨ini_RX12, gw_in in_t8 48 rfl rfl, nhX12, nvX12, by decide +kernel⟩, gw_in in_t8 47 rfl rfl, gw_of 60 (by decide +kernel) rfl⟩
set_option maxRecDepth 20000 in
theorem kX12_lay : MV mX12_lay 2 := ⟨⟨ini_RX12, gw_in in_t8 40 rfl rfl, nhX12, nvX12, by decide +kernel⟩, gw_in in_t8 39 rfl rfl, gw_of 58 (by decide +kernel) rfl⟩
set_option maxRecDepth 20000 in
theorem kX12_opens : MV mX12_opens 0 := ⟨⟨ini_RX12, gw_in in_t8 44 rfl rfl, nhX12, nvX12, by decide +kernel⟩, gw_in in_t8 43 rfl rfl, gw_of 59 (by decide +kernel) rfl⟩
set_option maxRecDepth 20000 in
theorem kX12_nameOf : MS mX12_nameOf 1 := ⟨⟨ini_RX12, gw_in in_t8 36 rfl rfl, nhX12, nvX12, by decide +kernel⟩, gw_in in_t8 35 rfl rfl⟩
set_option maxRecDepth 20000 in
theorem kX12_operand : MV mX12_operand 0 := ⟨⟨ini_RX12, gw_in in_t8 29 rfl rfl, nhX12, nvX12, by decide +kernel⟩, gw_in in_t8 28 rfl rfl, gw_of 56 (by decide +kernel) rfl⟩
set_option maxRecDepth 20000 in
theorem kX12_product : MV mX12_product 0 := ⟨⟨ini_RX12, gw_in in_t8 25 rfl rfl, nhX12, nvX12, by decide +kernel⟩, gw_in in_t8 24 rfl rfl, gw_of 55 (by decide +kernel) rfl⟩
set_option maxRecDepth 20000 in
theorem kX12_sum : MV mX12_sum 0 := ⟨⟨ini_RX12, gw_in in_t8 21 rfl rfl, nhX12, nvX12, by decide +kernel⟩, gw_in in_t8 20 rfl rfl, gw_of 54 (by decide +kernel) rfl⟩
set_option maxRecDepth 20000 in
theorem kX12_compared : MV mX12_compared 0 := ⟨⟨ini_RX12, gw_in in_t8 17 rfl rfl, nhX12, nvX12, by decide +kernel⟩, gw_in in_t8 16 rfl rfl, gw_of 53 (by decide +kernel) rfl⟩
set_option maxRecDepth 20000 in
theorem kX12_all : MV mX12_all 0 := ⟨⟨ini_RX12, gw_in in_t8 13 rfl rfl, nhX12, nvX12, by decide +kernel⟩, gw_in in_t8 12 rfl rfl, gw_of 52 (by decide +kernel) rfl⟩
set_option maxRecDepth 20000 in
theorem kX12_either : MV mX12_either 0 := ⟨⟨ini_RX12, gw_in in_t8 9 rfl rfl, nhX12, nvX12, by decide +kernel⟩, gw_in in_t8 8 rfl rfl, gw_of 51 (by decide +kernel) rfl⟩
set_option maxRecDepth 20000 in
theorem kX12_readLine : MV mX12_readLine 0 := ⟨⟨ini_RX12, gw_in in_t8 5 rfl rfl, nhX12, nvX12, by decide +kernel⟩, gw_in in_t8 4 rfl rfl, gw_of 50 (by decide +kernel) rfl⟩
set_option maxRecDepth 20000 in
theorem kX12_isWhat : MS mX12_isWhat 1 := ⟨⟨ini_RX12, gw_in in_t8 1 rfl rfl, nhX12, nvX12, by decide +kernel⟩, gw_in in_t8 0 rfl rfl⟩
set_option maxRecDepth 20000 in
theorem kX12_text : MV mX12_text 2 := ⟨⟨ini_RX12, gw_in in_t7 238 rfl rfl, nhX12, nvX12, by decide +kernel⟩, gw_in in_t7 236 rfl rfl, gw_in in_t7 237 rfl rfl⟩
set_option maxRecDepth 20000 in
theorem kX12_forceOf : MV mX12_forceOf 3 := ⟨⟨ini_RX12, gw_in in_t8 59 rfl rfl, nhX12, nvX12, by decide +kernel⟩, gw_in in_t8 58 rfl rfl, gw_of 61 (by decide +kernel) rfl⟩
set_option maxRecDepth 20000 in
theorem kX12_inForce : MV mX12_inForce 3 := ⟨⟨ini_RX12, gw_in in_t8 52 rfl rfl, nhX12, nvX12, by decide +kernel⟩, gw_in in_t8 50 rfl rfl, gw_in in_t8 51 rfl rfl⟩
set_option maxRecDepth 20000 in
theorem kX12_both : MS mX12_both 3 := ⟨⟨ini_RX12, gw_in in_t8 86 rfl rfl, nhX12, nvX12, by decide +kernel⟩, gw_in in_t8 85 rfl rfl⟩
set_option maxRecDepth 20000 in
theorem kX12_worked : MV mX12_worked 3 := ⟨⟨ini_RX12, gw_in in_t8 83 rfl rfl, nhX12, nvX12, by decide +kernel⟩, gw_in in_t8 82 rfl rfl, gw_of 66 (by decide +kernel) rfl⟩
set_option maxRecDepth 20000 in
theorem kX12_gives : MV mX12_gives 1 := ⟨⟨ini_RX12, gw_in in_t8 79 rfl rfl, nhX12, nvX12, by decide +kernel⟩, gw_in in_t8 78 rfl rfl, gw_of 65 (by decide +kernel) rfl⟩
set_option maxRecDepth 20000 in
theorem kX12_saysNow : MV mX12_saysNow 3 := ⟨⟨ini_RX12, gw_in in_t8 71 rfl rfl, nhX12, nvX12, by decide +kernel⟩, gw_in in_t8 70 rfl rfl, gw_of 63 (by decide +kernel) rfl⟩
set_option maxRecDepth 20000 in
theorem kX12_says : MV mX12_says 2 := ⟨⟨ini_RX12, gw_in in_t8 67 rfl rfl, nhX12, nvX12, by decide +kernel⟩, gw_in in_t8 65 rfl rfl, gw_in in_t8 66 rfl rfl⟩
set_option maxRecDepth 20000 in
theorem kX12_move : MV mX12_move 2 := ⟨⟨ini_RX12, gw_in in_t8 90 rfl rfl, nhX12, nvX12, by decide +kernel⟩, gw_in in_t8 88 rfl rfl, gw_in in_t8 89 rfl rfl⟩
set_option maxRecDepth 20000 in
theorem kX12_spoons : MV mX12_spoons 1 := ⟨⟨ini_RX12, gw_in in_t8 94 rfl rfl, nhX12, nvX12, by decide +kernel⟩, gw_in in_t8 92 rfl rfl, gw_in in_t8 93 rfl rfl⟩
set_option maxRecDepth 20000 in
theorem kX12_drill : MV mX12_drill 0 := ⟨⟨ini_RX12, gw_in in_t8 102 rfl rfl, nhX12, nvX12, by decide +kernel⟩, gw_in in_t8 101 rfl rfl, gw_of 67 (by decide +kernel) rfl⟩
set_option maxRecDepth 20000 in
theorem kX12_eat : MV mX12_eat 0 := ⟨⟨ini_RX12, gw_in in_t8 114 rfl rfl, nhX12, nvX12, by decide +kernel⟩, gw_in in_t8 113 rfl rfl, gw_of 70 (by decide +kernel) rfl⟩
set_option maxRecDepth 20000 in
theorem kX12_hours : MV mX12_hours 1 := ⟨⟨ini_RX12, gw_in in_t8 98 rfl rfl, nhX12, nvX12, by decide +kernel⟩, gw_in in_t8 96 rfl rfl, gw_in in_t8 97 rfl rfl⟩
set_option maxRecDepth 20000 in
theorem kX12_lastsBy : MV mX12_lastsBy 2 := ⟨⟨ini_RX12, gw_in in_t8 122 rfl rfl, nhX12, nvX12, by decide +kernel⟩, gw_in in_t8 121 rfl rfl, gw_of 71 (by decide +kernel) rfl⟩
set_option maxRecDepth 20000 in
theorem kX12_last : MV mX12_last 2 := ⟨⟨ini_RX12, gw_in in_t8 118 rfl rfl, nhX12, nvX12, by decide +kernel⟩, gw_in in_t8 116 rfl rfl, gw_in in_t8 117 rfl rfl⟩
set_option maxRecDepth 20000 in
theorem kX12_best : MV mX12_best 1 := ⟨⟨ini_RX12, gw_in in_t8 126 rfl rfl, nhX12, nvX12, by decide +kernel⟩, gw_in in_t8 124 rfl rfl, gw_in in_t8 125 rfl rfl⟩
set_option maxRecDepth 20000 in
theorem kX12_down : MV mX12_down 3 := ⟨⟨ini_RX12, gw_in in_t8 130 rfl rfl, nhX12, nvX12, by decide +kernel⟩, gw_in in_t8 128 rfl rfl, gw_in in_t8 129 rfl rfl⟩
set_option maxRecDepth 20000 in
theorem kX12_comeDown : MV mX12_comeDown 0 := ⟨⟨ini_RX12, gw_in in_t8 110 rfl rfl, nhX12, nvX12, by decide +kernel⟩, gw_in in_t8 109 rfl rfl, gw_of 69 (by decide +kernel) rfl⟩
set_option maxRecDepth 20000 in
theorem kX12_below : MV mX12_below 1 := ⟨⟨ini_RX12, gw_in in_t8 134 rfl rfl, nhX12, nvX12, by decide +kernel⟩, gw_in in_t8 132 rfl rfl, gw_in in_t8 133 rfl rfl⟩
set_option maxRecDepth 20000 in
theorem kX12_need : MV mX12_need 2 := ⟨⟨ini_RX12, gw_in in_t8 138 rfl rfl, nhX12, nvX12, by decide +kernel⟩, gw_in in_t8 136 rfl rfl, gw_in in_t8 137 rfl rfl⟩
set_option maxRecDepth 20000 in
theorem kX12_costNext : MV mX12_costNext 2 := ⟨⟨ini_RX12, gw_in in_t8 147 rfl rfl, nhX12, nvX12, by decide +kernel⟩, gw_in in_t8 146 rfl rfl, gw_of 72 (by decide +kernel) rfl⟩
set_option maxRecDepth 20000 in
theorem kX12_order : MV mX12_order 0 := ⟨⟨ini_RX12, gw_in in_t8 142 rfl rfl, nhX12, nvX12, by decide +kernel⟩, gw_in in_t8 140 rfl rfl, gw_in in_t8 141 rfl rfl⟩
set_option maxRecDepth 20000 in
theorem kX12_ordered : MV mX12_ordered 1 := ⟨⟨ini_RX12, gw_in in_t8 151 rfl rfl, nhX12, nvX12, by decide +kernel⟩, gw_in in_t8 149 rfl rfl, gw_in in_t8 150 rfl rfl⟩
set_option maxRecDepth 20000 in
theorem kX12_watch : MV mX12_watch 2 := ⟨⟨ini_RX12, gw_in in_t8 155 rfl rfl, nhX12, nvX12, by decide +kernel⟩, gw_in in_t8 153 rfl rfl, gw_in in_t8 154 rfl rfl⟩
set_option maxRecDepth 20000 in
theorem kX12_watched : MV mX12_watched 2 := ⟨⟨ini_RX12, gw_in in_t8 159 rfl rfl, nhX12, nvX12, by decide +kernel⟩, gw_in in_t8 157 rfl rfl, gw_in in_t8 158 rfl rfl⟩
set_option maxRecDepth 20000 in
theorem kX12_aim : MV mX12_aim 2 := ⟨⟨ini_RX12, gw_in in_t8 163 rfl rfl, nhX12, nvX12, by decide +kernel⟩, gw_in in_t8 161 rfl rfl, gw_in in_t8 162 rfl rfl⟩
set_option maxRecDepth 20000 in
theorem kX12_rock : MV mX12_rock 3 := ⟨⟨ini_RX12, gw_in in_t8 167 rfl rfl, nhX12, nvX12, by decide +kernel⟩, gw_in in_t8 165 rfl rfl, gw_in in_t8 166 rfl rfl⟩
set_option maxRecDepth 20000 in
theorem kX12_minutesAt : MV mX12_minutesAt 4 := ⟨⟨ini_RX12, gw_in in_t8 175 rfl rfl, nhX12, nvX12, by decide +kernel⟩, gw_in in_t8 174 rfl rfl, gw_of 73 (by decide +kernel) rfl⟩
set_option maxRecDepth 20000 in
theorem kX12_aimed : MV mX12_aimed 3 := ⟨⟨ini_RX12, gw_in in_t8 171 rfl rfl, nhX12, nvX12, by decide +kernel⟩, gw_in in_t8 169 rfl rfl, gw_in in_t8 170 rfl rfl⟩
set_option maxRecDepth 20000 in
theorem kX12_aimedAt : MV mX12_aimedAt 2 := ⟨⟨ini_RX12, gw_in in_t8 179 rfl rfl, nhX12, nvX12, by decide +kernel⟩, gw_in in_t8 177 rfl rfl, gw_in in_t8 178 rfl rfl⟩
set_option maxRecDepth 20000 in
theorem kX12_race : MV mX12_race 3 := ⟨⟨ini_RX12, gw_in in_t8 183 rfl rfl, nhX12, nvX12, by decide +kernel⟩, gw_in in_t8 181 rfl rfl, gw_in in_t8 182 rfl rfl⟩
set_option maxRecDepth 20000 in
theorem kX12_capsule : MV mX12_capsule 1 := ⟨⟨ini_RX12, gw_in in_t8 187 rfl rfl, nhX12, nvX12, by decide +kernel⟩, gw_in in_t8 185 rfl rfl, gw_in in_t8 186 rfl rfl⟩
set_option maxRecDepth 20000 in
theorem kX12_up : MV mX12_up 2 := ⟨⟨ini_RX12, gw_in in_t8 191 rfl rfl, nhX12, nvX12, by decide +kernel⟩, gw_in in_t8 189 rfl rfl, gw_in in_t8 190 rfl rfl⟩
set_option maxRecDepth 20000 in
theorem kX12_raise : MV mX12_raise 1 := ⟨⟨ini_RX12, gw_in in_t8 195 rfl rfl, nhX12, nvX12, by decide +kernel⟩, gw_in in_t8 193 rfl rfl, gw_in in_t8 194 rfl rfl⟩
set_option maxRecDepth 20000 in
theorem kX12_ran : MV mX12_ran 1 := ⟨⟨ini_RX12, gw_in in_t8 207 rfl rfl, nhX12, nvX12, by decide +kernel⟩, gw_in in_t8 206 rfl rfl, gw_of 75 (by decide +kernel) rfl⟩
set_option maxRecDepth 20000 in
theorem kX12_plainBores : MV mX12_plainBores 2 := ⟨⟨ini_RX12, gw_in in_t8 219 rfl rfl, nhX12, nvX12, by decide +kernel⟩, gw_in in_t8 218 rfl rfl, gw_of 78 (by decide +kernel) rfl⟩
set_option maxRecDepth 20000 in
theorem kX12_wayBores : MV mX12_wayBores 2 := ⟨⟨ini_RX12, gw_in in_t8 215 rfl rfl, nhX12, nvX12, by decide +kernel⟩, gw_in in_t8 214 rfl rfl, gw_of 77 (by decide +kernel) rfl⟩
set_option maxRecDepth 20000 in
theorem kX12_shaftBores : MV mX12_shaftBores 2 := ⟨⟨ini_RX12, gw_in in_t8 211 rfl rfl, nhX12, nvX12, by decide +kernel⟩, gw_in in_t8 210 rfl rfl, gw_of 76 (by decide +kernel) rfl⟩
set_option maxRecDepth 20000 in
theorem kX12_bores : MV mX12_bores 2 := ⟨⟨ini_RX12, gw_in in_t8 203 rfl rfl, nhX12, nvX12, by decide +kernel⟩, gw_in in_t8 202 rfl rfl, gw_of 74 (by decide +kernel) rfl⟩
set_option maxRecDepth 20000 in
theorem kX12_plainCarries : MV mX12_plainCarries 2 := ⟨⟨ini_RX12, gw_in in_t8 227 rfl rfl, nhX12, nvX12, by decide +kernel⟩, gw_in in_t8 226 rfl rfl, gw_of 80 (by decide +kernel) rfl⟩
set_option maxRecDepth 20000 in
theorem kX12_carries : MV mX12_carries 2 := ⟨⟨ini_RX12, gw_in in_t8 223 rfl rfl, nhX12, nvX12, by decide +kernel⟩, gw_in in_t8 222 rfl rfl, gw_of 79 (by decide +kernel) rfl⟩
set_option maxRecDepth 20000 in
theorem kX12_plainHolds : MV mX12_plainHolds 2 := ⟨⟨ini_RX12, gw_in in_t8 235 rfl rfl, nhX12, nvX12, by decide +kernel⟩, gw_in in_t8 234 rfl rfl, gw_of 82 (by decide +kernel) rfl⟩
set_option maxRecDepth 20000 in
theorem kX12_holdsBy : MV mX12_holdsBy 2 := ⟨⟨ini_RX12, gw_in in_t8 231 rfl rfl, nhX12, nvX12, by decide +kernel⟩, gw_in in_t8 230 rfl rfl, gw_of 81 (by decide +kernel) rfl⟩
set_option maxRecDepth 20000 in
theorem kX12_plainTells : MV mX12_plainTells 2 := ⟨⟨ini_RX12, gw_in in_t9 3 rfl rfl, nhX12, nvX12, by decide +kernel⟩, gw_in in_t9 2 rfl rfl, gw_of 84 (by decide +kernel) rfl⟩
set_option maxRecDepth 20000 in
theorem kX12_tells : MV mX12_tells 2 := ⟨⟨ini_RX12, gw_in in_t8 239 rfl rfl, nhX12, nvX12, by decide +kernel⟩, gw_in in_t8 238 rfl rfl, gw_of 83 (by decide +kernel) rfl⟩
set_option maxRecDepth 20000 in
theorem kX12_act : MV mX12_act 3 := ⟨⟨ini_RX12, gw_in in_t8 199 rfl rfl, nhX12, nvX12, by decide +kernel⟩, gw_in in_t8 197 rfl rfl, gw_in in_t8 198 rfl rfl⟩
set_option maxRecDepth 20000 in
theorem kX12_trace : MV mX12_trace 1 := ⟨⟨ini_RX12, gw_in in_t9 7 rfl rfl, nhX12, nvX12, by decide +kernel⟩, gw_in in_t9 5 rfl rfl, gw_in in_t9 6 rfl rfl⟩
set_option maxRecDepth 20000 in
theorem kX12_count : MV mX12_count 1 := ⟨⟨ini_RX12, gw_in in_t9 11 rfl rfl, nhX12, nvX12, by decide +kernel⟩, gw_in in_t9 9 rfl rfl, gw_in in_t9 10 rfl rfl⟩
set_option maxRecDepth 20000 in
theorem kX12_isShelf : MS mX12_isShelf 1 := ⟨⟨ini_RX12, gw_in in_t7 180 rfl rfl, nhX12, nvX12, by decide +kernel⟩, gw_in in_t7 179 rfl rfl⟩
set_option maxRecDepth 20000 in
theorem kX12_isReals : MV mX12_isReals 1 := ⟨⟨ini_RX12, gw_in in_t7 184 rfl rfl, nhX12, nvX12, by decide +kernel⟩, gw_in in_t7 183 rfl rfl, gw_of 44 (by decide +kernel) rfl⟩
set_option maxRecDepth 20000 in
theorem kX12_keep : MV mX12_keep 2 := ⟨⟨ini_RX12, gw_in in_t9 15 rfl rfl, nhX12, nvX12, by decide +kernel⟩, gw_in in_t9 13 rfl rfl, gw_in in_t9 14 rfl rfl⟩
set_option maxRecDepth 20000 in
theorem kX12_row : MV mX12_row 3 := ⟨⟨ini_RX12, gw_in in_t9 19 rfl rfl, nhX12, nvX12, by decide +kernel⟩, gw_in in_t9 17 rfl rfl, gw_in in_t9 18 rfl rfl⟩
set_option maxRecDepth 20000 in
theorem kX12_whyNoPlace : MV mX12_whyNoPlace 2 := ⟨⟨ini_RX12, gw_in in_t9 29 rfl rfl, nhX12, nvX12, by decide +kernel⟩, gw_in in_t9 28 rfl rfl, gw_of 85 (by decide +kernel) rfl⟩
set_option maxRecDepth 20000 in
theorem kX12_put : MV mX12_put 3 := ⟨⟨ini_RX12, gw_in in_t9 23 rfl rfl, nhX12, nvX12, by decide +kernel⟩, gw_in in_t9 21 rfl rfl, gw_in in_t9 22 rfl rfl⟩
set_option maxRecDepth 20000 in
theorem kX12_blank : MV mX12_blank 2 := ⟨⟨ini_RX12, gw_in in_t9 34 rfl rfl, nhX12, nvX12, by decide +kernel⟩, gw_in in_t9 32 rfl rfl, gw_in in_t9 33 rfl rfl⟩
set_option maxRecDepth 20000 in
theorem kX12_element : MV mX12_element 2 := ⟨⟨ini_RX12, gw_in in_t9 38 rfl rfl, nhX12, nvX12, by decide +kernel⟩, gw_in in_t9 36 rfl rfl, gw_in in_t9 37 rfl rfl⟩
set_option maxRecDepth 20000 in
theorem kX12_shift : MV mX12_shift 5 := ⟨⟨ini_RX12, gw_in in_t9 44 rfl rfl, nhX12, nvX12, by decide +kernel⟩, gw_in in_t9 42 rfl rfl, gw_in in_t9 43 rfl rfl⟩
set_option maxRecDepth 20000 in
theorem kX12_taken : MV mX12_taken 2 := ⟨⟨ini_RX12, gw_in in_t9 48 rfl rfl, nhX12, nvX12, by decide +kernel⟩, gw_in in_t9 46 rfl rfl, gw_in in_t9 47 rfl rfl⟩
set_option maxRecDepth 20000 in
theorem kJ11_isValidCodePoint_9a6ad : MS mJ11_isValidCodePoint_9a6ad 1 := ⟨⟨ini_RJ11, gw_in in_t4 118 rfl rfl, nhJ11, nvJ11, by decide +kernel⟩, gw_in in_t4 117 rfl rfl⟩
set_option maxRecDepth 20000 in
theorem kJ11_highSurrogate_5068e : MS mJ11_highSurrogate_5068e 1 := ⟨⟨ini_RJ11, gw_in in_t4 121 rfl rfl, nhJ11, nvJ11, by decide +kernel⟩, gw_in in_t4 120 rfl rfl⟩
set_option maxRecDepth 20000 in
theorem kJ11_lowSurrogate_5068e : MS mJ11_lowSurrogate_5068e 1 := ⟨⟨ini_RJ11, gw_in in_t4 125 rfl rfl, nhJ11, nvJ11, by decide +kernel⟩, gw_in in_t4 124 rfl rfl⟩
set_option maxRecDepth 20000 in
theorem kJ9_floorDiv_7cf53 : MS mJ9_floorDiv_7cf53 2 := ⟨⟨ini_RJ9, gw_in in_t3 139 rfl rfl, nhJ9, nvJ9, by decide +kernel⟩, gw_in in_t3 138 rfl rfl⟩
set_option maxRecDepth 20000 in
theorem kJ9_max_7cf53 : MS mJ9_max_7cf53 2 := ⟨⟨ini_RJ9, gw_in in_t3 112 rfl rfl, nhJ9, nvJ9, by decide +kernel⟩, gw_in in_t3 111 rfl rfl⟩
set_option maxRecDepth 20000 in
theorem kJ9_min_7cf53 : MS mJ9_min_7cf53 2 := ⟨⟨ini_RJ9, gw_in in_t3 145 rfl rfl, nhJ9, nvJ9, by decide +kernel⟩, gw_in in_t3 144 rfl rfl⟩
set_option maxRecDepth 20000 in
theorem kJ0_length_8abf5 : MV mJ0_length_8abf5 0 := ⟨⟨ini_RJ0, gw_in in_t1 223 rfl rfl, nhJ0, nvJ0, by decide +kernel⟩, gw_in in_t1 221 rfl rfl, gw_in in_t1 222 rfl rfl⟩
set_option maxRecDepth 20000 in
theorem kJ0_indexOf_0f7a4 : MV mJ0_indexOf_0f7a4 1 := ⟨⟨ini_RJ0, gw_in in_t4 57 rfl rfl, nhJ0, nvJ0, by decide +kernel⟩, gw_in in_t4 55 rfl rfl, gw_in in_t4 56 rfl rfl⟩
set_option maxRecDepth 20000 in
theorem kJ0_indexOf_7cf53 : MV mJ0_indexOf_7cf53 2 := ⟨⟨ini_RJ0, gw_in in_t4 61 rfl rfl, nhJ0, nvJ0, by decide +kernel⟩, gw_in in_t4 59 rfl rfl, gw_in in_t4 60 rfl rfl⟩
set_option maxRecDepth 20000 in
theorem kJ0_coder_7d493 : MV mJ0_coder_7d493 0 := ⟨⟨ini_RJ0, gw_in in_t1 227 rfl rfl, nhJ0, nvJ0, by decide +kernel⟩, gw_in in_t1 225 rfl rfl, gw_in in_t1 226 rfl rfl⟩
set_option maxRecDepth 20000 in
theorem kJ0_isLatin1_aae02 : MV mJ0_isLatin1_aae02 0 := ⟨⟨ini_RJ0, gw_in in_t4 65 rfl rfl, nhJ0, nvJ0, by decide +kernel⟩, gw_in in_t4 63 rfl rfl, gw_in in_t4 64 rfl rfl⟩
set_option maxRecDepth 20000 in
theorem kJ0_checkBoundsBeginEnd_23922 : MS mJ0_checkBoundsBeginEnd_23922 3 := ⟨⟨ini_RJ0, gw_in in_t4 95 rfl rfl, nhJ0, nvJ0, by decide +kernel⟩, gw_in in_t4 94 rfl rfl⟩
set_option maxRecDepth 20000 in
theorem kJ1_canEncode_9a6ad : MS mJ1_canEncode_9a6ad 1 := ⟨⟨ini_RJ1, gw_in in_t4 72 rfl rfl, nhJ1, nvJ1, by decide +kernel⟩, gw_in in_t4 71 rfl rfl⟩
set_option maxRecDepth 20000 in
theorem kJ1_indexOf_4cfef : MS mJ1_indexOf_4cfef 4 := ⟨⟨ini_RJ1, gw_in in_t4 69 rfl rfl, nhJ1, nvJ1, by decide +kernel⟩, gw_in in_t4 68 rfl rfl⟩
set_option maxRecDepth 20000 in
theorem kJ1_indexOfChar_4cfef : MS mJ1_indexOfChar_4cfef 4 := ⟨⟨ini_RJ1, gw_in in_t4 77 rfl rfl, nhJ1, nvJ1, by decide +kernel⟩, gw_in in_t4 76 rfl rfl⟩
set_option maxRecDepth 20000 in
theorem kJ2_getChar_3b067 : MS mJ2_getChar_3b067 2 := ⟨⟨ini_RJ2, gw_in in_t4 106 rfl rfl, nhJ2, nvJ2, by decide +kernel⟩, gw_in in_t4 105 rfl rfl⟩
set_option maxRecDepth 20000 in
theorem kJ2_length_9d52b : MS mJ2_length_9d52b 1 := ⟨⟨ini_RJ2, gw_in in_t4 92 rfl rfl, nhJ2, nvJ2, by decide +kernel⟩, gw_in in_t4 91 rfl rfl⟩
set_option maxRecDepth 20000 in
theorem kJ2_indexOf_4cfef : MS mJ2_indexOf_4cfef 4 := ⟨⟨ini_RJ2, gw_in in_t4 80 rfl rfl, nhJ2, nvJ2, by decide +kernel⟩, gw_in in_t4 79 rfl rfl⟩
set_option maxRecDepth 20000 in
theorem kJ2_indexOfChar_4cfef : MS mJ2_indexOfChar_4cfef 4 := ⟨⟨ini_RJ2, gw_in in_t4 86 rfl rfl, nhJ2, nvJ2, by decide +kernel⟩, gw_in in_t4 85 rfl rfl⟩
set_option maxRecDepth 20000 in
theorem kJ2_indexOfCharUnsafe_4cfef : MS mJ2_indexOfCharUnsafe_4cfef 4 := ⟨⟨ini_RJ2, gw_in in_t4 103 rfl rfl, nhJ2, nvJ2, by decide +kernel⟩, gw_in in_t4 102 rfl rfl⟩
set_option maxRecDepth 20000 in
theorem kJ2_indexOfSupplementary_4cfef : MS mJ2_indexOfSupplementary_4cfef 4 := ⟨⟨ini_RJ2, gw_in in_t4 115 rfl rfl, nhJ2, nvJ2, by decide +kernel⟩, gw_in in_t4 114 rfl rfl⟩
set_option maxRecDepth 20000 in
theorem kJ2_checkBoundsBeginEnd_d044e : MS mJ2_checkBoundsBeginEnd_d044e 3 := ⟨⟨ini_RJ2, gw_in in_t4 89 rfl rfl, nhJ2, nvJ2, by decide +kernel⟩, gw_in in_t4 88 rfl rfl⟩
set_option maxRecDepth 20000 in
theorem kJ7_fill_d0a16 : MS mJ7_fill_d0a16 2 := ⟨⟨ini_RJ7, gw_in in_t5 222 rfl rfl, nhJ7, nvJ7, by decide +kernel⟩, gw_in in_t5 221 rfl rfl⟩
set_option maxRecDepth 20000 in
theorem kJ7_fill_53178 : MS mJ7_fill_53178 2 := ⟨⟨ini_RJ7, gw_in in_t1 38 rfl rfl, nhJ7, nvJ7, by decide +kernel⟩, gw_in in_t1 37 rfl rfl⟩
set_option maxRecDepth 20000 in
theorem kJ7_copyOf_59c91 : MS mJ7_copyOf_59c91 2 := ⟨⟨ini_RJ7, gw_in in_t4 142 rfl rfl, nhJ7, nvJ7, by decide +kernel⟩, gw_in in_t4 141 rfl rfl⟩
set_option maxRecDepth 20000 in
theorem kJ3_checkFromToIndex_8c36e : MS mJ3_checkFromToIndex_8c36e 4 := ⟨⟨ini_RJ3, gw_in in_t4 100 rfl rfl, nhJ3, nvJ3, by decide +kernel⟩, gw_in in_t4 99 rfl rfl⟩
