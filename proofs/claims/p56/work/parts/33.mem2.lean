theorem ac_nat : Cond.native arraycopyName ∈ gw := gw_in in_t4 153 (by decide +kernel) rfl
theorem ac_sta : Cond.static arraycopyName ∈ gw := gw_in in_t4 152 (by decide +kernel) rfl
theorem ac_ini : Cond.initialized "java/lang/System" ∈ gw := gw_in in_t1 21 (by decide +kernel) rfl
theorem cl_sam : Cond.sameMethod "[I" "java/lang/Object" "clone" "()Ljava/lang/Object;" ∈ gw := gw_in in_t4 144 (by decide +kernel) rfl
theorem cl_nat : Cond.native ⟨"java/lang/Object", "clone", "()Ljava/lang/Object;"⟩ ∈ gw := gw_in in_t4 145 (by decide +kernel) rfl
theorem cl_ins : Cond.instanceMethod ⟨"java/lang/Object", "clone", "()Ljava/lang/Object;"⟩ ∈ gw := gw_in in_t4 146 (by decide +kernel) rfl
theorem cl_sel : Cond.selects "[I" ⟨"[I", "clone", "()Ljava/lang/Object;"⟩ ⟨"java/lang/Object", "clone", "()Ljava/lang/Object;"⟩ ∈ gw := gw_in in_t4 147 (by decide +kernel) rfl
