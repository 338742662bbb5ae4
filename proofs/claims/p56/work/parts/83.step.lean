theorem st_body {s : SS} (G : GI s) (a0 : Int32) : ∃ (rx : Int32) (s1 : SS) (rm : Int32) (s2 : SS), f_X11_body s a0 = some (rx, s1) ∧ f_X12_body s1 a0 = some (rm, s2) ∧ GI s2 ∧ rx = rm := by
  obtain ⟨rx, s1, rm, s2, ex, em, G2, F, e⟩ := sa_body G.1 a0
  exact ⟨rx, s1, rm, s2, ex, em, ⟨G2, G.2.c F⟩, e⟩
theorem st_hole {s : SS} (G : GI s) (a0 : Int32) (a1 : Int32) : ∃ (rx : Int32) (s1 : SS) (rm : Int32) (s2 : SS), f_X11_hole s a0 a1 = some (rx, s1) ∧ f_X12_hole s1 a0 a1 = some (rm, s2) ∧ GI s2 ∧ rx = rm := by
  obtain ⟨rx, s1, rm, s2, ex, em, G2, F, e⟩ := sa_hole G.1 a0 a1
  exact ⟨rx, s1, rm, s2, ex, em, ⟨G2, G.2.c F⟩, e⟩
theorem st_shelter {s : SS} (G : GI s) (a0 : Int32) (a1 : Int32) : ∃ (rx : Int32) (s1 : SS) (rm : Int32) (s2 : SS), f_X11_shelter s a0 a1 = some (rx, s1) ∧ f_X12_shelter s1 a0 a1 = some (rm, s2) ∧ GI s2 ∧ rx = rm := by
  obtain ⟨rx, s1, rm, s2, ex, em, G2, F, e⟩ := sa_shelter G.1 a0 a1
  exact ⟨rx, s1, rm, s2, ex, em, ⟨G2, G.2.c F⟩, e⟩
theorem st_man {s : SS} (G : GI s) (a0 : Int32) (a1 : Int32) : ∃ (rx : Int32) (s1 : SS) (rm : Int32) (s2 : SS), f_X11_man s a0 a1 = some (rx, s1) ∧ f_X12_man s1 a0 a1 = some (rm, s2) ∧ GI s2 ∧ rx = rm := by
  obtain ⟨rx, s1, rm, s2, ex, em, G2, F, e⟩ := sa_man G.1 a0 a1
  exact ⟨rx, s1, rm, s2, ex, em, ⟨G2, G.2.c F⟩, e⟩
theorem st_ofBody {s : SS} (G : GI s) (a0 : Int32) (a1 : Int32) : ∃ (rx : Int32) (s1 : SS) (rm : Int32) (s2 : SS), f_X11_ofBody s a0 a1 = some rx ∧ f_X12_ofBody s a0 a1 = some rm ∧ GI s ∧ True := by
  obtain ⟨rx, ex, -⟩ := w_X11_ofBody (a0 := a0) (a1 := a1) (Lk.rf G.1.1)
  obtain ⟨rm, em, -⟩ := w_X12_ofBody (a0 := a0) (a1 := a1) (Lk.rf G.1.1)
  exact ⟨rx, s, rm, s, ex, em, G.go (Fr.rf s) (fun _ => rfl) (Fr.rf _) (fun _ => rfl) G.1.1, trivial⟩
theorem st_ill {s : SS} (G : GI s) (a0 : Int32) (a1 : Int32) : ∃ (rx : Int32) (s1 : SS) (rm : Int32) (s2 : SS), f_X11_ill s a0 a1 = some (rx, s1) ∧ f_X12_ill s1 a0 a1 = some (rm, s2) ∧ GI s2 ∧ rx = rm := by
  obtain ⟨rx, s1, rm, s2, ex, em, G2, F, e⟩ := sa_ill G.1 a0 a1
  exact ⟨rx, s1, rm, s2, ex, em, ⟨G2, G.2.c F⟩, e⟩
theorem st_speed {s : SS} (G : GI s) (a0 : Int32) (a1 : Int32) : ∃ (rx : Int32) (s1 : SS) (rm : Int32) (s2 : SS), f_X11_speed s a0 a1 = some (rx, s1) ∧ f_X12_speed s1 a0 a1 = some (rm, s2) ∧ GI s2 ∧ rx = rm := by
  obtain ⟨rx, s1, rm, s2, ex, em, G2, F, e⟩ := sa_speed G.1 a0 a1
  exact ⟨rx, s1, rm, s2, ex, em, ⟨G2, G.2.c F⟩, e⟩
theorem st_set {s : SS} (G : GI s) (a0 : Int32) (a1 : Int32) : ∃ (rx : Int32) (s1 : SS) (rm : Int32) (s2 : SS), f_X11_set s a0 a1 = some (rx, s1) ∧ f_X12_set s1 a0 a1 = some (rm, s2) ∧ GI s2 ∧ rx = rm := by
  obtain ⟨rx, s1, rm, s2, ex, em, G2, F, e⟩ := sa_set G.1 a0 a1
  exact ⟨rx, s1, rm, s2, ex, em, ⟨G2, G.2.c F⟩, e⟩
theorem st_yard {s : SS} (G : GI s) (a0 : Int32) (a1 : Int32) : ∃ (rx : Int32) (s1 : SS) (rm : Int32) (s2 : SS), f_X11_yard s a0 a1 = some (rx, s1) ∧ f_X12_yard s1 a0 a1 = some (rm, s2) ∧ GI s2 ∧ True := by
  obtain ⟨⟨rx, s1⟩, ex, K1⟩ := w_X11_yard (a0 := a0) (a1 := a1) (Lk.rf G.1.1)
  obtain ⟨⟨rm, s2⟩, em, K2⟩ := w_X12_yard (a0 := a0) (a1 := a1) (Lk.rf K1.1)
  exact ⟨rx, s1, rm, s2, ex, em, G.go K1.2.2 (fun i => K1.zR_ 17 i) K2.2.2 (fun i => K2.zR_ 17 i) K2.1, trivial⟩
theorem st_met {s : SS} (G : GI s) (a0 : Int32) (a1 : Int32) : ∃ (rx : Int32) (s1 : SS) (rm : Int32) (s2 : SS), f_X11_met s a0 a1 = some rx ∧ f_X12_met s a0 a1 = some rm ∧ GI s ∧ True := by
  obtain ⟨rx, ex, -⟩ := w_X11_met (a0 := a0) (a1 := a1) (Lk.rf G.1.1)
  obtain ⟨rm, em, -⟩ := w_X12_met (a0 := a0) (a1 := a1) (Lk.rf G.1.1)
  exact ⟨rx, s, rm, s, ex, em, G.go (Fr.rf s) (fun _ => rfl) (Fr.rf _) (fun _ => rfl) G.1.1, trivial⟩
theorem st_spread {s : SS} (G : GI s) (a0 : Int32) : ∃ (rx : Int32) (s1 : SS) (rm : Int32) (s2 : SS), f_X11_spread s a0 = some (rx, s1) ∧ f_X12_spread s1 a0 = some (rm, s2) ∧ GI s2 ∧ rx = rm := by
  obtain ⟨rx, s1, rm, s2, ex, em, G2, F, e⟩ := sa_spread G.1 a0
  exact ⟨rx, s1, rm, s2, ex, em, ⟨G2, G.2.c F⟩, e⟩
theorem st_canBe {s : SS} (G : GI s) (a0 : Int32) (a1 : Int32) (a2 : Int32) : ∃ (rx : Int32) (s1 : SS) (rm : Int32) (s2 : SS), f_X11_canBe s a0 a1 a2 = some rx ∧ f_X12_canBe s a0 a1 a2 = some rm ∧ GI s ∧ True := by
  obtain ⟨rx, ex, -⟩ := w_X11_canBe (a0 := a0) (a1 := a1) (a2 := a2) (Lk.rf G.1.1)
  obtain ⟨rm, em, -⟩ := w_X12_canBe (a0 := a0) (a1 := a1) (a2 := a2) (Lk.rf G.1.1)
  exact ⟨rx, s, rm, s, ex, em, G.go (Fr.rf s) (fun _ => rfl) (Fr.rf _) (fun _ => rfl) G.1.1, trivial⟩
theorem st_map {s : SS} (G : GI s) (a0 : Int32) (a1 : Int32) : ∃ (rx : Int32) (s1 : SS) (rm : Int32) (s2 : SS), f_X11_map s a0 a1 = some (rx, s1) ∧ f_X12_map s1 a0 a1 = some (rm, s2) ∧ GI s2 ∧ rx = rm := by
  obtain ⟨rx, s1, rm, s2, ex, em, G2, F, e⟩ := sa_map G.1 a0 a1
  exact ⟨rx, s1, rm, s2, ex, em, ⟨G2, G.2.c F⟩, e⟩
theorem st_old {s : SS} (G : GI s) (a0 : Int32) (a1 : Int32) : ∃ (rx : Int32) (s1 : SS) (rm : Int32) (s2 : SS), f_X11_old s a0 a1 = some (rx, s1) ∧ f_X12_old s1 a0 a1 = some (rm, s2) ∧ GI s2 ∧ True := by
  obtain ⟨⟨rx, s1⟩, ex, K1⟩ := w_X11_old (a0 := a0) (a1 := a1) (Lk.rf G.1.1)
  obtain ⟨⟨rm, s2⟩, em, K2⟩ := w_X12_old (a0 := a0) (a1 := a1) (Lk.rf K1.1)
  exact ⟨rx, s1, rm, s2, ex, em, G.go K1.2.2 (fun i => K1.zR_ 17 i) K2.2.2 (fun i => K2.zR_ 17 i) K2.1, trivial⟩
theorem st_wrong {s : SS} (G : GI s) (a0 : Int32) : ∃ (rx : Int32) (s1 : SS) (rm : Int32) (s2 : SS), f_X11_wrong s a0 = some rx ∧ f_X12_wrong s a0 = some rm ∧ GI s ∧ True := by
  obtain ⟨rx, ex, -⟩ := w_X11_wrong (a0 := a0) (Lk.rf G.1.1)
  obtain ⟨rm, em, -⟩ := w_X12_wrong (a0 := a0) (Lk.rf G.1.1)
  exact ⟨rx, s, rm, s, ex, em, G.go (Fr.rf s) (fun _ => rfl) (Fr.rf _) (fun _ => rfl) G.1.1, trivial⟩
theorem st_known {s : SS} (G : GI s) (a0 : Int32) : ∃ (rx : Int32) (s1 : SS) (rm : Int32) (s2 : SS), f_X11_known s a0 = some rx ∧ f_X12_known s a0 = some rm ∧ GI s ∧ True := by
  obtain ⟨rx, ex, -⟩ := w_X11_known (a0 := a0) (Lk.rf G.1.1)
  obtain ⟨rm, em, -⟩ := w_X12_known (a0 := a0) (Lk.rf G.1.1)
  exact ⟨rx, s, rm, s, ex, em, G.go (Fr.rf s) (fun _ => rfl) (Fr.rf _) (fun _ => rfl) G.1.1, trivial⟩
theorem st_inForce {s : SS} (G : GI s) (a0 : Int32) (a1 : Int32) (a2 : Int32) : ∃ (rx : Int32) (s1 : SS) (rm : Int32) (s2 : SS), f_X11_inForce s a0 a1 a2 = some rx ∧ f_X12_inForce s a0 a1 a2 = some rm ∧ GI s ∧ True := by
  obtain ⟨rx, ex, -⟩ := w_X11_inForce (a0 := a0) (a1 := a1) (a2 := a2) (Lk.rf G.1.1)
  obtain ⟨rm, em, -⟩ := w_X12_inForce (a0 := a0) (a1 := a1) (a2 := a2) (Lk.rf G.1.1)
  exact ⟨rx, s, rm, s, ex, em, G.go (Fr.rf s) (fun _ => rfl) (Fr.rf _) (fun _ => rfl) G.1.1, trivial⟩
theorem st_says {s : SS} (G : GI s) (a0 : Int32) (a1 : Int32) : ∃ (rx : Int32) (s1 : SS) (rm : Int32) (s2 : SS), f_X11_says s a0 a1 = some (rx, s1) ∧ f_X12_says s1 a0 a1 = some (rm, s2) ∧ GI s2 ∧ True := by
  obtain ⟨⟨rx, s1⟩, ex, K1⟩ := w_X11_says (a0 := a0) (a1 := a1) (Lk.rf G.1.1)
  obtain ⟨⟨rm, s2⟩, em, K2⟩ := w_X12_says (a0 := a0) (a1 := a1) (Lk.rf K1.1)
  exact ⟨rx, s1, rm, s2, ex, em, G.go K1.2.2 (fun i => K1.zR_ 17 i) K2.2.2 (fun i => K2.zR_ 17 i) K2.1, trivial⟩
theorem st_spoons {s : SS} (G : GI s) (a0 : Int32) : ∃ (rx : Int32) (s1 : SS) (rm : Int32) (s2 : SS), f_X11_spoons s a0 = some (rx, s1) ∧ f_X12_spoons s1 a0 = some (rm, s2) ∧ GI s2 ∧ True := by
  obtain ⟨⟨rx, s1⟩, ex, K1⟩ := w_X11_spoons (a0 := a0) (Lk.rf G.1.1)
  obtain ⟨⟨rm, s2⟩, em, K2⟩ := w_X12_spoons (a0 := a0) (Lk.rf K1.1)
  exact ⟨rx, s1, rm, s2, ex, em, G.go K1.2.2 (fun i => K1.zR_ 17 i) K2.2.2 (fun i => K2.zR_ 17 i) K2.1, trivial⟩
theorem st_last {s : SS} (G : GI s) (a0 : Int32) (a1 : Int32) : ∃ (rx : Int32) (s1 : SS) (rm : Int32) (s2 : SS), f_X11_last s a0 a1 = some (rx, s1) ∧ f_X12_last s1 a0 a1 = some (rm, s2) ∧ GI s2 ∧ True := by
  obtain ⟨⟨rx, s1⟩, ex, K1⟩ := w_X11_last (a0 := a0) (a1 := a1) (Lk.rf G.1.1)
  obtain ⟨⟨rm, s2⟩, em, K2⟩ := w_X12_last (a0 := a0) (a1 := a1) (Lk.rf K1.1)
  exact ⟨rx, s1, rm, s2, ex, em, G.go K1.2.2 (fun i => K1.zR_ 17 i) K2.2.2 (fun i => K2.zR_ 17 i) K2.1, trivial⟩
theorem st_best {s : SS} (G : GI s) (a0 : Int32) : ∃ (rx : Int32) (s1 : SS) (rm : Int32) (s2 : SS), f_X11_best s a0 = some (rx, s1) ∧ f_X12_best s1 a0 = some (rm, s2) ∧ GI s2 ∧ True := by
  obtain ⟨⟨rx, s1⟩, ex, K1⟩ := w_X11_best (a0 := a0) (Lk.rf G.1.1)
  obtain ⟨⟨rm, s2⟩, em, K2⟩ := w_X12_best (a0 := a0) (Lk.rf K1.1)
  exact ⟨rx, s1, rm, s2, ex, em, G.go K1.2.2 (fun i => K1.zR_ 17 i) K2.2.2 (fun i => K2.zR_ 17 i) K2.1, trivial⟩
theorem st_down {s : SS} (G : GI s) (a0 : Int32) (a1 : Int32) (a2 : Int32) : ∃ (rx : Int32) (s1 : SS) (rm : Int32) (s2 : SS), f_X11_down s a0 a1 a2 = some (rx, s1) ∧ f_X12_down s1 a0 a1 a2 = some (rm, s2) ∧ GI s2 ∧ True := by
  obtain ⟨⟨rx, s1⟩, ex, K1⟩ := w_X11_down (a0 := a0) (a1 := a1) (a2 := a2) (Lk.rf G.1.1)
  obtain ⟨⟨rm, s2⟩, em, K2⟩ := w_X12_down (a0 := a0) (a1 := a1) (a2 := a2) (Lk.rf K1.1)
  exact ⟨rx, s1, rm, s2, ex, em, G.go K1.2.2 (fun i => K1.zR_ 17 i) K2.2.2 (fun i => K2.zR_ 17 i) K2.1, trivial⟩
theorem st_below {s : SS} (G : GI s) (a0 : Int32) : ∃ (rx : Int32) (s1 : SS) (rm : Int32) (s2 : SS), f_X11_below s a0 = some rx ∧ f_X12_below s a0 = some rm ∧ GI s ∧ True := by
  obtain ⟨rx, ex, -⟩ := w_X11_below (a0 := a0) (Lk.rf G.1.1)
  obtain ⟨rm, em, -⟩ := w_X12_below (a0 := a0) (Lk.rf G.1.1)
  exact ⟨rx, s, rm, s, ex, em, G.go (Fr.rf s) (fun _ => rfl) (Fr.rf _) (fun _ => rfl) G.1.1, trivial⟩
theorem st_need {s : SS} (G : GI s) (a0 : Int32) (a1 : Int32) : ∃ (rx : Int32) (s1 : SS) (rm : Int32) (s2 : SS), f_X11_need s a0 a1 = some (rx, s1) ∧ f_X12_need s1 a0 a1 = some (rm, s2) ∧ GI s2 ∧ rx = rm := by
  obtain ⟨rx, s1, rm, s2, ex, em, G2, F, e⟩ := sa_need G.1 a0 a1
  exact ⟨rx, s1, rm, s2, ex, em, ⟨G2, G.2.c F⟩, e⟩
theorem st_order {s : SS} (G : GI s) : ∃ (rx : Int32) (s1 : SS) (rm : Int32) (s2 : SS), f_X11_order s = some (rx, s1) ∧ f_X12_order s1 = some (rm, s2) ∧ GI s2 ∧ True := by
  obtain ⟨rx, s1, rm, s2, ex, em, G2, F, e⟩ := sa_order G.1
  exact ⟨rx, s1, rm, s2, ex, em, ⟨G2, G.2.c F⟩, e⟩
theorem st_ordered {s : SS} (G : GI s) (a0 : Int32) : ∃ (rx : Int32) (s1 : SS) (rm : Int32) (s2 : SS), f_X11_ordered s a0 = some rx ∧ f_X12_ordered s a0 = some rm ∧ GI s ∧ True := by
  obtain ⟨rx, ex, -⟩ := w_X11_ordered (a0 := a0) (Lk.rf G.1.1)
  obtain ⟨rm, em, -⟩ := w_X12_ordered (a0 := a0) (Lk.rf G.1.1)
  exact ⟨rx, s, rm, s, ex, em, G.go (Fr.rf s) (fun _ => rfl) (Fr.rf _) (fun _ => rfl) G.1.1, trivial⟩
theorem st_watch {s : SS} (G : GI s) (a0 : Int32) (a1 : Int32) : ∃ (rx : Int32) (s1 : SS) (rm : Int32) (s2 : SS), f_X11_watch s a0 a1 = some (rx, s1) ∧ f_X12_watch s1 a0 a1 = some (rm, s2) ∧ GI s2 ∧ True := by
  obtain ⟨⟨rx, s1⟩, ex, K1⟩ := w_X11_watch (a0 := a0) (a1 := a1) (Lk.rf G.1.1)
  obtain ⟨⟨rm, s2⟩, em, K2⟩ := w_X12_watch (a0 := a0) (a1 := a1) (Lk.rf K1.1)
  exact ⟨rx, s1, rm, s2, ex, em, G.go K1.2.2 (fun i => K1.zR_ 17 i) K2.2.2 (fun i => K2.zR_ 17 i) K2.1, trivial⟩
theorem st_watched {s : SS} (G : GI s) (a0 : Int32) (a1 : Int32) : ∃ (rx : Int32) (s1 : SS) (rm : Int32) (s2 : SS), f_X11_watched s a0 a1 = some rx ∧ f_X12_watched s a0 a1 = some rm ∧ GI s ∧ True := by
  obtain ⟨rx, ex, -⟩ := w_X11_watched (a0 := a0) (a1 := a1) (Lk.rf G.1.1)
  obtain ⟨rm, em, -⟩ := w_X12_watched (a0 := a0) (a1 := a1) (Lk.rf G.1.1)
  exact ⟨rx, s, rm, s, ex, em, G.go (Fr.rf s) (fun _ => rfl) (Fr.rf _) (fun _ => rfl) G.1.1, trivial⟩
theorem st_aim {s : SS} (G : GI s) (a0 : Int32) (a1 : Int32) : ∃ (rx : Int32) (s1 : SS) (rm : Int32) (s2 : SS), f_X11_aim s a0 a1 = some (rx, s1) ∧ f_X12_aim s1 a0 a1 = some (rm, s2) ∧ GI s2 ∧ rx = rm := by
  obtain ⟨rx, s1, rm, s2, ex, em, G2, F, e⟩ := sa_aim G.1 a0 a1
  exact ⟨rx, s1, rm, s2, ex, em, ⟨G2, G.2.c F⟩, e⟩
theorem st_rock {s : SS} (G : GI s) (a0 : Int32) (a1 : Int32) (a2 : Int32) : ∃ (rx : Int32) (s1 : SS) (rm : Int32) (s2 : SS), f_X11_rock s a0 a1 a2 = some (rx, s1) ∧ f_X12_rock s1 a0 a1 a2 = some (rm, s2) ∧ GI s2 ∧ rx = rm := by
  obtain ⟨rx, s1, rm, s2, ex, em, G2, F, e⟩ := sa_rock G.1 a0 a1 a2
  exact ⟨rx, s1, rm, s2, ex, em, ⟨G2, G.2.c F⟩, e⟩
theorem st_aimed {s : SS} (G : GI s) (a0 : Int32) (a1 : Int32) (a2 : Int32) : ∃ (rx : Int32) (s1 : SS) (rm : Int32) (s2 : SS), f_X11_aimed s a0 a1 a2 = some (rx, s1) ∧ f_X12_aimed s1 a0 a1 a2 = some (rm, s2) ∧ GI s2 ∧ True := by
  obtain ⟨rx, s1, rm, s2, ex, em, G2, F, e⟩ := sa_aimed G.1 a0 a1 a2
  exact ⟨rx, s1, rm, s2, ex, em, ⟨G2, G.2.c F⟩, e⟩
theorem st_aimedAt {s : SS} (G : GI s) (a0 : Int32) (a1 : Int32) : ∃ (rx : Int32) (s1 : SS) (rm : Int32) (s2 : SS), f_X11_aimedAt s a0 a1 = some rx ∧ f_X12_aimedAt s a0 a1 = some rm ∧ GI s ∧ True := by
  obtain ⟨rx, ex, -⟩ := w_X11_aimedAt (a0 := a0) (a1 := a1) (Lk.rf G.1.1)
  obtain ⟨rm, em, -⟩ := w_X12_aimedAt (a0 := a0) (a1 := a1) (Lk.rf G.1.1)
  exact ⟨rx, s, rm, s, ex, em, G.go (Fr.rf s) (fun _ => rfl) (Fr.rf _) (fun _ => rfl) G.1.1, trivial⟩
theorem st_race {s : SS} (G : GI s) (a0 : Int32) (a1 : Int32) (a2 : Int32) : ∃ (rx : Int32) (s1 : SS) (rm : Int32) (s2 : SS), f_X11_race s a0 a1 a2 = some rx ∧ f_X12_race s a0 a1 a2 = some rm ∧ GI s ∧ True := by
  obtain ⟨rx, ex, -⟩ := w_X11_race (a0 := a0) (a1 := a1) (a2 := a2) (Lk.rf G.1.1)
  obtain ⟨rm, em, -⟩ := w_X12_race (a0 := a0) (a1 := a1) (a2 := a2) (Lk.rf G.1.1)
  exact ⟨rx, s, rm, s, ex, em, G.go (Fr.rf s) (fun _ => rfl) (Fr.rf _) (fun _ => rfl) G.1.1, trivial⟩
theorem st_capsule {s : SS} (G : GI s) (a0 : Int32) : ∃ (rx : Int32) (s1 : SS) (rm : Int32) (s2 : SS), f_X11_capsule s a0 = some (rx, s1) ∧ f_X12_capsule s1 a0 = some (rm, s2) ∧ GI s2 ∧ True := by
  obtain ⟨⟨rx, s1⟩, ex, K1⟩ := w_X11_capsule (a0 := a0) (Lk.rf G.1.1)
  obtain ⟨⟨rm, s2⟩, em, K2⟩ := w_X12_capsule (a0 := a0) (Lk.rf K1.1)
  exact ⟨rx, s1, rm, s2, ex, em, G.go K1.2.2 (fun i => K1.zR_ 17 i) K2.2.2 (fun i => K2.zR_ 17 i) K2.1, trivial⟩
theorem st_up {s : SS} (G : GI s) (a0 : Int32) (a1 : Int32) : ∃ (rx : Int32) (s1 : SS) (rm : Int32) (s2 : SS), f_X11_up s a0 a1 = some rx ∧ f_X12_up s a0 a1 = some rm ∧ GI s ∧ True := by
  obtain ⟨rx, ex, -⟩ := w_X11_up (a0 := a0) (a1 := a1) (Lk.rf G.1.1)
  obtain ⟨rm, em, -⟩ := w_X12_up (a0 := a0) (a1 := a1) (Lk.rf G.1.1)
  exact ⟨rx, s, rm, s, ex, em, G.go (Fr.rf s) (fun _ => rfl) (Fr.rf _) (fun _ => rfl) G.1.1, trivial⟩
theorem st_raise {s : SS} (G : GI s) (a0 : Int32) : ∃ (rx : Int32) (s1 : SS) (rm : Int32) (s2 : SS), f_X11_raise s a0 = some (rx, s1) ∧ f_X12_raise s1 a0 = some (rm, s2) ∧ GI s2 ∧ True := by
  obtain ⟨⟨rx, s1⟩, ex, K1⟩ := w_X11_raise (a0 := a0) (Lk.rf G.1.1)
  obtain ⟨⟨rm, s2⟩, em, K2⟩ := w_X12_raise (a0 := a0) (Lk.rf K1.1)
  exact ⟨rx, s1, rm, s2, ex, em, G.go K1.2.2 (fun i => K1.zR_ 17 i) K2.2.2 (fun i => K2.zR_ 17 i) K2.1, trivial⟩
theorem st_keep {s : SS} (G : GI s) (a0 : Int32) (a1 : Int32) : ∃ (rx : Int32) (s1 : SS) (rm : Int32) (s2 : SS), f_X11_keep s a0 a1 = some (rx, s1) ∧ f_X12_keep s1 a0 a1 = some (rm, s2) ∧ GI s2 ∧ rx = rm := by
  obtain ⟨rx, s1, rm, s2, ex, em, G2, F, e⟩ := sa_keep G.1 a0 a1
  exact ⟨rx, s1, rm, s2, ex, em, ⟨G2, G.2.c F⟩, e⟩
theorem st_row {s : SS} (G : GI s) (a0 : Int32) (a1 : Int32) (a2 : Int32) : ∃ (rx : Int32) (s1 : SS) (rm : Int32) (s2 : SS), f_X11_row s a0 a1 a2 = some (rx, s1) ∧ f_X12_row s1 a0 a1 a2 = some (rm, s2) ∧ GI s2 ∧ rx = rm := by
  obtain ⟨rx, s1, rm, s2, ex, em, G2, F, e⟩ := sa_row G.1 a0 a1 a2
  exact ⟨rx, s1, rm, s2, ex, em, ⟨G2, G.2.c F⟩, e⟩
theorem st_put {s : SS} (G : GI s) (a0 : Int32) (a1 : Int32) (a2 : Int64) : ∃ (rx : Int32) (s1 : SS) (rm : Int32) (s2 : SS), f_X11_put s a0 a1 a2 = some (rx, s1) ∧ f_X12_put s1 a0 a1 a2 = some (rm, s2) ∧ GI s2 ∧ rx = rm := by
  obtain ⟨rx, s1, rm, s2, ex, em, G2, F, e⟩ := sa_put G.1 a0 a1 a2
  exact ⟨rx, s1, rm, s2, ex, em, ⟨G2, G.2.c F⟩, e⟩
theorem st_blank {s : SS} (G : GI s) (a0 : Int32) (a1 : Int32) : ∃ (rx : Int32) (s1 : SS) (rm : Int32) (s2 : SS), f_X11_blank s a0 a1 = some (rx, s1) ∧ f_X12_blank s1 a0 a1 = some (rm, s2) ∧ GI s2 ∧ rx = rm := by
  obtain ⟨rx, s1, rm, s2, ex, em, G2, F, e⟩ := sa_blank G.1 a0 a1
  exact ⟨rx, s1, rm, s2, ex, em, ⟨G2, G.2.c F⟩, e⟩
theorem st_element {s : SS} (G : GI s) (a0 : Int32) (a1 : Int32) : ∃ (rx : Int64) (s1 : SS) (rm : Int64) (s2 : SS), f_X11_element s a0 a1 = some rx ∧ f_X12_element s a0 a1 = some rm ∧ GI s ∧ rx = rm := by
  obtain ⟨rx, s1, rm, s2, ex, em, G2, e⟩ := sa_element G.1 a0 a1
  exact ⟨rx, s1, rm, s2, ex, em, G, e⟩
theorem st_shift {s : SS} (G : GI s) (a0 : Int32) (a1 : Int32) (a2 : Int32) (a3 : Int32) (a4 : Int32) : ∃ (rx : Int32) (s1 : SS) (rm : Int32) (s2 : SS), f_X11_shift s a0 a1 a2 a3 a4 = some (rx, s1) ∧ f_X12_shift s1 a0 a1 a2 a3 a4 = some (rm, s2) ∧ GI s2 ∧ rx = rm := by
  obtain ⟨rx, s1, rm, s2, ex, em, G2, F, e⟩ := sa_shift G.1 a0 a1 a2 a3 a4
  exact ⟨rx, s1, rm, s2, ex, em, ⟨G2, G.2.c F⟩, e⟩
theorem st_taken {s : SS} (G : GI s) (a0 : Int32) (a1 : Int32) : ∃ (rx : Int32) (s1 : SS) (rm : Int32) (s2 : SS), f_X11_taken s a0 a1 = some rx ∧ f_X12_taken s a0 a1 = some rm ∧ GI s ∧ rx = rm := by
  obtain ⟨rx, s1, rm, s2, ex, em, G2, e⟩ := sa_taken G.1 a0 a1
  exact ⟨rx, s1, rm, s2, ex, em, G, e⟩
theorem st_count {s : SS} (G : GI s) (a0 : Int32) : ∃ (rx : Int32) (s1 : SS) (rm : Int32) (s2 : SS), f_X11_count s a0 = some rx ∧ f_X12_count s a0 = some rm ∧ GI s ∧ True := by
  obtain ⟨rx, ex, -⟩ := w_X11_count (a0 := a0) (Lk.rf G.1.1)
  obtain ⟨rm, em, -⟩ := w_X12_count (a0 := a0) (Lk.rf G.1.1)
  exact ⟨rx, s, rm, s, ex, em, G.go (Fr.rf s) (fun _ => rfl) (Fr.rf _) (fun _ => rfl) G.1.1, trivial⟩
