theorem st_hard {s : SS} (G : GI s) (a0 : Int32) (a1 : Int32) : ∃ (rx : Int32) (s1 : SS) (rm : Int32) (s2 : SS), f_X11_hard s a0 a1 = some (rx, s1) ∧ f_X12_hard s1 a0 a1 = some (rm, s2) ∧ GI s2 ∧ True := by
  obtain ⟨⟨rx, s1⟩, ex, K1⟩ := w_X11_hard (a0 := a0) (a1 := a1) (Lk.rf G.1)
  obtain ⟨⟨rm, s2⟩, em, K2⟩ := w_X12_hard (a0 := a0) (a1 := a1) (Lk.rf K1.1)
  exact ⟨rx, s1, rm, s2, ex, em, G.go K1.2.2 (fun i => K1.zR_ 17 i) K2.2.2 (fun i => K2.zR_ 17 i) K2.1, trivial⟩
theorem st_open {s : SS} (G : GI s) (a0 : Int32) (a1 : Int32) : ∃ (rx : Int32) (s1 : SS) (rm : Int32) (s2 : SS), f_X11_open s a0 a1 = some (rx, s1) ∧ f_X12_open s1 a0 a1 = some (rm, s2) ∧ GI s2 ∧ True := by
  obtain ⟨⟨rx, s1⟩, ex, K1⟩ := w_X11_open (a0 := a0) (a1 := a1) (Lk.rf G.1)
  obtain ⟨⟨rm, s2⟩, em, K2⟩ := w_X12_open (a0 := a0) (a1 := a1) (Lk.rf K1.1)
  exact ⟨rx, s1, rm, s2, ex, em, G.go K1.2.2 (fun i => K1.zR_ 17 i) K2.2.2 (fun i => K2.zR_ 17 i) K2.1, trivial⟩
theorem st_ofCell {s : SS} (G : GI s) (a0 : Int32) (a1 : Int32) : ∃ (rx : Int32) (s1 : SS) (rm : Int32) (s2 : SS), f_X11_ofCell s a0 a1 = some rx ∧ f_X12_ofCell s a0 a1 = some rm ∧ GI s ∧ True := by
  obtain ⟨rx, ex, -⟩ := w_X11_ofCell (a0 := a0) (a1 := a1) (Lk.rf G.1)
  obtain ⟨rm, em, -⟩ := w_X12_ofCell (a0 := a0) (a1 := a1) (Lk.rf G.1)
  exact ⟨rx, s, rm, s, ex, em, G.go (Fr.rf s) (fun _ => rfl) (Fr.rf _) (fun _ => rfl) G.1, trivial⟩
theorem st_ofBody {s : SS} (G : GI s) (a0 : Int32) (a1 : Int32) : ∃ (rx : Int32) (s1 : SS) (rm : Int32) (s2 : SS), f_X11_ofBody s a0 a1 = some rx ∧ f_X12_ofBody s a0 a1 = some rm ∧ GI s ∧ True := by
  obtain ⟨rx, ex, -⟩ := w_X11_ofBody (a0 := a0) (a1 := a1) (Lk.rf G.1)
  obtain ⟨rm, em, -⟩ := w_X12_ofBody (a0 := a0) (a1 := a1) (Lk.rf G.1)
  exact ⟨rx, s, rm, s, ex, em, G.go (Fr.rf s) (fun _ => rfl) (Fr.rf _) (fun _ => rfl) G.1, trivial⟩
theorem st_breaks {s : SS} (G : GI s) (a0 : Int32) (a1 : Int32) : ∃ (rx : Int32) (s1 : SS) (rm : Int32) (s2 : SS), f_X11_breaks s a0 a1 = some (rx, s1) ∧ f_X12_breaks s1 a0 a1 = some (rm, s2) ∧ GI s2 ∧ True := by
  obtain ⟨⟨rx, s1⟩, ex, K1⟩ := w_X11_breaks (a0 := a0) (a1 := a1) (Lk.rf G.1)
  obtain ⟨⟨rm, s2⟩, em, K2⟩ := w_X12_breaks (a0 := a0) (a1 := a1) (Lk.rf K1.1)
  exact ⟨rx, s1, rm, s2, ex, em, G.go K1.2.2 (fun i => K1.zR_ 17 i) K2.2.2 (fun i => K2.zR_ 17 i) K2.1, trivial⟩
theorem st_yard {s : SS} (G : GI s) (a0 : Int32) (a1 : Int32) : ∃ (rx : Int32) (s1 : SS) (rm : Int32) (s2 : SS), f_X11_yard s a0 a1 = some (rx, s1) ∧ f_X12_yard s1 a0 a1 = some (rm, s2) ∧ GI s2 ∧ True := by
  obtain ⟨⟨rx, s1⟩, ex, K1⟩ := w_X11_yard (a0 := a0) (a1 := a1) (Lk.rf G.1)
  obtain ⟨⟨rm, s2⟩, em, K2⟩ := w_X12_yard (a0 := a0) (a1 := a1) (Lk.rf K1.1)
  exact ⟨rx, s1, rm, s2, ex, em, G.go K1.2.2 (fun i => K1.zR_ 17 i) K2.2.2 (fun i => K2.zR_ 17 i) K2.1, trivial⟩
theorem st_met {s : SS} (G : GI s) (a0 : Int32) (a1 : Int32) : ∃ (rx : Int32) (s1 : SS) (rm : Int32) (s2 : SS), f_X11_met s a0 a1 = some rx ∧ f_X12_met s a0 a1 = some rm ∧ GI s ∧ True := by
  obtain ⟨rx, ex, -⟩ := w_X11_met (a0 := a0) (a1 := a1) (Lk.rf G.1)
  obtain ⟨rm, em, -⟩ := w_X12_met (a0 := a0) (a1 := a1) (Lk.rf G.1)
  exact ⟨rx, s, rm, s, ex, em, G.go (Fr.rf s) (fun _ => rfl) (Fr.rf _) (fun _ => rfl) G.1, trivial⟩
theorem st_log {s : SS} (G : GI s) (a0 : Int32) (a1 : Int32) (a2 : Int32) (a3 : Int32) (a4 : Int32) : ∃ (rx : Int32) (s1 : SS) (rm : Int32) (s2 : SS), f_X11_log s a0 a1 a2 a3 a4 = some (rx, s1) ∧ f_X12_log s1 a0 a1 a2 a3 a4 = some (rm, s2) ∧ GI s2 ∧ True := by
  obtain ⟨⟨rx, s1⟩, ex, K1⟩ := w_X11_log (a0 := a0) (a1 := a1) (a2 := a2) (a3 := a3) (a4 := a4) (Lk.rf G.1)
  obtain ⟨⟨rm, s2⟩, em, K2⟩ := w_X12_log (a0 := a0) (a1 := a1) (a2 := a2) (a3 := a3) (a4 := a4) (Lk.rf K1.1)
  exact ⟨rx, s1, rm, s2, ex, em, G.go K1.2.2 (fun i => K1.zR_ 17 i) K2.2.2 (fun i => K2.zR_ 17 i) K2.1, trivial⟩
theorem st_canBe {s : SS} (G : GI s) (a0 : Int32) (a1 : Int32) (a2 : Int32) : ∃ (rx : Int32) (s1 : SS) (rm : Int32) (s2 : SS), f_X11_canBe s a0 a1 a2 = some rx ∧ f_X12_canBe s a0 a1 a2 = some rm ∧ GI s ∧ True := by
  obtain ⟨rx, ex, -⟩ := w_X11_canBe (a0 := a0) (a1 := a1) (a2 := a2) (Lk.rf G.1)
  obtain ⟨rm, em, -⟩ := w_X12_canBe (a0 := a0) (a1 := a1) (a2 := a2) (Lk.rf G.1)
  exact ⟨rx, s, rm, s, ex, em, G.go (Fr.rf s) (fun _ => rfl) (Fr.rf _) (fun _ => rfl) G.1, trivial⟩
theorem st_old {s : SS} (G : GI s) (a0 : Int32) (a1 : Int32) : ∃ (rx : Int32) (s1 : SS) (rm : Int32) (s2 : SS), f_X11_old s a0 a1 = some (rx, s1) ∧ f_X12_old s1 a0 a1 = some (rm, s2) ∧ GI s2 ∧ True := by
  obtain ⟨⟨rx, s1⟩, ex, K1⟩ := w_X11_old (a0 := a0) (a1 := a1) (Lk.rf G.1)
  obtain ⟨⟨rm, s2⟩, em, K2⟩ := w_X12_old (a0 := a0) (a1 := a1) (Lk.rf K1.1)
  exact ⟨rx, s1, rm, s2, ex, em, G.go K1.2.2 (fun i => K1.zR_ 17 i) K2.2.2 (fun i => K2.zR_ 17 i) K2.1, trivial⟩
theorem st_wrong {s : SS} (G : GI s) (a0 : Int32) : ∃ (rx : Int32) (s1 : SS) (rm : Int32) (s2 : SS), f_X11_wrong s a0 = some rx ∧ f_X12_wrong s a0 = some rm ∧ GI s ∧ True := by
  obtain ⟨rx, ex, -⟩ := w_X11_wrong (a0 := a0) (Lk.rf G.1)
  obtain ⟨rm, em, -⟩ := w_X12_wrong (a0 := a0) (Lk.rf G.1)
  exact ⟨rx, s, rm, s, ex, em, G.go (Fr.rf s) (fun _ => rfl) (Fr.rf _) (fun _ => rfl) G.1, trivial⟩
theorem st_known {s : SS} (G : GI s) (a0 : Int32) : ∃ (rx : Int32) (s1 : SS) (rm : Int32) (s2 : SS), f_X11_known s a0 = some rx ∧ f_X12_known s a0 = some rm ∧ GI s ∧ True := by
  obtain ⟨rx, ex, -⟩ := w_X11_known (a0 := a0) (Lk.rf G.1)
  obtain ⟨rm, em, -⟩ := w_X12_known (a0 := a0) (Lk.rf G.1)
  exact ⟨rx, s, rm, s, ex, em, G.go (Fr.rf s) (fun _ => rfl) (Fr.rf _) (fun _ => rfl) G.1, trivial⟩
theorem st_feed {s : SS} (G : GI s) (a0 : Int32) (a1 : Int32) : ∃ (rx : Int32) (s1 : SS) (rm : Int32) (s2 : SS), f_X11_feed s a0 a1 = some (rx, s1) ∧ f_X12_feed s1 a0 a1 = some (rm, s2) ∧ GI s2 ∧ True := by
  obtain ⟨⟨rx, s1⟩, ex, K1⟩ := w_X11_feed (a0 := a0) (a1 := a1) (Lk.rf G.1)
  obtain ⟨⟨rm, s2⟩, em, K2⟩ := w_X12_feed (a0 := a0) (a1 := a1) (Lk.rf K1.1)
  exact ⟨rx, s1, rm, s2, ex, em, G.go K1.2.2 (fun i => K1.zR_ 17 i) K2.2.2 (fun i => K2.zR_ 17 i) K2.1, trivial⟩
theorem st_text {s : SS} (G : GI s) (a0 : Int32) (a1 : Int32) : ∃ (rx : Int32) (s1 : SS) (rm : Int32) (s2 : SS), f_X11_text s a0 a1 = some (rx, s1) ∧ f_X12_text s1 a0 a1 = some (rm, s2) ∧ GI s2 ∧ True := by
  obtain ⟨⟨rx, s1⟩, ex, K1⟩ := w_X11_text (a0 := a0) (a1 := a1) (Lk.rf G.1)
  obtain ⟨⟨rm, s2⟩, em, K2⟩ := w_X12_text (a0 := a0) (a1 := a1) (Lk.rf K1.1)
  exact ⟨rx, s1, rm, s2, ex, em, G.go K1.2.1 K1.2.2 K2.2.2 (fun i => K2.zR_ 17 i) K2.1, trivial⟩
theorem st_inForce {s : SS} (G : GI s) (a0 : Int32) (a1 : Int32) (a2 : Int32) : ∃ (rx : Int32) (s1 : SS) (rm : Int32) (s2 : SS), f_X11_inForce s a0 a1 a2 = some rx ∧ f_X12_inForce s a0 a1 a2 = some rm ∧ GI s ∧ True := by
  obtain ⟨rx, ex, -⟩ := w_X11_inForce (a0 := a0) (a1 := a1) (a2 := a2) (Lk.rf G.1)
  obtain ⟨rm, em, -⟩ := w_X12_inForce (a0 := a0) (a1 := a1) (a2 := a2) (Lk.rf G.1)
  exact ⟨rx, s, rm, s, ex, em, G.go (Fr.rf s) (fun _ => rfl) (Fr.rf _) (fun _ => rfl) G.1, trivial⟩
theorem st_says {s : SS} (G : GI s) (a0 : Int32) (a1 : Int32) : ∃ (rx : Int32) (s1 : SS) (rm : Int32) (s2 : SS), f_X11_says s a0 a1 = some (rx, s1) ∧ f_X12_says s1 a0 a1 = some (rm, s2) ∧ GI s2 ∧ True := by
  obtain ⟨⟨rx, s1⟩, ex, K1⟩ := w_X11_says (a0 := a0) (a1 := a1) (Lk.rf G.1)
  obtain ⟨⟨rm, s2⟩, em, K2⟩ := w_X12_says (a0 := a0) (a1 := a1) (Lk.rf K1.1)
  exact ⟨rx, s1, rm, s2, ex, em, G.go K1.2.2 (fun i => K1.zR_ 17 i) K2.2.2 (fun i => K2.zR_ 17 i) K2.1, trivial⟩
theorem st_hours {s : SS} (G : GI s) (a0 : Int32) : ∃ (rx : Int32) (s1 : SS) (rm : Int32) (s2 : SS), f_X11_hours s a0 = some (rx, s1) ∧ f_X12_hours s1 a0 = some (rm, s2) ∧ GI s2 ∧ True := by
  obtain ⟨⟨rx, s1⟩, ex, K1⟩ := w_X11_hours (a0 := a0) (Lk.rf G.1)
  obtain ⟨⟨rm, s2⟩, em, K2⟩ := w_X12_hours (a0 := a0) (Lk.rf K1.1)
  exact ⟨rx, s1, rm, s2, ex, em, G.go K1.2.2 (fun i => K1.zR_ 17 i) K2.2.2 (fun i => K2.zR_ 17 i) K2.1, trivial⟩
theorem st_spoons {s : SS} (G : GI s) (a0 : Int32) : ∃ (rx : Int32) (s1 : SS) (rm : Int32) (s2 : SS), f_X11_spoons s a0 = some (rx, s1) ∧ f_X12_spoons s1 a0 = some (rm, s2) ∧ GI s2 ∧ True := by
  obtain ⟨⟨rx, s1⟩, ex, K1⟩ := w_X11_spoons (a0 := a0) (Lk.rf G.1)
  obtain ⟨⟨rm, s2⟩, em, K2⟩ := w_X12_spoons (a0 := a0) (Lk.rf K1.1)
  exact ⟨rx, s1, rm, s2, ex, em, G.go K1.2.2 (fun i => K1.zR_ 17 i) K2.2.2 (fun i => K2.zR_ 17 i) K2.1, trivial⟩
theorem st_move {s : SS} (G : GI s) (a0 : Int32) (a1 : Int32) : ∃ (rx : Int32) (s1 : SS) (rm : Int32) (s2 : SS), f_X11_move s a0 a1 = some (rx, s1) ∧ f_X12_move s1 a0 a1 = some (rm, s2) ∧ GI s2 ∧ True := by
  obtain ⟨⟨rx, s1⟩, ex, K1⟩ := w_X11_move (a0 := a0) (a1 := a1) (Lk.rf G.1)
  obtain ⟨⟨rm, s2⟩, em, K2⟩ := w_X12_move (a0 := a0) (a1 := a1) (Lk.rf K1.1)
  exact ⟨rx, s1, rm, s2, ex, em, G.go K1.2.2 (fun i => K1.zR_ 17 i) K2.2.2 (fun i => K2.zR_ 17 i) K2.1, trivial⟩
theorem st_last {s : SS} (G : GI s) (a0 : Int32) (a1 : Int32) : ∃ (rx : Int32) (s1 : SS) (rm : Int32) (s2 : SS), f_X11_last s a0 a1 = some (rx, s1) ∧ f_X12_last s1 a0 a1 = some (rm, s2) ∧ GI s2 ∧ True := by
  obtain ⟨⟨rx, s1⟩, ex, K1⟩ := w_X11_last (a0 := a0) (a1 := a1) (Lk.rf G.1)
  obtain ⟨⟨rm, s2⟩, em, K2⟩ := w_X12_last (a0 := a0) (a1 := a1) (Lk.rf K1.1)
  exact ⟨rx, s1, rm, s2, ex, em, G.go K1.2.2 (fun i => K1.zR_ 17 i) K2.2.2 (fun i => K2.zR_ 17 i) K2.1, trivial⟩
theorem st_best {s : SS} (G : GI s) (a0 : Int32) : ∃ (rx : Int32) (s1 : SS) (rm : Int32) (s2 : SS), f_X11_best s a0 = some (rx, s1) ∧ f_X12_best s1 a0 = some (rm, s2) ∧ GI s2 ∧ True := by
  obtain ⟨⟨rx, s1⟩, ex, K1⟩ := w_X11_best (a0 := a0) (Lk.rf G.1)
  obtain ⟨⟨rm, s2⟩, em, K2⟩ := w_X12_best (a0 := a0) (Lk.rf K1.1)
  exact ⟨rx, s1, rm, s2, ex, em, G.go K1.2.2 (fun i => K1.zR_ 17 i) K2.2.2 (fun i => K2.zR_ 17 i) K2.1, trivial⟩
theorem st_down {s : SS} (G : GI s) (a0 : Int32) (a1 : Int32) (a2 : Int32) : ∃ (rx : Int32) (s1 : SS) (rm : Int32) (s2 : SS), f_X11_down s a0 a1 a2 = some (rx, s1) ∧ f_X12_down s1 a0 a1 a2 = some (rm, s2) ∧ GI s2 ∧ True := by
  obtain ⟨⟨rx, s1⟩, ex, K1⟩ := w_X11_down (a0 := a0) (a1 := a1) (a2 := a2) (Lk.rf G.1)
  obtain ⟨⟨rm, s2⟩, em, K2⟩ := w_X12_down (a0 := a0) (a1 := a1) (a2 := a2) (Lk.rf K1.1)
  exact ⟨rx, s1, rm, s2, ex, em, G.go K1.2.2 (fun i => K1.zR_ 17 i) K2.2.2 (fun i => K2.zR_ 17 i) K2.1, trivial⟩
theorem st_below {s : SS} (G : GI s) (a0 : Int32) : ∃ (rx : Int32) (s1 : SS) (rm : Int32) (s2 : SS), f_X11_below s a0 = some rx ∧ f_X12_below s a0 = some rm ∧ GI s ∧ True := by
  obtain ⟨rx, ex, -⟩ := w_X11_below (a0 := a0) (Lk.rf G.1)
  obtain ⟨rm, em, -⟩ := w_X12_below (a0 := a0) (Lk.rf G.1)
  exact ⟨rx, s, rm, s, ex, em, G.go (Fr.rf s) (fun _ => rfl) (Fr.rf _) (fun _ => rfl) G.1, trivial⟩
theorem st_ordered {s : SS} (G : GI s) (a0 : Int32) : ∃ (rx : Int32) (s1 : SS) (rm : Int32) (s2 : SS), f_X11_ordered s a0 = some rx ∧ f_X12_ordered s a0 = some rm ∧ GI s ∧ True := by
  obtain ⟨rx, ex, -⟩ := w_X11_ordered (a0 := a0) (Lk.rf G.1)
  obtain ⟨rm, em, -⟩ := w_X12_ordered (a0 := a0) (Lk.rf G.1)
  exact ⟨rx, s, rm, s, ex, em, G.go (Fr.rf s) (fun _ => rfl) (Fr.rf _) (fun _ => rfl) G.1, trivial⟩
theorem st_watch {s : SS} (G : GI s) (a0 : Int32) (a1 : Int32) : ∃ (rx : Int32) (s1 : SS) (rm : Int32) (s2 : SS), f_X11_watch s a0 a1 = some (rx, s1) ∧ f_X12_watch s1 a0 a1 = some (rm, s2) ∧ GI s2 ∧ True := by
  obtain ⟨⟨rx, s1⟩, ex, K1⟩ := w_X11_watch (a0 := a0) (a1 := a1) (Lk.rf G.1)
  obtain ⟨⟨rm, s2⟩, em, K2⟩ := w_X12_watch (a0 := a0) (a1 := a1) (Lk.rf K1.1)
  exact ⟨rx, s1, rm, s2, ex, em, G.go K1.2.2 (fun i => K1.zR_ 17 i) K2.2.2 (fun i => K2.zR_ 17 i) K2.1, trivial⟩
theorem st_watched {s : SS} (G : GI s) (a0 : Int32) (a1 : Int32) : ∃ (rx : Int32) (s1 : SS) (rm : Int32) (s2 : SS), f_X11_watched s a0 a1 = some rx ∧ f_X12_watched s a0 a1 = some rm ∧ GI s ∧ True := by
  obtain ⟨rx, ex, -⟩ := w_X11_watched (a0 := a0) (a1 := a1) (Lk.rf G.1)
  obtain ⟨rm, em, -⟩ := w_X12_watched (a0 := a0) (a1 := a1) (Lk.rf G.1)
  exact ⟨rx, s, rm, s, ex, em, G.go (Fr.rf s) (fun _ => rfl) (Fr.rf _) (fun _ => rfl) G.1, trivial⟩
theorem st_aimedAt {s : SS} (G : GI s) (a0 : Int32) (a1 : Int32) : ∃ (rx : Int32) (s1 : SS) (rm : Int32) (s2 : SS), f_X11_aimedAt s a0 a1 = some rx ∧ f_X12_aimedAt s a0 a1 = some rm ∧ GI s ∧ True := by
  obtain ⟨rx, ex, -⟩ := w_X11_aimedAt (a0 := a0) (a1 := a1) (Lk.rf G.1)
  obtain ⟨rm, em, -⟩ := w_X12_aimedAt (a0 := a0) (a1 := a1) (Lk.rf G.1)
  exact ⟨rx, s, rm, s, ex, em, G.go (Fr.rf s) (fun _ => rfl) (Fr.rf _) (fun _ => rfl) G.1, trivial⟩
theorem st_race {s : SS} (G : GI s) (a0 : Int32) (a1 : Int32) (a2 : Int32) : ∃ (rx : Int32) (s1 : SS) (rm : Int32) (s2 : SS), f_X11_race s a0 a1 a2 = some rx ∧ f_X12_race s a0 a1 a2 = some rm ∧ GI s ∧ True := by
  obtain ⟨rx, ex, -⟩ := w_X11_race (a0 := a0) (a1 := a1) (a2 := a2) (Lk.rf G.1)
  obtain ⟨rm, em, -⟩ := w_X12_race (a0 := a0) (a1 := a1) (a2 := a2) (Lk.rf G.1)
  exact ⟨rx, s, rm, s, ex, em, G.go (Fr.rf s) (fun _ => rfl) (Fr.rf _) (fun _ => rfl) G.1, trivial⟩
theorem st_capsule {s : SS} (G : GI s) (a0 : Int32) : ∃ (rx : Int32) (s1 : SS) (rm : Int32) (s2 : SS), f_X11_capsule s a0 = some (rx, s1) ∧ f_X12_capsule s1 a0 = some (rm, s2) ∧ GI s2 ∧ True := by
  obtain ⟨⟨rx, s1⟩, ex, K1⟩ := w_X11_capsule (a0 := a0) (Lk.rf G.1)
  obtain ⟨⟨rm, s2⟩, em, K2⟩ := w_X12_capsule (a0 := a0) (Lk.rf K1.1)
  exact ⟨rx, s1, rm, s2, ex, em, G.go K1.2.2 (fun i => K1.zR_ 17 i) K2.2.2 (fun i => K2.zR_ 17 i) K2.1, trivial⟩
theorem st_up {s : SS} (G : GI s) (a0 : Int32) (a1 : Int32) : ∃ (rx : Int32) (s1 : SS) (rm : Int32) (s2 : SS), f_X11_up s a0 a1 = some rx ∧ f_X12_up s a0 a1 = some rm ∧ GI s ∧ True := by
  obtain ⟨rx, ex, -⟩ := w_X11_up (a0 := a0) (a1 := a1) (Lk.rf G.1)
  obtain ⟨rm, em, -⟩ := w_X12_up (a0 := a0) (a1 := a1) (Lk.rf G.1)
  exact ⟨rx, s, rm, s, ex, em, G.go (Fr.rf s) (fun _ => rfl) (Fr.rf _) (fun _ => rfl) G.1, trivial⟩
theorem st_raise {s : SS} (G : GI s) (a0 : Int32) : ∃ (rx : Int32) (s1 : SS) (rm : Int32) (s2 : SS), f_X11_raise s a0 = some (rx, s1) ∧ f_X12_raise s1 a0 = some (rm, s2) ∧ GI s2 ∧ True := by
  obtain ⟨⟨rx, s1⟩, ex, K1⟩ := w_X11_raise (a0 := a0) (Lk.rf G.1)
  obtain ⟨⟨rm, s2⟩, em, K2⟩ := w_X12_raise (a0 := a0) (Lk.rf K1.1)
  exact ⟨rx, s1, rm, s2, ex, em, G.go K1.2.2 (fun i => K1.zR_ 17 i) K2.2.2 (fun i => K2.zR_ 17 i) K2.1, trivial⟩
theorem st_act {s : SS} (G : GI s) (a0 : Int32) (a1 : Int32) (a2 : Int32) : ∃ (rx : Int32) (s1 : SS) (rm : Int32) (s2 : SS), f_X11_act s a0 a1 a2 = some (rx, s1) ∧ f_X12_act s1 a0 a1 a2 = some (rm, s2) ∧ GI s2 ∧ True := by
  obtain ⟨⟨rx, s1⟩, ex, K1⟩ := w_X11_act (a0 := a0) (a1 := a1) (a2 := a2) (Lk.rf G.1)
  obtain ⟨⟨rm, s2⟩, em, K2⟩ := w_X12_act (a0 := a0) (a1 := a1) (a2 := a2) (Lk.rf K1.1)
  exact ⟨rx, s1, rm, s2, ex, em, G.go K1.2.2 (fun i => K1.zR_ 17 i) K2.2.2 (fun i => K2.zR_ 17 i) K2.1, trivial⟩
theorem st_trace {s : SS} (G : GI s) (a0 : Int32) : ∃ (rx : Int32) (s1 : SS) (rm : Int32) (s2 : SS), f_X11_trace s a0 = some rx ∧ f_X12_trace s a0 = some rm ∧ GI s ∧ True := by
  obtain ⟨rx, ex, -⟩ := w_X11_trace (a0 := a0) (Lk.rf G.1)
  obtain ⟨rm, em, -⟩ := w_X12_trace (a0 := a0) (Lk.rf G.1)
  exact ⟨rx, s, rm, s, ex, em, G.go (Fr.rf s) (fun _ => rfl) (Fr.rf _) (fun _ => rfl) G.1, trivial⟩
theorem st_count {s : SS} (G : GI s) (a0 : Int32) : ∃ (rx : Int32) (s1 : SS) (rm : Int32) (s2 : SS), f_X11_count s a0 = some rx ∧ f_X12_count s a0 = some rm ∧ GI s ∧ True := by
  obtain ⟨rx, ex, -⟩ := w_X11_count (a0 := a0) (Lk.rf G.1)
  obtain ⟨rm, em, -⟩ := w_X12_count (a0 := a0) (Lk.rf G.1)
  exact ⟨rx, s, rm, s, ex, em, G.go (Fr.rf s) (fun _ => rfl) (Fr.rf _) (fun _ => rfl) G.1, trivial⟩
