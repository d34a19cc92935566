/-- the words of the tables that a call hands on -/
def kAL : List Cond := lw_tbl.filter goodWord
theorem al_in {w : Cond} (h : w ∈ lw_tbl) (g : goodWord w = true) : w ∈ kAL := List.mem_filter.mpr ⟨h, g⟩
theorem al_tbl : ∀ w ∈ kAL, w ∈ lw_tbl := fun w h => (List.mem_filter.mp h).1
theorem al_good : ∀ w ∈ kAL, goodWord w = true := fun w h => (List.mem_filter.mp h).2
theorem al_1 {w : Cond} {ws : List Cond} (h : w ∈ kAL) (g : GoodIn kAL ws) : GoodIn kAL (w :: ws) := by
  intro v hv
  rcases List.mem_cons.mp hv with rfl | hv
  · exact ⟨h, good_of_word (al_good _ h)⟩
  · exact g v hv
theorem al_0 : GoodIn kAL kAL := fun v hv => ⟨hv, good_of_word (al_good _ hv)⟩
theorem inT0 : ∀ w ∈ wsX00, w ∈ lw_tbl := by decide +kernel
theorem inA0 : ∀ w ∈ wsX00, w ∈ kAL := fun w h => al_in (inT0 w h) (List.all_eq_true.mp (by decide +kernel : wsX00.all goodWord = true) w h)
theorem inT1 : ∀ w ∈ wsX10, w ∈ lw_tbl := by decide +kernel
theorem inA1 : ∀ w ∈ wsX10, w ∈ kAL := fun w h => al_in (inT1 w h) (List.all_eq_true.mp (by decide +kernel : wsX10.all goodWord = true) w h)
theorem inT2 : ∀ w ∈ wsX20, w ∈ lw_tbl := by decide +kernel
theorem inA2 : ∀ w ∈ wsX20, w ∈ kAL := fun w h => al_in (inT2 w h) (List.all_eq_true.mp (by decide +kernel : wsX20.all goodWord = true) w h)
theorem inT3 : ∀ w ∈ wsX30, w ∈ lw_tbl := by decide +kernel
theorem inA3 : ∀ w ∈ wsX30, w ∈ kAL := fun w h => al_in (inT3 w h) (List.all_eq_true.mp (by decide +kernel : wsX30.all goodWord = true) w h)
theorem inT4 : ∀ w ∈ wsX40, w ∈ lw_tbl := by decide +kernel
theorem inA4 : ∀ w ∈ wsX40, w ∈ kAL := fun w h => al_in (inT4 w h) (List.all_eq_true.mp (by decide +kernel : wsX40.all goodWord = true) w h)
theorem inT5 : ∀ w ∈ wsX50, w ∈ lw_tbl := by decide +kernel
theorem inA5 : ∀ w ∈ wsX50, w ∈ kAL := fun w h => al_in (inT5 w h) (List.all_eq_true.mp (by decide +kernel : wsX50.all goodWord = true) w h)
theorem inT6 : ∀ w ∈ wsX60, w ∈ lw_tbl := by decide +kernel
theorem inA6 : ∀ w ∈ wsX60, w ∈ kAL := fun w h => al_in (inT6 w h) (List.all_eq_true.mp (by decide +kernel : wsX60.all goodWord = true) w h)
theorem inT7 : ∀ w ∈ wsX70, w ∈ lw_tbl := by decide +kernel
theorem inA7 : ∀ w ∈ wsX70, w ∈ kAL := fun w h => al_in (inT7 w h) (List.all_eq_true.mp (by decide +kernel : wsX70.all goodWord = true) w h)
