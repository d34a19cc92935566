theorem mLeft0 {a b : Int32} (h : ¬ b - mLeast a b = 0) : a - mLeast a b = 0 := by
  unfold mLeast at h ⊢
  by_cases c : b ≤ a
  · rw [if_pos c] at h
    exact absurd (i_sub0.mpr rfl) h
  · rw [if_neg c]
    exact i_sub0.mpr rfl
