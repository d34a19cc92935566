/-! the class and the reference between calls -/
theorem kSm_ext {nF nS nY : Nat} {M : kN} {s u : kS} (h : kSm nF nS nY M s) (hF : nF ≤ 30) (hS : nS ≤ 5) (hY : nY ≤ 400) (e : ∀ j, j < 1497 → u j = s j) : kSm nF nS nY M u := by
  intro q k j hj
  have hl : j < 1497 := by
    rcases hj with hj | hj | hj | hj | hj | hj | ⟨hj0, hj | hj | hj | hj | hj | hj | hj⟩ <;> omega
  rw [e j hl]
  exact h q k j hj
