theorem sR_id (R : kN) (q : Nat) : sR R q (R q) = R := by
  funext i
  show (if i = q then R q else R i) = R i
  by_cases h : i = q
  · rw [if_pos h, h]
  · rw [if_neg h]
theorem sR_sR (R : kN) (q : Nat) (r t : Nat → Int32) : sR (sR R q r) q t = sR R q t := by
  funext i
  show (if i = q then t else (if i = q then r else R i)) = (if i = q then t else R i)
  by_cases h : i = q
  · rw [if_pos h, if_pos h]
  · rw [if_neg h, if_neg h, if_neg h]
theorem kcy_full (f g : Nat → Int32) {j : Nat} (h : j < 1497) : kcy f g 0 0 1497 j = f j := by
  show (if 0 ≤ j ∧ j < 0 + 1497 then f (0 + (j - 0)) else g j) = f j
  rw [if_pos (by omega)]
  congr 1
  omega
theorem wR_D {A : Nat → Prop} {Y : Nat → ClassId} {b : Nat → Nat} {M N : kN} (h : va_D A (wR Y b M)) : va_D A (wR Y b N) := kD_same (ws := wR Y b M) (w1 := wR Y b N) rfl h
theorem wM_D {A : Nat → Prop} {Y : Nat → ClassId} {b : Nat → Nat} {M N : kN} (h : va_D A (wM Y b M)) : va_D A (wM Y b N) := kD_same (ws := wM Y b M) (w1 := wM Y b N) rfl h
