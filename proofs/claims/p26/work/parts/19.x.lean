theorem row0 {Y : Nat → ClassId} {b : Nat → Nat} {N : kN} {r : Nat → Int32} (e : N 0 = r) : wR Y b (sR N 0 r) = wR Y b N := by
  subst e
  rfl
