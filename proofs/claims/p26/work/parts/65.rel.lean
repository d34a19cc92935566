def kRel (M : kN) (F : kFm) (o z : Nat) (P : Nat → Int32) (n vc : Nat) (R : kN) : Prop :=
  kOK M (R 0) ∧ (R 7 1 = nI n ∧ n ≤ 80 ∧ P = R 5 ∧ vc ≤ 4 ∧ ∀ k, k < 80 → kChr (P k)) ∧ (R 7 0 = nI z ∧ z ≤ 6 ∧ o < 7) ∧
  (∀ j, j < z → ∃ (α : Nat → Nat) (X : kN), F ((o + j) % 7) = some (α, X) ∧ kOK X (fun i => R 2 (1497 * j + i))) ∧
  ∀ q, q < 2 → (R 4 q = 0 ∧ F (7 + q) = none) ∨ (R 4 q = 1 ∧ ∃ (α : Nat → Nat) (X : kN), F (7 + q) = some (α, X) ∧ kOK X (fun i => R 3 (1497 * q + i)))
