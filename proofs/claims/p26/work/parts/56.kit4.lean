/-! the class's own world -/
/-- the addresses of n places from i on -/
def kAn (F : kFm) (i n : Nat) : Nat → Option Nat := fun q => if q < n then (F (i + q)).map (fun x => x.1 0) else none
def wC (Y : Nat → ClassId) (w a b d : Nat → Nat) (M N : kN) (F : kFm) (o z : Nat) (P : Nat → Int32) (n t : Nat) (kd : Int32) (V : Nat → Int32) (vc : Nat) : va_W :=
  kw Y [[(w 0, .inr (7, [.ref (a 0), .ref (b 0), .ref (w 1), .ref (w 2), .ref (d 0)]))], [(w 1, .inr (2, [.ref (w 3), .int (nI o), .int (nI z)]))], [(w 2, .inl (Y 3, 2, .inr (.inr (.inr (.inr (kAn F 7 2))))))], [(w 3, .inl (Y 3, 7, .inr (.inr (.inr (.inr (kAn F 0 7))))))], wM Y a M, wM Y b N, wP Y d P n t kd V vc] F
theorem kRem7 {a : Nat} (h : a < 2 ^ 31) : nI a - nI a / 7 * 7 = nI (a % 7) := by
  apply Int32.toInt_inj.mp
  rw [rem_toInt, nI_toInt h, nI_toInt (by omega)]
  have e : (7 : Int32).toInt = 7 := by decide
  rw [e]
  show Int.tmod (a : Int) ((7 : Nat) : Int) = _
  rw [← Int.ofNat_tmod]
theorem kAn_n {F : kFm} {i n q : Nat} (hq : q < n) (h : F (i + q) = none) : va_rf (kAn F i n q) = .null := by
  unfold kAn
  rw [if_pos hq, h]
  rfl
theorem kAn_s {F : kFm} {i n q : Nat} {α : Nat → Nat} {X : kN} (hq : q < n) (h : F (i + q) = some (α, X)) : va_rf (kAn F i n q) = .ref (α 0) := by
  unfold kAn
  rw [if_pos hq, h]
  rfl
theorem kUp_up (F : kFm) (q : Nat) (x y : (Nat → Nat) × kN) : kUp (kUp F q x) q y = kUp F q y := by
  funext j
  show (if j = q then some y else if j = q then some x else F j) = if j = q then some y else F j
  by_cases h : j = q
  · rw [if_pos h, if_pos h]
  · rw [if_neg h, if_neg h, if_neg h]
theorem kUp_s (F : kFm) (q : Nat) (x : (Nat → Nat) × kN) : kUp F q x q = some x := if_pos rfl
theorem kUp_o {F : kFm} {q j : Nat} {x : (Nat → Nat) × kN} (h : j ≠ q) : kUp F q x j = F j := if_neg h
theorem kAn_up {F : kFm} {i n q : Nat} {x : (Nat → Nat) × kN} (hq : q < n) : va_up (kAn F i n) q (some (x.1 0)) = kAn (kUp F (i + q) x) i n := by
  funext j
  show (if j = q then some (x.1 0) else (if j < n then (F (i + j)).map _ else none)) = (if j < n then (kUp F (i + q) x (i + j)).map _ else none)
  by_cases h : j = q
  · subst h
    rw [if_pos rfl, if_pos hq, kUp_s]
    rfl
  · rw [if_neg h, kUp_o (by omega)]
theorem kAn_same {F : kFm} {i n q : Nat} {α : Nat → Nat} {X X' : kN} (h : F q = some (α, X)) : kAn (kUp F q (α, X')) i n = kAn F i n := by
  funext j
  show (if j < n then (kUp F q (α, X') (i + j)).map _ else none) = (if j < n then (F (i + j)).map _ else none)
  by_cases c : i + j = q
  · rw [c, kUp_s, h]
    rfl
  · rw [kUp_o c]
theorem kAn_oth {F : kFm} {i n q : Nat} {x : (Nat → Nat) × kN} (h : q < i ∨ i + n ≤ q) : kAn (kUp F q x) i n = kAn F i n := by
  funext j
  show (if j < n then (kUp F q x (i + j)).map _ else none) = (if j < n then (F (i + j)).map _ else none)
  by_cases c : j < n
  · rw [kUp_o (by omega)]
  · rw [if_neg c, if_neg c]
theorem kAn_0 (i n : Nat) : kAn (fun _ => none) i n = fun _ => none := by
  funext j
  show (if j < n then none else none) = none
  by_cases c : j < n
  · rw [if_pos c]
  · rw [if_neg c]
/-- the state in the history's next place, and what is recorded -/
def cRecd (v : Int32) (o z : Nat) : Nat × Nat := if v < 0 then (o, z) else (if z < 6 then (o, z + 1) else ((o + 1) % 7, z))
def kPrep (M : kN) (F : kFm) (pl : Nat) (F' : kFm) : Prop := ∃ (α : Nat → Nat) (X : kN), F' = kUp F pl (α, cCopy M X)
def kSt (M : kN) (F : kFm) (o z : Nat) (r : Int32) (M' : kN) (u : kN × kFm × Nat × Nat) : Prop := u.1 = M' ∧ kPrep M F ((o + z) % 7) u.2.1 ∧ u.2.2 = cRecd r o z
