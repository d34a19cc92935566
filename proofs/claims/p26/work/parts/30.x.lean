theorem upd_id {f : Nat → Int32} {k : Nat} {v : Int32} (h : f k = v) : upd f k v = f := by
  funext i
  show (if i = k then v else f i) = f i
  by_cases c : i = k
  · rw [if_pos c, c, h]
  · rw [if_neg c]
theorem sM_id {R : kN} {q k : Nat} {v : Int32} (h : R q k = v) : sM R q k v = R := by
  funext i
  show (if i = q then upd (R q) k v else R i) = R i
  by_cases c : i = q
  · rw [if_pos c, upd_id h, c]
  · rw [if_neg c]
