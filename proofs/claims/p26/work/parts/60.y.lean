theorem cDays_S (M : kN) (idle : Int32) (k : Nat) : cDays M idle (k + 1) = cDay (cDays M idle k) (nI k < idle) := rfl
theorem kw_set {Y : Nat → ClassId} {F : kFm} (pre : List va_W) (b : va_W) (post : List va_W) (n j : Nat) (x : Nat × va_E) (hn : pre.flatten.length + j = n) (hj : j < b.length) : (kw Y (pre ++ b :: post) F).set n x = kw Y (pre ++ b.set j x :: post) F := by
  subst hn
  have e : ∀ c : va_W, kw Y (pre ++ c :: post) F = pre.flatten ++ (c ++ (post ++ (List.range 9).map (kOb Y F)).flatten) := fun c => by
    unfold kw
    rw [List.append_assoc, List.flatten_append, List.cons_append, List.flatten_cons]
  rw [e, e, List.set_append_right _ _ (by omega), Nat.add_sub_cancel_left, List.set_append_left _ _ hj]
theorem wM_set1 (Y : Nat → ClassId) (b : Nat → Nat) (T0 : kN) (v : Int32) : (wM Y b T0).set 1 (b 1, .inl (Y 0, 7, .inl (upd (T0 0) 0 v))) = wM Y b (sM T0 0 0 v) := rfl
theorem kw_set5 (x0 x1 x2 x3 : Nat × va_E) (Y : Nat → ClassId) (a : Nat → Nat) (M : kN) (b : Nat → Nat) (T0 : kN) (g : va_W) (F : kFm) (v : Int32) : (kw Y [[x0], [x1], [x2], [x3], wM Y a M, wM Y b T0, g] F).set 29 (b 1, .inl (Y 0, 7, .inl (upd (T0 0) 0 v))) = kw Y [[x0], [x1], [x2], [x3], wM Y a M, wM Y b (sM T0 0 0 v), g] F := by
  have h := kw_set (F := F) (Y := Y) [[x0], [x1], [x2], [x3], wM Y a M] (wM Y b T0) [g] 29 1 (b 1, .inl (Y 0, 7, .inl (upd (T0 0) 0 v))) (by
    rw [List.flatten_cons, List.flatten_cons, List.flatten_cons, List.flatten_cons, List.flatten_cons, List.length_append, List.length_append, List.length_append, List.length_append, List.length_append, wM_len]
    rfl) (by rw [wM_len]; omega)
  rw [wM_set1] at h
  exact h
