/-! the start: what the Statement gives of statics -/
section ENV
variable {s : State} {b : Nat}
theorem ev_LEAST (hs : ∀ w ∈ flatC (Jvm.Cond.and given_1 narrow_1), w.before #[Value.ref b] s = true) : ∀ j, j < 7 → (Cond.eq (.elem (.static RX3 "LEAST" "[I") (.int (Int32.ofNat j))) (.int (kLo.getD j 0))).before #[Value.ref b] s = true := by
  intro j hj
  rcases (show j = 0 ∨ j = 1 ∨ j = 2 ∨ j = 3 ∨ j = 4 ∨ j = 5 ∨ j = 6 by omega) with rfl | rfl | rfl | rfl | rfl | rfl | rfl
  · exact hs _ (by decide +kernel)
  · exact hs _ (by decide +kernel)
  · exact hs _ (by decide +kernel)
  · exact hs _ (by decide +kernel)
  · exact hs _ (by decide +kernel)
  · exact hs _ (by decide +kernel)
  · exact hs _ (by decide +kernel)
theorem ev_MOST (hs : ∀ w ∈ flatC (Jvm.Cond.and given_1 narrow_1), w.before #[Value.ref b] s = true) : ∀ j, j < 7 → (Cond.eq (.elem (.static RX3 "MOST" "[I") (.int (Int32.ofNat j))) (.int (kHi.getD j 0))).before #[Value.ref b] s = true := by
  intro j hj
  rcases (show j = 0 ∨ j = 1 ∨ j = 2 ∨ j = 3 ∨ j = 4 ∨ j = 5 ∨ j = 6 by omega) with rfl | rfl | rfl | rfl | rfl | rfl | rfl
  · exact hs _ (by decide +kernel)
  · exact hs _ (by decide +kernel)
  · exact hs _ (by decide +kernel)
  · exact hs _ (by decide +kernel)
  · exact hs _ (by decide +kernel)
  · exact hs _ (by decide +kernel)
  · exact hs _ (by decide +kernel)
theorem et_LEAST : Cond.laysStatic RX3 "LEAST" "[I" ∈ lw_tbl := List.mem_of_getElem? (i := 516) (by decide +kernel)
theorem et_MOST : Cond.laysStatic RX3 "MOST" "[I" ∈ lw_tbl := List.mem_of_getElem? (i := 518) (by decide +kernel)
theorem et_iM : Cond.initialized RX3 ∈ lw_tbl := List.mem_of_getElem? (i := 11) (by decide +kernel)
theorem et_AO : Cond.arrayOver (.object RX3) ∈ lw_tbl := List.mem_of_getElem? (i := 189) (by decide +kernel)
theorem kE_start (hts : ∀ w ∈ lw_tbl, w.before #[Value.ref b] s = true) (hgv : (Jvm.Cond.and given_1 narrow_1).before #[Value.ref b] s = true) : ∃ ad av : Nat → Nat, kE ad av (fun q => s.heap.size ≤ q) s s.heap := by
  have hs := flat_of_before _ hgv
  have hA : ∀ a : Nat, a < s.heap.size → ¬ (fun q : Nat => s.heap.size ≤ q) a := fun a h => Nat.not_le.mpr h
  obtain ⟨t6, g6, l6⟩ := va_Tof (args := #[Value.ref b]) (s := s) (tm := .static RX3 "LEAST" "[I") (ty := .int) (N := 7) (f := fun j => .int (kLo.getD j 0)) (A := fun q => s.heap.size ≤ q) (by decide) (hs _ (by decide +kernel)) (va_eqt (hs (.eq (.length (.static RX3 "LEAST" "[I")) (.int (Int32.ofNat 7))) (by decide +kernel))) (fun j hj => va_eqt (ev_LEAST hs j hj)) hA
  obtain ⟨t7, g7, l7⟩ := va_Tof (args := #[Value.ref b]) (s := s) (tm := .static RX3 "MOST" "[I") (ty := .int) (N := 7) (f := fun j => .int (kHi.getD j 0)) (A := fun q => s.heap.size ≤ q) (by decide) (hs _ (by decide +kernel)) (va_eqt (hs (.eq (.length (.static RX3 "MOST" "[I")) (.int (Int32.ofNat 7))) (by decide +kernel))) (fun j hj => va_eqt (ev_MOST hs j hj)) hA
  refine ⟨fun _ => 0, fun i => if i = 6 then t6 else t7, trivial, trivial, trivial, trivial, ⟨?_, ?_⟩, ⟨?_, ?_⟩⟩
  · exact va_Zref (hts _ et_LEAST) (hts _ et_iM) g6 hA
  · exact l6
  · exact va_Zref (hts _ et_MOST) (hts _ et_iM) g7 hA
  · exact l7
end ENV
