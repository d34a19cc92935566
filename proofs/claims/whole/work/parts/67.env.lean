/-! the start: what the Statement gives of statics and of String constants -/
section ENV
variable {s : State} {b : Nat}
theorem ev_ex (hs : ∀ w ∈ flatC (Jvm.Cond.and given_1 narrow_1), w.before #[Value.ref b] s = true) : ∀ i, i < 6 → (Cond.exactly (Term.string RX4 (73 + 2 * i)) "java/lang/String").before #[Value.ref b] s = true := by
  intro i hi
  rcases (show i = 0 ∨ i = 1 ∨ i = 2 ∨ i = 3 ∨ i = 4 ∨ i = 5 by omega) with rfl | rfl | rfl | rfl | rfl | rfl
  · exact hs _ (by decide +kernel)
  · exact hs _ (by decide +kernel)
  · exact hs _ (by decide +kernel)
  · exact hs _ (by decide +kernel)
  · exact hs _ (by decide +kernel)
  · exact hs _ (by decide +kernel)
theorem ev_co (hs : ∀ w ∈ flatC (Jvm.Cond.and given_1 narrow_1), w.before #[Value.ref b] s = true) : ∀ i, i < 6 → (Cond.eq (.field (Term.string RX4 (73 + 2 * i)) "java/lang/String" "coder" "B") (.int 0)).before #[Value.ref b] s = true := by
  intro i hi
  rcases (show i = 0 ∨ i = 1 ∨ i = 2 ∨ i = 3 ∨ i = 4 ∨ i = 5 by omega) with rfl | rfl | rfl | rfl | rfl | rfl
  · exact hs _ (by decide +kernel)
  · exact hs _ (by decide +kernel)
  · exact hs _ (by decide +kernel)
  · exact hs _ (by decide +kernel)
  · exact hs _ (by decide +kernel)
  · exact hs _ (by decide +kernel)
theorem ev_ar (hs : ∀ w ∈ flatC (Jvm.Cond.and given_1 narrow_1), w.before #[Value.ref b] s = true) : ∀ i, i < 6 → (Cond.arrayOf (.field (Term.string RX4 (73 + 2 * i)) "java/lang/String" "value" "[B") .byte).before #[Value.ref b] s = true := by
  intro i hi
  rcases (show i = 0 ∨ i = 1 ∨ i = 2 ∨ i = 3 ∨ i = 4 ∨ i = 5 by omega) with rfl | rfl | rfl | rfl | rfl | rfl
  · exact hs _ (by decide +kernel)
  · exact hs _ (by decide +kernel)
  · exact hs _ (by decide +kernel)
  · exact hs _ (by decide +kernel)
  · exact hs _ (by decide +kernel)
  · exact hs _ (by decide +kernel)
theorem ev_le (hs : ∀ w ∈ flatC (Jvm.Cond.and given_1 narrow_1), w.before #[Value.ref b] s = true) : ∀ i, i < 6 → (Cond.eq (.length (.field (Term.string RX4 (73 + 2 * i)) "java/lang/String" "value" "[B")) (.int (Int32.ofNat (kLen.getD i 0)))).before #[Value.ref b] s = true := by
  intro i hi
  rcases (show i = 0 ∨ i = 1 ∨ i = 2 ∨ i = 3 ∨ i = 4 ∨ i = 5 by omega) with rfl | rfl | rfl | rfl | rfl | rfl
  · exact hs _ (by decide +kernel)
  · exact hs _ (by decide +kernel)
  · exact hs _ (by decide +kernel)
  · exact hs _ (by decide +kernel)
  · exact hs _ (by decide +kernel)
  · exact hs _ (by decide +kernel)
theorem ev_el0 (hs : ∀ w ∈ flatC (Jvm.Cond.and given_1 narrow_1), w.before #[Value.ref b] s = true) : ∀ j, j < 8 → (Cond.eq (.elem (.field (Term.string RX4 73) "java/lang/String" "value" "[B") (.int (Int32.ofNat j))) (.int ((kByt.getD 0 []).getD j 0))).before #[Value.ref b] s = true := by
  intro j hj
  rcases (show j = 0 ∨ j = 1 ∨ j = 2 ∨ j = 3 ∨ j = 4 ∨ j = 5 ∨ j = 6 ∨ j = 7 by omega) with rfl | rfl | rfl | rfl | rfl | rfl | rfl | rfl
  · exact hs _ (by decide +kernel)
  · exact hs _ (by decide +kernel)
  · exact hs _ (by decide +kernel)
  · exact hs _ (by decide +kernel)
  · exact hs _ (by decide +kernel)
  · exact hs _ (by decide +kernel)
  · exact hs _ (by decide +kernel)
  · exact hs _ (by decide +kernel)
theorem ev_el1 (hs : ∀ w ∈ flatC (Jvm.Cond.and given_1 narrow_1), w.before #[Value.ref b] s = true) : ∀ j, j < 4 → (Cond.eq (.elem (.field (Term.string RX4 75) "java/lang/String" "value" "[B") (.int (Int32.ofNat j))) (.int ((kByt.getD 1 []).getD j 0))).before #[Value.ref b] s = true := by
  intro j hj
  rcases (show j = 0 ∨ j = 1 ∨ j = 2 ∨ j = 3 by omega) with rfl | rfl | rfl | rfl
  · exact hs _ (by decide +kernel)
  · exact hs _ (by decide +kernel)
  · exact hs _ (by decide +kernel)
  · exact hs _ (by decide +kernel)
theorem ev_el2 (hs : ∀ w ∈ flatC (Jvm.Cond.and given_1 narrow_1), w.before #[Value.ref b] s = true) : ∀ j, j < 6 → (Cond.eq (.elem (.field (Term.string RX4 77) "java/lang/String" "value" "[B") (.int (Int32.ofNat j))) (.int ((kByt.getD 2 []).getD j 0))).before #[Value.ref b] s = true := by
  intro j hj
  rcases (show j = 0 ∨ j = 1 ∨ j = 2 ∨ j = 3 ∨ j = 4 ∨ j = 5 by omega) with rfl | rfl | rfl | rfl | rfl | rfl
  · exact hs _ (by decide +kernel)
  · exact hs _ (by decide +kernel)
  · exact hs _ (by decide +kernel)
  · exact hs _ (by decide +kernel)
  · exact hs _ (by decide +kernel)
  · exact hs _ (by decide +kernel)
theorem ev_el3 (hs : ∀ w ∈ flatC (Jvm.Cond.and given_1 narrow_1), w.before #[Value.ref b] s = true) : ∀ j, j < 4 → (Cond.eq (.elem (.field (Term.string RX4 79) "java/lang/String" "value" "[B") (.int (Int32.ofNat j))) (.int ((kByt.getD 3 []).getD j 0))).before #[Value.ref b] s = true := by
  intro j hj
  rcases (show j = 0 ∨ j = 1 ∨ j = 2 ∨ j = 3 by omega) with rfl | rfl | rfl | rfl
  · exact hs _ (by decide +kernel)
  · exact hs _ (by decide +kernel)
  · exact hs _ (by decide +kernel)
  · exact hs _ (by decide +kernel)
theorem ev_el4 (hs : ∀ w ∈ flatC (Jvm.Cond.and given_1 narrow_1), w.before #[Value.ref b] s = true) : ∀ j, j < 2 → (Cond.eq (.elem (.field (Term.string RX4 81) "java/lang/String" "value" "[B") (.int (Int32.ofNat j))) (.int ((kByt.getD 4 []).getD j 0))).before #[Value.ref b] s = true := by
  intro j hj
  rcases (show j = 0 ∨ j = 1 by omega) with rfl | rfl
  · exact hs _ (by decide +kernel)
  · exact hs _ (by decide +kernel)
theorem ev_el (hs : ∀ w ∈ flatC (Jvm.Cond.and given_1 narrow_1), w.before #[Value.ref b] s = true) : ∀ i, i < 6 → ∀ j, j < kLen.getD i 0 → (Cond.eq (.elem (.field (Term.string RX4 (73 + 2 * i)) "java/lang/String" "value" "[B") (.int (Int32.ofNat j))) (.int ((kByt.getD i []).getD j 0))).before #[Value.ref b] s = true := by
  intro i hi j hj
  rcases (show i = 0 ∨ i = 1 ∨ i = 2 ∨ i = 3 ∨ i = 4 ∨ i = 5 by omega) with rfl | rfl | rfl | rfl | rfl | rfl
  · exact ev_el0 hs j hj
  · exact ev_el1 hs j hj
  · exact ev_el2 hs j hj
  · exact ev_el3 hs j hj
  · exact ev_el4 hs j hj
  · exact absurd hj (Nat.not_lt_zero _)
theorem ev_ne (hs : ∀ w ∈ flatC (Jvm.Cond.and given_1 narrow_1), w.before #[Value.ref b] s = true) : ∀ i j, i < 6 → j < 6 → i ≠ j → (Cond.not (Cond.eq (Term.string RX4 (73 + 2 * i)) (Term.string RX4 (73 + 2 * j)))).before #[Value.ref b] s = true ∨ (Cond.not (Cond.eq (Term.string RX4 (73 + 2 * j)) (Term.string RX4 (73 + 2 * i)))).before #[Value.ref b] s = true := by
  intro i j hi hj hij
  have key : ∀ a c, a < c → c < 6 → (Cond.not (Cond.eq (Term.string RX4 (73 + 2 * a)) (Term.string RX4 (73 + 2 * c)))).before #[Value.ref b] s = true := by
    intro a c hac hc
    rcases (show (a = 0 ∧ c = 1) ∨ (a = 0 ∧ c = 2) ∨ (a = 1 ∧ c = 2) ∨ (a = 0 ∧ c = 3) ∨ (a = 1 ∧ c = 3) ∨ (a = 2 ∧ c = 3) ∨ (a = 0 ∧ c = 4) ∨ (a = 1 ∧ c = 4) ∨ (a = 2 ∧ c = 4) ∨ (a = 3 ∧ c = 4) ∨ (a = 0 ∧ c = 5) ∨ (a = 1 ∧ c = 5) ∨ (a = 2 ∧ c = 5) ∨ (a = 3 ∧ c = 5) ∨ (a = 4 ∧ c = 5) by omega) with ⟨rfl, rfl⟩ | ⟨rfl, rfl⟩ | ⟨rfl, rfl⟩ | ⟨rfl, rfl⟩ | ⟨rfl, rfl⟩ | ⟨rfl, rfl⟩ | ⟨rfl, rfl⟩ | ⟨rfl, rfl⟩ | ⟨rfl, rfl⟩ | ⟨rfl, rfl⟩ | ⟨rfl, rfl⟩ | ⟨rfl, rfl⟩ | ⟨rfl, rfl⟩ | ⟨rfl, rfl⟩ | ⟨rfl, rfl⟩
    · exact hs _ (by decide +kernel)
    · exact hs _ (by decide +kernel)
    · exact hs _ (by decide +kernel)
    · exact hs _ (by decide +kernel)
    · exact hs _ (by decide +kernel)
    · exact hs _ (by decide +kernel)
    · exact hs _ (by decide +kernel)
    · exact hs _ (by decide +kernel)
    · exact hs _ (by decide +kernel)
    · exact hs _ (by decide +kernel)
    · exact hs _ (by decide +kernel)
    · exact hs _ (by decide +kernel)
    · exact hs _ (by decide +kernel)
    · exact hs _ (by decide +kernel)
    · exact hs _ (by decide +kernel)
  rcases Nat.lt_or_gt_of_ne hij with h | h
  · exact Or.inl (key i j h hj)
  · exact Or.inr (key j i h hi)
theorem ev_LEAST (hs : ∀ w ∈ flatC (Jvm.Cond.and given_1 narrow_1), w.before #[Value.ref b] s = true) : ∀ j, j < 7 → (Cond.eq (.elem (.static RX3 "LEAST" "[I") (.int (Int32.ofNat j))) (.int (kLo.getD j 0))).before #[Value.ref b] s = true := by
  intro j hj
  rcases (show j = 0 ∨ j = 1 ∨ j = 2 ∨ j = 3 ∨ j = 4 ∨ j = 5 ∨ j = 6 by omega) with rfl | rfl | rfl | rfl | rfl | rfl | rfl
  · exact hs _ (by decide +kernel)
  · exact hs _ (by decide +kernel)
  · exact hs _ (by decide +kernel)
  · exact hs _ (by decide +kernel)
  · exact hs _ (by decide +kernel)
  · exact hs _ (by decide +kernel)
  · exact hs _ (by decide +kernel)
theorem ev_MOST (hs : ∀ w ∈ flatC (Jvm.Cond.and given_1 narrow_1), w.before #[Value.ref b] s = true) : ∀ j, j < 7 → (Cond.eq (.elem (.static RX3 "MOST" "[I") (.int (Int32.ofNat j))) (.int (kHi.getD j 0))).before #[Value.ref b] s = true := by
  intro j hj
  rcases (show j = 0 ∨ j = 1 ∨ j = 2 ∨ j = 3 ∨ j = 4 ∨ j = 5 ∨ j = 6 by omega) with rfl | rfl | rfl | rfl | rfl | rfl | rfl
  · exact hs _ (by decide +kernel)
  · exact hs _ (by decide +kernel)
  · exact hs _ (by decide +kernel)
  · exact hs _ (by decide +kernel)
  · exact hs _ (by decide +kernel)
  · exact hs _ (by decide +kernel)
  · exact hs _ (by decide +kernel)
theorem et_sr0 : Cond.stringRef RX4 73 "fD:N%N@N" ∈ lw_tbl := List.mem_of_getElem? (i := 597) (by decide +kernel)
theorem et_sr1 : Cond.stringRef RX4 75 "qD=N" ∈ lw_tbl := List.mem_of_getElem? (i := 598) (by decide +kernel)
theorem et_sr2 : Cond.stringRef RX4 77 "lD>D=N" ∈ lw_tbl := List.mem_of_getElem? (i := 599) (by decide +kernel)
theorem et_sr3 : Cond.stringRef RX4 79 "sN-N" ∈ lw_tbl := List.mem_of_getElem? (i := 600) (by decide +kernel)
theorem et_sr4 : Cond.stringRef RX4 81 "dN" ∈ lw_tbl := List.mem_of_getElem? (i := 601) (by decide +kernel)
theorem et_sr5 : Cond.stringRef RX4 83 "" ∈ lw_tbl := List.mem_of_getElem? (i := 602) (by decide +kernel)
theorem et_LEAST : Cond.laysStatic RX3 "LEAST" "[I" ∈ lw_tbl := List.mem_of_getElem? (i := 329) (by decide +kernel)
theorem et_MOST : Cond.laysStatic RX3 "MOST" "[I" ∈ lw_tbl := List.mem_of_getElem? (i := 331) (by decide +kernel)
theorem et_CS : Cond.laysStatic RJ0 "COMPACT_STRINGS" "Z" ∈ lw_tbl := List.mem_of_getElem? (i := 616) (by decide +kernel)
theorem et_SF : Cond.laysStatic RJ3 "SIOOBE_FORMATTER" "Ljava/util/function/BiFunction;" ∈ lw_tbl := List.mem_of_getElem? (i := 632) (by decide +kernel)
theorem et_iM : Cond.initialized RX3 ∈ lw_tbl := List.mem_of_getElem? (i := 37) (by decide +kernel)
theorem et_iS : Cond.initialized RJ0 ∈ lw_tbl := List.mem_of_getElem? (i := 47) (by decide +kernel)
theorem et_iP : Cond.initialized RJ3 ∈ lw_tbl := List.mem_of_getElem? (i := 49) (by decide +kernel)
theorem et_AO : Cond.arrayOver (.object RX3) ∈ lw_tbl := List.mem_of_getElem? (i := 222) (by decide +kernel)
theorem kE_start (hts : ∀ w ∈ lw_tbl, w.before #[Value.ref b] s = true) (hgv : (Jvm.Cond.and given_1 narrow_1).before #[Value.ref b] s = true) : ∃ ad av : Nat → Nat, kE ad av (fun q => s.heap.size ≤ q) s s.heap := by
  have hs := flat_of_before _ hgv
  have hA : ∀ a : Nat, a < s.heap.size → ¬ (fun q : Nat => s.heap.size ≤ q) a := fun a h => Nat.not_le.mpr h
  obtain ⟨ad, av, h1, h2⟩ := vk_Sof (args := #[Value.ref b]) (s := s) (N := 6) (tm := fun i => Term.string RX4 (73 + 2 * i)) (len := kLen) (byt := kByt) (A := fun q => s.heap.size ≤ q) (fun i _ => by have := kLen9 i; omega) (ev_ex hs) (ev_co hs) (ev_ar hs) (ev_le hs) (ev_el hs) (ev_ne hs) hA
  obtain ⟨t6, g6, l6⟩ := va_Tof (args := #[Value.ref b]) (s := s) (tm := .static RX3 "LEAST" "[I") (ty := .int) (N := 7) (f := fun j => .int (kLo.getD j 0)) (A := fun q => s.heap.size ≤ q) (by decide) (hs _ (by decide +kernel)) (va_eqt (hs (.eq (.length (.static RX3 "LEAST" "[I")) (.int (Int32.ofNat 7))) (by decide +kernel))) (fun j hj => va_eqt (ev_LEAST hs j hj)) hA
  obtain ⟨t7, g7, l7⟩ := va_Tof (args := #[Value.ref b]) (s := s) (tm := .static RX3 "MOST" "[I") (ty := .int) (N := 7) (f := fun j => .int (kHi.getD j 0)) (A := fun q => s.heap.size ≤ q) (by decide) (hs _ (by decide +kernel)) (va_eqt (hs (.eq (.length (.static RX3 "MOST" "[I")) (.int (Int32.ofNat 7))) (by decide +kernel))) (fun j hj => va_eqt (ev_MOST hs j hj)) hA
  refine ⟨ad, fun i => if i < 6 then av i else if i = 6 then t6 else t7, ⟨fun i hi => ?_, h1.2⟩, fun i hi => ?_, ?_, ?_, ⟨?_, ?_⟩, ⟨?_, ?_⟩⟩
  · have h := h1.1 i hi
    show va_O _ _ _ _ _ ∧ va_OF _ _ _ _ _ _ _ _ ∧ va_OF _ _ _ (.ref (if i < 6 then av i else _)) _ _ _ _ ∧ va_T _ (if i < 6 then av i else _) _ _ _ _ _
    rw [if_pos hi]
    exact h
  · rcases (show i = 0 ∨ i = 1 ∨ i = 2 ∨ i = 3 ∨ i = 4 ∨ i = 5 by omega) with rfl | rfl | rfl | rfl | rfl | rfl
    · exact vk_R.of (hts _ et_sr0) (h2 0 (by decide))
    · exact vk_R.of (hts _ et_sr1) (h2 1 (by decide))
    · exact vk_R.of (hts _ et_sr2) (h2 2 (by decide))
    · exact vk_R.of (hts _ et_sr3) (h2 3 (by decide))
    · exact vk_R.of (hts _ et_sr4) (h2 4 (by decide))
    · exact vk_R.of (hts _ et_sr5) (h2 5 (by decide))
  · exact va_Zof (hts _ et_CS) (hts _ et_iS) (va_eqt (hs (.eq (.static RJ0 "COMPACT_STRINGS" "Z") (.int 1)) (by decide +kernel))) hA
  · exact va_Zqof (hts _ et_SF) (hts _ et_iP) (hs (.isRef (.static RJ3 "SIOOBE_FORMATTER" "Ljava/util/function/BiFunction;")) (by decide +kernel)) hA
  · exact va_Zref (hts _ et_LEAST) (hts _ et_iM) g6 hA
  · exact l6
  · exact va_Zref (hts _ et_MOST) (hts _ et_iM) g7 hA
  · exact l7
end ENV
