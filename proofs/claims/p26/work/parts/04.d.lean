/-- the private members that another class of the nest calls -/
def kNest : List (String × Nat × MethodName × String) := [(RX7, 9, yX3_init, "CaneQuotas"), (RX3, 17, yX1_init, "CaneQuotas"), (RX3, 24, yX0_init, "CaneQuotas"), (RX3, 31, yX5_init, "CaneQuotas"), (RX3, 38, yX6_init, "CaneQuotas"), (RX7, 21, yX2_init, "CaneQuotas"), (RX7, 32, yX4_init, "CaneQuotas"), (RX2, 24, yX3_init, "CaneQuotas"), (RX3, 43, yX7_copyRow, "CaneQuotas"), (RX1, 27, yX7_copyRow, "CaneQuotas"), (RX0, 40, yX7_copyRow, "CaneQuotas"), (RX5, 22, yX7_copyRow, "CaneQuotas"), (RX6, 28, yX7_copyRow, "CaneQuotas"), (RX3, 73, yX7_isWithin, "CaneQuotas"), (RX3, 83, yX7_isGrower, "CaneQuotas"), (RX5, 26, yX7_isWithin, "CaneQuotas"), (RX6, 32, yX7_isWithin, "CaneQuotas"), (RX1, 31, yX7_sumOf, "CaneQuotas")]
theorem nest_0 : (RX7, 9, yX3_init, "CaneQuotas") ∈ kNest := List.mem_of_getElem? (i := 0) rfl
theorem nestT_0 : Cond.methodLinkNest RX7 9 yX3_init "CaneQuotas" ∈ lw_tbl := List.mem_of_getElem? (i := 30) (by decide +kernel)
theorem nest_1 : (RX3, 17, yX1_init, "CaneQuotas") ∈ kNest := List.mem_of_getElem? (i := 1) rfl
theorem nestT_1 : Cond.methodLinkNest RX3 17 yX1_init "CaneQuotas" ∈ lw_tbl := List.mem_of_getElem? (i := 36) (by decide +kernel)
theorem nest_2 : (RX3, 24, yX0_init, "CaneQuotas") ∈ kNest := List.mem_of_getElem? (i := 2) rfl
theorem nestT_2 : Cond.methodLinkNest RX3 24 yX0_init "CaneQuotas" ∈ lw_tbl := List.mem_of_getElem? (i := 64) (by decide +kernel)
theorem nest_3 : (RX3, 31, yX5_init, "CaneQuotas") ∈ kNest := List.mem_of_getElem? (i := 3) rfl
theorem nestT_3 : Cond.methodLinkNest RX3 31 yX5_init "CaneQuotas" ∈ lw_tbl := List.mem_of_getElem? (i := 107) (by decide +kernel)
theorem nest_4 : (RX3, 38, yX6_init, "CaneQuotas") ∈ kNest := List.mem_of_getElem? (i := 4) rfl
theorem nestT_4 : Cond.methodLinkNest RX3 38 yX6_init "CaneQuotas" ∈ lw_tbl := List.mem_of_getElem? (i := 124) (by decide +kernel)
theorem nest_5 : (RX7, 21, yX2_init, "CaneQuotas") ∈ kNest := List.mem_of_getElem? (i := 5) rfl
theorem nestT_5 : Cond.methodLinkNest RX7 21 yX2_init "CaneQuotas" ∈ lw_tbl := List.mem_of_getElem? (i := 184) (by decide +kernel)
theorem nest_6 : (RX7, 32, yX4_init, "CaneQuotas") ∈ kNest := List.mem_of_getElem? (i := 6) rfl
theorem nestT_6 : Cond.methodLinkNest RX7 32 yX4_init "CaneQuotas" ∈ lw_tbl := List.mem_of_getElem? (i := 203) (by decide +kernel)
theorem nest_7 : (RX2, 24, yX3_init, "CaneQuotas") ∈ kNest := List.mem_of_getElem? (i := 7) rfl
theorem nestT_7 : Cond.methodLinkNest RX2 24 yX3_init "CaneQuotas" ∈ lw_tbl := List.mem_of_getElem? (i := 461) (by decide +kernel)
theorem nest_8 : (RX3, 43, yX7_copyRow, "CaneQuotas") ∈ kNest := List.mem_of_getElem? (i := 8) rfl
theorem nestT_8 : Cond.methodLinkNest RX3 43 yX7_copyRow "CaneQuotas" ∈ lw_tbl := List.mem_of_getElem? (i := 358) (by decide +kernel)
theorem nest_9 : (RX1, 27, yX7_copyRow, "CaneQuotas") ∈ kNest := List.mem_of_getElem? (i := 9) rfl
theorem nestT_9 : Cond.methodLinkNest RX1 27 yX7_copyRow "CaneQuotas" ∈ lw_tbl := List.mem_of_getElem? (i := 371) (by decide +kernel)
theorem nest_10 : (RX0, 40, yX7_copyRow, "CaneQuotas") ∈ kNest := List.mem_of_getElem? (i := 10) rfl
theorem nestT_10 : Cond.methodLinkNest RX0 40 yX7_copyRow "CaneQuotas" ∈ lw_tbl := List.mem_of_getElem? (i := 376) (by decide +kernel)
theorem nest_11 : (RX5, 22, yX7_copyRow, "CaneQuotas") ∈ kNest := List.mem_of_getElem? (i := 11) rfl
theorem nestT_11 : Cond.methodLinkNest RX5 22 yX7_copyRow "CaneQuotas" ∈ lw_tbl := List.mem_of_getElem? (i := 381) (by decide +kernel)
theorem nest_12 : (RX6, 28, yX7_copyRow, "CaneQuotas") ∈ kNest := List.mem_of_getElem? (i := 12) rfl
theorem nestT_12 : Cond.methodLinkNest RX6 28 yX7_copyRow "CaneQuotas" ∈ lw_tbl := List.mem_of_getElem? (i := 386) (by decide +kernel)
theorem nest_13 : (RX3, 73, yX7_isWithin, "CaneQuotas") ∈ kNest := List.mem_of_getElem? (i := 13) rfl
theorem nestT_13 : Cond.methodLinkNest RX3 73 yX7_isWithin "CaneQuotas" ∈ lw_tbl := List.mem_of_getElem? (i := 248) (by decide +kernel)
theorem nest_14 : (RX3, 83, yX7_isGrower, "CaneQuotas") ∈ kNest := List.mem_of_getElem? (i := 14) rfl
theorem nestT_14 : Cond.methodLinkNest RX3 83 yX7_isGrower "CaneQuotas" ∈ lw_tbl := List.mem_of_getElem? (i := 305) (by decide +kernel)
theorem nest_15 : (RX5, 26, yX7_isWithin, "CaneQuotas") ∈ kNest := List.mem_of_getElem? (i := 15) rfl
theorem nestT_15 : Cond.methodLinkNest RX5 26 yX7_isWithin "CaneQuotas" ∈ lw_tbl := List.mem_of_getElem? (i := 417) (by decide +kernel)
theorem nest_16 : (RX6, 32, yX7_isWithin, "CaneQuotas") ∈ kNest := List.mem_of_getElem? (i := 16) rfl
theorem nestT_16 : Cond.methodLinkNest RX6 32 yX7_isWithin "CaneQuotas" ∈ lw_tbl := List.mem_of_getElem? (i := 296) (by decide +kernel)
theorem nest_17 : (RX1, 31, yX7_sumOf, "CaneQuotas") ∈ kNest := List.mem_of_getElem? (i := 17) rfl
theorem nestT_17 : Cond.methodLinkNest RX1 31 yX7_sumOf "CaneQuotas" ∈ lw_tbl := List.mem_of_getElem? (i := 255) (by decide +kernel)
theorem nest_tbl : ∀ q ∈ kNest, Cond.methodLinkNest q.1 q.2.1 q.2.2.1 q.2.2.2 ∈ lw_tbl := List.forall_mem_cons.mpr ⟨nestT_0, List.forall_mem_cons.mpr ⟨nestT_1, List.forall_mem_cons.mpr ⟨nestT_2, List.forall_mem_cons.mpr ⟨nestT_3, List.forall_mem_cons.mpr ⟨nestT_4, List.forall_mem_cons.mpr ⟨nestT_5, List.forall_mem_cons.mpr ⟨nestT_6, List.forall_mem_cons.mpr ⟨nestT_7, List.forall_mem_cons.mpr ⟨nestT_8, List.forall_mem_cons.mpr ⟨nestT_9, List.forall_mem_cons.mpr ⟨nestT_10, List.forall_mem_cons.mpr ⟨nestT_11, List.forall_mem_cons.mpr ⟨nestT_12, List.forall_mem_cons.mpr ⟨nestT_13, List.forall_mem_cons.mpr ⟨nestT_14, List.forall_mem_cons.mpr ⟨nestT_15, List.forall_mem_cons.mpr ⟨nestT_16, List.forall_mem_cons.mpr ⟨nestT_17, fun _ h => absurd h List.not_mem_nil⟩⟩⟩⟩⟩⟩⟩⟩⟩⟩⟩⟩⟩⟩⟩⟩⟩⟩
