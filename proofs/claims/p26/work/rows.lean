section
-- ===== PART A: goes FIRST, ahead of the names: the tables' words, and 'selects' of the private methods out of them =====
/-- a private method of a class that the tables say can be made, by its rows of tables_1 -/
def lw_okq (q : MethodName × Nat) : Prop := (q.1.cls ≠ "java/lang/invoke/MethodHandle" ∧ q.1.cls ≠ "java/lang/invoke/VarHandle") ∧ Cond.instantiable q.1.cls q.2 ∈ tables_1 ∧ Cond.privateMethod q.1 ∈ tables_1 ∧ Cond.instanceMethod q.1 ∈ tables_1
theorem lw_p0 : lw_okq (⟨"CaneQuotas$Mill", "room", "()I"⟩, 9) := ⟨⟨by decide +kernel, by decide +kernel⟩, List.mem_of_getElem? (i := 20) (by decide +kernel), List.mem_of_getElem? (i := 326) (by decide +kernel), List.mem_of_getElem? (i := 327) (by decide +kernel)⟩
theorem lw_p1 : lw_okq (⟨"CaneQuotas$Mill", "quotaOf", "(I)I"⟩, 9) := ⟨⟨by decide +kernel, by decide +kernel⟩, List.mem_of_getElem? (i := 20) (by decide +kernel), List.mem_of_getElem? (i := 330) (by decide +kernel), List.mem_of_getElem? (i := 331) (by decide +kernel)⟩
theorem lw_p2 : lw_okq (⟨"CaneQuotas$Mill", "goesAhead", "(II)Z"⟩, 9) := ⟨⟨by decide +kernel, by decide +kernel⟩, List.mem_of_getElem? (i := 20) (by decide +kernel), List.mem_of_getElem? (i := 334) (by decide +kernel), List.mem_of_getElem? (i := 335) (by decide +kernel)⟩
theorem lw_p3 : lw_okq (⟨"CaneQuotas", "tryDays", "(II)V"⟩, 5) := ⟨⟨by decide +kernel, by decide +kernel⟩, List.mem_of_getElem? (i := 12) (by decide +kernel), List.mem_of_getElem? (i := 342) (by decide +kernel), List.mem_of_getElem? (i := 343) (by decide +kernel)⟩
theorem lw_p4 : lw_okq (⟨"CaneQuotas$Mill", "loseOldCane", "()V"⟩, 9) := ⟨⟨by decide +kernel, by decide +kernel⟩, List.mem_of_getElem? (i := 20) (by decide +kernel), List.mem_of_getElem? (i := 383) (by decide +kernel), List.mem_of_getElem? (i := 384) (by decide +kernel)⟩
theorem lw_p5 : lw_okq (⟨"CaneQuotas$Mill", "bringLoads", "()V"⟩, 9) := ⟨⟨by decide +kernel, by decide +kernel⟩, List.mem_of_getElem? (i := 20) (by decide +kernel), List.mem_of_getElem? (i := 391) (by decide +kernel), List.mem_of_getElem? (i := 392) (by decide +kernel)⟩
theorem lw_p6 : lw_okq (⟨"CaneQuotas$Mill", "bringLoad", "(I)V"⟩, 9) := ⟨⟨by decide +kernel, by decide +kernel⟩, List.mem_of_getElem? (i := 20) (by decide +kernel), List.mem_of_getElem? (i := 396) (by decide +kernel), List.mem_of_getElem? (i := 397) (by decide +kernel)⟩
theorem lw_p7 : lw_okq (⟨"CaneQuotas$Mill", "crush", "()V"⟩, 9) := ⟨⟨by decide +kernel, by decide +kernel⟩, List.mem_of_getElem? (i := 20) (by decide +kernel), List.mem_of_getElem? (i := 410) (by decide +kernel), List.mem_of_getElem? (i := 411) (by decide +kernel)⟩
theorem lw_p8 : lw_okq (⟨"CaneQuotas$Mill", "crushPart", "(II)V"⟩, 9) := ⟨⟨by decide +kernel, by decide +kernel⟩, List.mem_of_getElem? (i := 20) (by decide +kernel), List.mem_of_getElem? (i := 414) (by decide +kernel), List.mem_of_getElem? (i := 415) (by decide +kernel)⟩
def lw_privs_1 : List (MethodName × Nat) := [(⟨"CaneQuotas$Mill", "room", "()I"⟩, 9), (⟨"CaneQuotas$Mill", "quotaOf", "(I)I"⟩, 9), (⟨"CaneQuotas$Mill", "goesAhead", "(II)Z"⟩, 9), (⟨"CaneQuotas", "tryDays", "(II)V"⟩, 5), (⟨"CaneQuotas$Mill", "loseOldCane", "()V"⟩, 9), (⟨"CaneQuotas$Mill", "bringLoads", "()V"⟩, 9), (⟨"CaneQuotas$Mill", "bringLoad", "(I)V"⟩, 9), (⟨"CaneQuotas$Mill", "crush", "()V"⟩, 9), (⟨"CaneQuotas$Mill", "crushPart", "(II)V"⟩, 9)]
theorem lw_r1 : ∀ q ∈ lw_privs_1, lw_okq q := List.forall_mem_cons.mpr ⟨lw_p0, List.forall_mem_cons.mpr ⟨lw_p1, List.forall_mem_cons.mpr ⟨lw_p2, List.forall_mem_cons.mpr ⟨lw_p3, List.forall_mem_cons.mpr ⟨lw_p4, List.forall_mem_cons.mpr ⟨lw_p5, List.forall_mem_cons.mpr ⟨lw_p6, List.forall_mem_cons.mpr ⟨lw_p7, List.forall_mem_cons.mpr ⟨lw_p8, fun _ h => absurd h List.not_mem_nil⟩⟩⟩⟩⟩⟩⟩⟩⟩
def lw_privs : List (MethodName × Nat) := lw_privs_1
def lw_tbl : List Cond := k2_sels lw_privs ++ tables_1
theorem lw_privs_ok : ∀ q ∈ lw_privs, lw_okq q := lw_r1
end
section
theorem goodIn_r {big : List Cond} (ws : List Cond) (ps : List Nat) (hp : ws = ps.filterMap (fun i => big[i]?)) (h : ws.all goodWord = true) : GoodIn big ws := by
  intro w hw
  have h1 := List.all_eq_true.mp h w hw
  rw [hp] at hw
  obtain ⟨i, -, hi⟩ := List.mem_filterMap.mp hw
  have hm : w ∈ big := by first | exact List.mem_of_getElem? hi | exact List.getElem?_mem hi
  exact ⟨hm, good_of_word h1⟩
theorem goodIn_app {big a b : List Cond} (ha : GoodIn big a) (hb : GoodIn big b) : GoodIn big (a ++ b) := fun w h => (List.mem_append.mp h).elim (ha w) (hb w)
theorem goodIn_ca {big a b : List Cond} {c : Cond} (ha : GoodIn big (c :: a)) (hb : GoodIn big b) : GoodIn big (c :: (a ++ b)) := fun w h => (List.mem_cons.mp h).elim (fun e => ha w (List.mem_cons.mpr (Or.inl e))) (fun h => (List.mem_append.mp h).elim (fun h => ha w (List.mem_cons.mpr (Or.inr h))) (hb w))
theorem goodIn_sub {big ws : List Cond} (hm : ∀ w ∈ ws, w ∈ big) (h : ws.all goodWord = true) : GoodIn big ws := fun w hw => ⟨hm w hw, good_of_word (List.all_eq_true.mp h w hw)⟩
def RX0 : String := "CaneQuotas$Fields"
def TX0 : u_T := fun k => match k with
  | 0 => ("CaneQuotas$Fields", "grower", "[I", true)
  | 1 => ("CaneQuotas$Fields", "tonnes", "[I", true)
  | 2 => ("CaneQuotas$Fields", "purity", "[I", true)
  | 3 => ("CaneQuotas$Fields", "burnt", "[I", true)
  | 4 => ("CaneQuotas$Fields", "left", "[I", true)
  | 5 => ("CaneQuotas$Fields", "inYard", "[I", true)
  | 6 => ("CaneQuotas$Fields", "crushed", "[I", true)
  | 7 => ("CaneQuotas$Fields", "lost", "[I", true)
  | _ => ("CaneQuotas$Fields", "count", "I", false)
def tyX0 : Nat → FieldType := fun k => match k with
  | 0 => .array .int
  | 1 => .array .int
  | 2 => .array .int
  | 3 => .array .int
  | 4 => .array .int
  | 5 => .array .int
  | 6 => .array .int
  | 7 => .array .int
  | _ => .int
abbrev wsX00 : List Cond := u_ws RX0 TX0 9
theorem nmX0 : ∀ a, a < 9 → ∀ b, b < 9 → a ≠ b → (TX0 a).2.1 ≠ (TX0 b).2.1 := by decide +kernel
theorem tyX0_ok : ∀ k, k < 9 → parseFieldDescriptor (TX0 k).2.2.1 = some (tyX0 k) := by decide +kernel
abbrev cX0_init : ByteArray := prog_2_method_1_code
def yX0_init : MethodName := ⟨RX0, "<init>", "()V"⟩
abbrev cX0_copyFrom : ByteArray := prog_2_method_2_code
def yX0_copyFrom : MethodName := ⟨RX0, "copyFrom", "(LCaneQuotas$Fields;)V"⟩
abbrev cX0_append : ByteArray := prog_2_method_3_code
def yX0_append : MethodName := ⟨RX0, "append", "(IIII)I"⟩
abbrev cX0_howItIs : ByteArray := prog_2_method_4_code
def yX0_howItIs : MethodName := ⟨RX0, "howItIs", "(II)I"⟩
abbrev cX0_loseCane : ByteArray := prog_2_method_5_code
def yX0_loseCane : MethodName := ⟨RX0, "loseCane", "(I)I"⟩
abbrev cX0_purityOn : ByteArray := prog_2_method_6_code
def yX0_purityOn : MethodName := ⟨RX0, "purityOn", "(III)I"⟩
abbrev cX0_burntCaneOf : ByteArray := prog_2_method_7_code
def yX0_burntCaneOf : MethodName := ⟨RX0, "burntCaneOf", "(II)I"⟩
abbrev cX0_setOf : ByteArray := prog_2_method_8_code
def yX0_setOf : MethodName := ⟨RX0, "setOf", "(II)J"⟩
def RX1 : String := "CaneQuotas$Growers"
def TX1 : u_T := fun k => match k with
  | 0 => ("CaneQuotas$Growers", "quota", "[I", true)
  | 1 => ("CaneQuotas$Growers", "brought", "[I", true)
  | 2 => ("CaneQuotas$Growers", "crushed", "[I", true)
  | 3 => ("CaneQuotas$Growers", "lost", "[I", true)
  | _ => ("CaneQuotas$Growers", "paid", "[I", true)
def tyX1 : Nat → FieldType := fun k => match k with
  | 0 => .array .int
  | 1 => .array .int
  | 2 => .array .int
  | 3 => .array .int
  | _ => .array .int
abbrev wsX10 : List Cond := u_ws RX1 TX1 5
theorem nmX1 : ∀ a, a < 5 → ∀ b, b < 5 → a ≠ b → (TX1 a).2.1 ≠ (TX1 b).2.1 := by decide +kernel
theorem tyX1_ok : ∀ k, k < 5 → parseFieldDescriptor (TX1 k).2.2.1 = some (tyX1 k) := by decide +kernel
abbrev cX1_init : ByteArray := prog_3_method_1_code
def yX1_init : MethodName := ⟨RX1, "<init>", "()V"⟩
abbrev cX1_copyFrom : ByteArray := prog_3_method_2_code
def yX1_copyFrom : MethodName := ⟨RX1, "copyFrom", "(LCaneQuotas$Growers;)V"⟩
abbrev cX1_totalCrushed : ByteArray := prog_3_method_3_code
def yX1_totalCrushed : MethodName := ⟨RX1, "totalCrushed", "()I"⟩
abbrev cX1_totalLost : ByteArray := prog_3_method_4_code
def yX1_totalLost : MethodName := ⟨RX1, "totalLost", "()I"⟩
abbrev cX1_totalPaid : ByteArray := prog_3_method_5_code
def yX1_totalPaid : MethodName := ⟨RX1, "totalPaid", "()I"⟩
def RX2 : String := "CaneQuotas$History"
def TX2 : u_T := fun k => match k with
  | 0 => ("CaneQuotas$History", "states", "[LCaneQuotas$Mill;", true)
  | 1 => ("CaneQuotas$History", "oldest", "I", false)
  | _ => ("CaneQuotas$History", "size", "I", false)
def tyX2 : Nat → FieldType := fun k => match k with
  | 0 => .array (.object "CaneQuotas$Mill")
  | 1 => .int
  | _ => .int
abbrev wsX20 : List Cond := u_ws RX2 TX2 3
theorem nmX2 : ∀ a, a < 3 → ∀ b, b < 3 → a ≠ b → (TX2 a).2.1 ≠ (TX2 b).2.1 := by decide +kernel
theorem tyX2_ok : ∀ k, k < 3 → parseFieldDescriptor (TX2 k).2.2.1 = some (tyX2 k) := by decide +kernel
abbrev cX2_init : ByteArray := prog_4_method_1_code
def yX2_init : MethodName := ⟨RX2, "<init>", "()V"⟩
abbrev cX2_prepare : ByteArray := prog_4_method_2_code
def yX2_prepare : MethodName := ⟨RX2, "prepare", "(LCaneQuotas$Mill;)V"⟩
abbrev cX2_recordUnlessError : ByteArray := prog_4_method_3_code
def yX2_recordUnlessError : MethodName := ⟨RX2, "recordUnlessError", "(I)I"⟩
abbrev cX2_bringBackLatest : ByteArray := prog_4_method_4_code
def yX2_bringBackLatest : MethodName := ⟨RX2, "bringBackLatest", "(LCaneQuotas$Mill;)V"⟩
def RX3 : String := "CaneQuotas$Mill"
def TX3 : u_T := fun k => match k with
  | 0 => ("CaneQuotas$Mill", "settings", "[I", true)
  | 1 => ("CaneQuotas$Mill", "growers", "LCaneQuotas$Growers;", true)
  | 2 => ("CaneQuotas$Mill", "fields", "LCaneQuotas$Fields;", true)
  | 3 => ("CaneQuotas$Mill", "stops", "LCaneQuotas$Stops;", true)
  | 4 => ("CaneQuotas$Mill", "yard", "LCaneQuotas$Yard;", true)
  | 5 => ("CaneQuotas$Mill", "now", "I", false)
  | 6 => ("CaneQuotas$Mill", "sugar", "I", false)
  | 7 => ("CaneQuotas$Mill", "loadsBrought", "I", false)
  | _ => ("CaneQuotas$Mill", "stoppedDays", "I", false)
def tyX3 : Nat → FieldType := fun k => match k with
  | 0 => .array .int
  | 1 => .object "CaneQuotas$Growers"
  | 2 => .object "CaneQuotas$Fields"
  | 3 => .object "CaneQuotas$Stops"
  | 4 => .object "CaneQuotas$Yard"
  | 5 => .int
  | 6 => .int
  | 7 => .int
  | _ => .int
abbrev wsX30 : List Cond := u_ws RX3 TX3 9
theorem nmX3 : ∀ a, a < 9 → ∀ b, b < 9 → a ≠ b → (TX3 a).2.1 ≠ (TX3 b).2.1 := by decide +kernel
theorem tyX3_ok : ∀ k, k < 9 → parseFieldDescriptor (TX3 k).2.2.1 = some (tyX3 k) := by decide +kernel
abbrev cX3_init : ByteArray := prog_5_method_1_code
def yX3_init : MethodName := ⟨RX3, "<init>", "()V"⟩
abbrev cX3_copyFrom : ByteArray := prog_5_method_2_code
def yX3_copyFrom : MethodName := ⟨RX3, "copyFrom", "(LCaneQuotas$Mill;)V"⟩
abbrev cX3_changeSetting : ByteArray := prog_5_method_3_code
def yX3_changeSetting : MethodName := ⟨RX3, "changeSetting", "(II)I"⟩
abbrev cX3_changeQuota : ByteArray := prog_5_method_4_code
def yX3_changeQuota : MethodName := ⟨RX3, "changeQuota", "(II)I"⟩
abbrev cX3_lendQuota : ByteArray := prog_5_method_5_code
def yX3_lendQuota : MethodName := ⟨RX3, "lendQuota", "(III)I"⟩
abbrev cX3_addField : ByteArray := prog_5_method_6_code
def yX3_addField : MethodName := ⟨RX3, "addField", "(IIII)I"⟩
abbrev cX3_passDays : ByteArray := prog_5_method_7_code
def yX3_passDays : MethodName := ⟨RX3, "passDays", "(I)I"⟩
abbrev cX3_passDay : ByteArray := prog_5_method_8_code
def yX3_passDay : MethodName := ⟨RX3, "passDay", "(Z)V"⟩
abbrev cX3_loseOldCane : ByteArray := prog_5_method_9_code
def yX3_loseOldCane : MethodName := ⟨RX3, "loseOldCane", "()V"⟩
abbrev cX3_bringLoads : ByteArray := prog_5_method_10_code
def yX3_bringLoads : MethodName := ⟨RX3, "bringLoads", "()V"⟩
abbrev cX3_nextField : ByteArray := prog_5_method_11_code
def yX3_nextField : MethodName := ⟨RX3, "nextField", "()I"⟩
abbrev cX3_goesAhead : ByteArray := prog_5_method_12_code
def yX3_goesAhead : MethodName := ⟨RX3, "goesAhead", "(II)Z"⟩
abbrev cX3_quotaOf : ByteArray := prog_5_method_13_code
def yX3_quotaOf : MethodName := ⟨RX3, "quotaOf", "(I)I"⟩
abbrev cX3_room : ByteArray := prog_5_method_14_code
def yX3_room : MethodName := ⟨RX3, "room", "()I"⟩
abbrev cX3_bringLoad : ByteArray := prog_5_method_15_code
def yX3_bringLoad : MethodName := ⟨RX3, "bringLoad", "(I)V"⟩
abbrev cX3_crush : ByteArray := prog_5_method_16_code
def yX3_crush : MethodName := ⟨RX3, "crush", "()V"⟩
abbrev cX3_crushPart : ByteArray := prog_5_method_17_code
def yX3_crushPart : MethodName := ⟨RX3, "crushPart", "(II)V"⟩
abbrev cX3_numberOfField : ByteArray := prog_5_method_18_code
def yX3_numberOfField : MethodName := ⟨RX3, "numberOfField", "(II)I"⟩
abbrev cX3_numberOfGrower : ByteArray := prog_5_method_19_code
def yX3_numberOfGrower : MethodName := ⟨RX3, "numberOfGrower", "(II)I"⟩
abbrev cX3_numberOfAll : ByteArray := prog_5_method_20_code
def yX3_numberOfAll : MethodName := ⟨RX3, "numberOfAll", "(I)I"⟩
def RX4 : String := "CaneQuotas$Pad"
def TX4 : u_T := fun k => match k with
  | 0 => ("CaneQuotas$Pad", "signs", "[C", true)
  | 1 => ("CaneQuotas$Pad", "length", "I", false)
  | 2 => ("CaneQuotas$Pad", "at", "I", false)
  | 3 => ("CaneQuotas$Pad", "kind", "C", false)
  | 4 => ("CaneQuotas$Pad", "values", "[I", true)
  | _ => ("CaneQuotas$Pad", "valueCount", "I", false)
def tyX4 : Nat → FieldType := fun k => match k with
  | 0 => .array .char
  | 1 => .int
  | 2 => .int
  | 3 => .char
  | 4 => .array .int
  | _ => .int
abbrev wsX40 : List Cond := u_ws RX4 TX4 6
theorem nmX4 : ∀ a, a < 6 → ∀ b, b < 6 → a ≠ b → (TX4 a).2.1 ≠ (TX4 b).2.1 := by decide +kernel
theorem tyX4_ok : ∀ k, k < 6 → parseFieldDescriptor (TX4 k).2.2.1 = some (tyX4 k) := by decide +kernel
abbrev cX4_init : ByteArray := prog_6_method_1_code
def yX4_init : MethodName := ⟨RX4, "<init>", "()V"⟩
def RX5 : String := "CaneQuotas$Stops"
def TX5 : u_T := fun k => match k with
  | 0 => ("CaneQuotas$Stops", "first", "[I", true)
  | 1 => ("CaneQuotas$Stops", "last", "[I", true)
  | _ => ("CaneQuotas$Stops", "count", "I", false)
def tyX5 : Nat → FieldType := fun k => match k with
  | 0 => .array .int
  | 1 => .array .int
  | _ => .int
abbrev wsX50 : List Cond := u_ws RX5 TX5 3
theorem nmX5 : ∀ a, a < 3 → ∀ b, b < 3 → a ≠ b → (TX5 a).2.1 ≠ (TX5 b).2.1 := by decide +kernel
theorem tyX5_ok : ∀ k, k < 3 → parseFieldDescriptor (TX5 k).2.2.1 = some (tyX5 k) := by decide +kernel
abbrev cX5_init : ByteArray := prog_7_method_1_code
def yX5_init : MethodName := ⟨RX5, "<init>", "()V"⟩
abbrev cX5_copyFrom : ByteArray := prog_7_method_2_code
def yX5_copyFrom : MethodName := ⟨RX5, "copyFrom", "(LCaneQuotas$Stops;)V"⟩
abbrev cX5_addStop : ByteArray := prog_7_method_3_code
def yX5_addStop : MethodName := ⟨RX5, "addStop", "(II)I"⟩
abbrev cX5_removeStop : ByteArray := prog_7_method_4_code
def yX5_removeStop : MethodName := ⟨RX5, "removeStop", "(I)I"⟩
abbrev cX5_isStopped : ByteArray := prog_7_method_5_code
def yX5_isStopped : MethodName := ⟨RX5, "isStopped", "(I)Z"⟩
def RX6 : String := "CaneQuotas$Yard"
def TX6 : u_T := fun k => match k with
  | 0 => ("CaneQuotas$Yard", "field", "[I", true)
  | 1 => ("CaneQuotas$Yard", "tonnes", "[I", true)
  | 2 => ("CaneQuotas$Yard", "day", "[I", true)
  | 3 => ("CaneQuotas$Yard", "loads", "I", false)
  | _ => ("CaneQuotas$Yard", "total", "I", false)
def tyX6 : Nat → FieldType := fun k => match k with
  | 0 => .array .int
  | 1 => .array .int
  | 2 => .array .int
  | 3 => .int
  | _ => .int
abbrev wsX60 : List Cond := u_ws RX6 TX6 5
theorem nmX6 : ∀ a, a < 5 → ∀ b, b < 5 → a ≠ b → (TX6 a).2.1 ≠ (TX6 b).2.1 := by decide +kernel
theorem tyX6_ok : ∀ k, k < 5 → parseFieldDescriptor (TX6 k).2.2.1 = some (tyX6 k) := by decide +kernel
abbrev cX6_init : ByteArray := prog_8_method_1_code
def yX6_init : MethodName := ⟨RX6, "<init>", "()V"⟩
abbrev cX6_copyFrom : ByteArray := prog_8_method_2_code
def yX6_copyFrom : MethodName := ⟨RX6, "copyFrom", "(LCaneQuotas$Yard;)V"⟩
abbrev cX6_append : ByteArray := prog_8_method_3_code
def yX6_append : MethodName := ⟨RX6, "append", "(III)V"⟩
abbrev cX6_takeFrom : ByteArray := prog_8_method_4_code
def yX6_takeFrom : MethodName := ⟨RX6, "takeFrom", "(II)I"⟩
abbrev cX6_dropFirst : ByteArray := prog_8_method_5_code
def yX6_dropFirst : MethodName := ⟨RX6, "dropFirst", "(I)V"⟩
abbrev cX6_numberOfLoad : ByteArray := prog_8_method_6_code
def yX6_numberOfLoad : MethodName := ⟨RX6, "numberOfLoad", "(II)I"⟩
def RX7 : String := "CaneQuotas"
def TX7 : u_T := fun k => match k with
  | 0 => ("CaneQuotas", "mill", "LCaneQuotas$Mill;", true)
  | 1 => ("CaneQuotas", "trial", "LCaneQuotas$Mill;", true)
  | 2 => ("CaneQuotas", "history", "LCaneQuotas$History;", true)
  | 3 => ("CaneQuotas", "slots", "[LCaneQuotas$Mill;", true)
  | _ => ("CaneQuotas", "pad", "LCaneQuotas$Pad;", true)
def tyX7 : Nat → FieldType := fun k => match k with
  | 0 => .object "CaneQuotas$Mill"
  | 1 => .object "CaneQuotas$Mill"
  | 2 => .object "CaneQuotas$History"
  | 3 => .array (.object "CaneQuotas$Mill")
  | _ => .object "CaneQuotas$Pad"
abbrev wsX70 : List Cond := u_ws RX7 TX7 5
theorem nmX7 : ∀ a, a < 5 → ∀ b, b < 5 → a ≠ b → (TX7 a).2.1 ≠ (TX7 b).2.1 := by decide +kernel
theorem tyX7_ok : ∀ k, k < 5 → parseFieldDescriptor (TX7 k).2.2.1 = some (tyX7 k) := by decide +kernel
abbrev cX7_init : ByteArray := prog_1_method_1_code
def yX7_init : MethodName := ⟨RX7, "<init>", "()V"⟩
abbrev cX7_set : ByteArray := prog_1_method_2_code
def yX7_set : MethodName := ⟨RX7, "set", "(II)I"⟩
abbrev cX7_quota : ByteArray := prog_1_method_3_code
def yX7_quota : MethodName := ⟨RX7, "quota", "(II)I"⟩
abbrev cX7_lend : ByteArray := prog_1_method_4_code
def yX7_lend : MethodName := ⟨RX7, "lend", "(III)I"⟩
abbrev cX7_field : ByteArray := prog_1_method_5_code
def yX7_field : MethodName := ⟨RX7, "field", "(IIII)I"⟩
abbrev cX7_stop : ByteArray := prog_1_method_6_code
def yX7_stop : MethodName := ⟨RX7, "stop", "(II)I"⟩
abbrev cX7_dropStop : ByteArray := prog_1_method_7_code
def yX7_dropStop : MethodName := ⟨RX7, "dropStop", "(I)I"⟩
abbrev cX7_pass : ByteArray := prog_1_method_8_code
def yX7_pass : MethodName := ⟨RX7, "pass", "(I)I"⟩
abbrev cX7_ofField : ByteArray := prog_1_method_9_code
def yX7_ofField : MethodName := ⟨RX7, "ofField", "(II)I"⟩
abbrev cX7_ofGrower : ByteArray := prog_1_method_10_code
def yX7_ofGrower : MethodName := ⟨RX7, "ofGrower", "(II)I"⟩
abbrev cX7_load : ByteArray := prog_1_method_11_code
def yX7_load : MethodName := ⟨RX7, "load", "(II)I"⟩
abbrev cX7_count : ByteArray := prog_1_method_12_code
def yX7_count : MethodName := ⟨RX7, "count", "(I)I"⟩
abbrev cX7_fields : ByteArray := prog_1_method_13_code
def yX7_fields : MethodName := ⟨RX7, "fields", "(I)J"⟩
abbrev cX7_next : ByteArray := prog_1_method_14_code
def yX7_next : MethodName := ⟨RX7, "next", "()I"⟩
abbrev cX7_then : ByteArray := prog_1_method_15_code
def yX7_then : MethodName := ⟨RX7, "then", "(II)I"⟩
abbrev cX7_stopCosts : ByteArray := prog_1_method_17_code
def yX7_stopCosts : MethodName := ⟨RX7, "stopCosts", "(II)I"⟩
abbrev cX7_tryDays : ByteArray := prog_1_method_18_code
def yX7_tryDays : MethodName := ⟨RX7, "tryDays", "(II)V"⟩
abbrev cX7_undo : ByteArray := prog_1_method_25_code
def yX7_undo : MethodName := ⟨RX7, "undo", "()I"⟩
abbrev cX7_isWithin : ByteArray := prog_1_method_28_code
def yX7_isWithin : MethodName := ⟨RX7, "isWithin", "(III)Z"⟩
abbrev cX7_isGrower : ByteArray := prog_1_method_29_code
def yX7_isGrower : MethodName := ⟨RX7, "isGrower", "(I)Z"⟩
abbrev cX7_copyRow : ByteArray := prog_1_method_30_code
def yX7_copyRow : MethodName := ⟨RX7, "copyRow", "([I[II)V"⟩
abbrev cX7_sumOf : ByteArray := prog_1_method_31_code
def yX7_sumOf : MethodName := ⟨RX7, "sumOf", "([I)I"⟩
def RX8 : String := "CaneQuotasModel"
def TX8 : u_T := fun k => match k with
  | _ => ("", "", "", false)
def tyX8 : Nat → FieldType := fun k => match k with
  | _ => .int
abbrev wsX80 : List Cond := u_ws RX8 TX8 0
theorem nmX8 : ∀ a, a < 0 → ∀ b, b < 0 → a ≠ b → (TX8 a).2.1 ≠ (TX8 b).2.1 := by decide +kernel
theorem tyX8_ok : ∀ k, k < 0 → parseFieldDescriptor (TX8 k).2.2.1 = some (tyX8 k) := by decide +kernel
def RJ9 : String := "java/lang/Math"
def TJ9 : u_T := fun k => match k with
  | _ => ("", "", "", false)
def tyJ9 : Nat → FieldType := fun k => match k with
  | _ => .int
abbrev wsJ90 : List Cond := u_ws RJ9 TJ9 0
theorem nmJ9 : ∀ a, a < 0 → ∀ b, b < 0 → a ≠ b → (TJ9 a).2.1 ≠ (TJ9 b).2.1 := by decide +kernel
theorem tyJ9_ok : ∀ k, k < 0 → parseFieldDescriptor (TJ9 k).2.2.1 = some (tyJ9 k) := by decide +kernel
abbrev cJ9_max_7cf53 : ByteArray := prog_11_method_65_code
def yJ9_max_7cf53 : MethodName := ⟨RJ9, "max", "(II)I"⟩
abbrev cJ9_min_7cf53 : ByteArray := prog_11_method_69_code
def yJ9_min_7cf53 : MethodName := ⟨RJ9, "min", "(II)I"⟩
def RJ10 : String := "java/lang/System"
def TJ10 : u_T := fun k => match k with
  | _ => ("", "", "", false)
def tyJ10 : Nat → FieldType := fun k => match k with
  | _ => .int
abbrev wsJ100 : List Cond := u_ws RJ10 TJ10 0
theorem nmJ10 : ∀ a, a < 0 → ∀ b, b < 0 → a ≠ b → (TJ10 a).2.1 ≠ (TJ10 b).2.1 := by decide +kernel
theorem tyJ10_ok : ∀ k, k < 0 → parseFieldDescriptor (TJ10 k).2.2.1 = some (tyJ10 k) := by decide +kernel
def RL : String := "CaneQuotasLaw"
abbrev cL_low : ByteArray := method_2_code
def yL_low : MethodName := ⟨RL, "low", "(II)I"⟩
abbrev cL_cell : ByteArray := method_3_code
def yL_cell : MethodName := ⟨RL, "cell", "([II)I"⟩
abbrev cL_tonnes : ByteArray := method_4_code
def yL_tonnes : MethodName := ⟨RL, "tonnes", "(LCaneQuotas;)Z"⟩
abbrev cL_looks : ByteArray := method_5_code
def yL_looks : MethodName := ⟨RL, "looks", "(LCaneQuotas;)Z"⟩
abbrev cL_act : ByteArray := method_6_code
def yL_act : MethodName := ⟨RL, "act", "(LCaneQuotas;[II)I"⟩
abbrev cL_law : ByteArray := code
def yL_law : MethodName := ⟨RL, "law", "([I)Z"⟩
abbrev vwCl : List vw_C := [(RX0, TX0, 9), (RX1, TX1, 5), (RX2, TX2, 3), (RX3, TX3, 9), (RX4, TX4, 6), (RX5, TX5, 3), (RX6, TX6, 5), (RX7, TX7, 5)]
end
section
theorem dX0_init_0 : decode cX0_init 0 = .ok (.aload_n 0, 1) := by decide +kernel
theorem dX0_init_1 : decode cX0_init 1 = .ok (.invokespecial 3, 3) := by decide +kernel
theorem dX0_init_4 : decode cX0_init 4 = .ok (.aload_n 0, 1) := by decide +kernel
theorem dX0_init_5 : decode cX0_init 5 = .ok (.bipush 30, 2) := by decide +kernel
theorem dX0_init_7 : decode cX0_init 7 = .ok (.newarray .int, 2) := by decide +kernel
theorem dX0_init_9 : decode cX0_init 9 = .ok (.putfield 9, 3) := by decide +kernel
theorem dX0_init_12 : decode cX0_init 12 = .ok (.aload_n 0, 1) := by decide +kernel
theorem dX0_init_13 : decode cX0_init 13 = .ok (.bipush 30, 2) := by decide +kernel
theorem dX0_init_15 : decode cX0_init 15 = .ok (.newarray .int, 2) := by decide +kernel
theorem dX0_init_17 : decode cX0_init 17 = .ok (.putfield 15, 3) := by decide +kernel
theorem dX0_init_20 : decode cX0_init 20 = .ok (.aload_n 0, 1) := by decide +kernel
theorem dX0_init_21 : decode cX0_init 21 = .ok (.bipush 30, 2) := by decide +kernel
theorem dX0_init_23 : decode cX0_init 23 = .ok (.newarray .int, 2) := by decide +kernel
theorem dX0_init_25 : decode cX0_init 25 = .ok (.putfield 18, 3) := by decide +kernel
theorem dX0_init_28 : decode cX0_init 28 = .ok (.aload_n 0, 1) := by decide +kernel
theorem dX0_init_29 : decode cX0_init 29 = .ok (.bipush 30, 2) := by decide +kernel
theorem dX0_init_31 : decode cX0_init 31 = .ok (.newarray .int, 2) := by decide +kernel
theorem dX0_init_33 : decode cX0_init 33 = .ok (.putfield 21, 3) := by decide +kernel
theorem dX0_init_36 : decode cX0_init 36 = .ok (.aload_n 0, 1) := by decide +kernel
theorem dX0_init_37 : decode cX0_init 37 = .ok (.bipush 30, 2) := by decide +kernel
theorem dX0_init_39 : decode cX0_init 39 = .ok (.newarray .int, 2) := by decide +kernel
theorem dX0_init_41 : decode cX0_init 41 = .ok (.putfield 24, 3) := by decide +kernel
theorem dX0_init_44 : decode cX0_init 44 = .ok (.aload_n 0, 1) := by decide +kernel
theorem dX0_init_45 : decode cX0_init 45 = .ok (.bipush 30, 2) := by decide +kernel
theorem dX0_init_47 : decode cX0_init 47 = .ok (.newarray .int, 2) := by decide +kernel
theorem dX0_init_49 : decode cX0_init 49 = .ok (.putfield 27, 3) := by decide +kernel
theorem dX0_init_52 : decode cX0_init 52 = .ok (.aload_n 0, 1) := by decide +kernel
theorem dX0_init_53 : decode cX0_init 53 = .ok (.bipush 30, 2) := by decide +kernel
theorem dX0_init_55 : decode cX0_init 55 = .ok (.newarray .int, 2) := by decide +kernel
theorem dX0_init_57 : decode cX0_init 57 = .ok (.putfield 30, 3) := by decide +kernel
theorem dX0_init_60 : decode cX0_init 60 = .ok (.aload_n 0, 1) := by decide +kernel
theorem dX0_init_61 : decode cX0_init 61 = .ok (.bipush 30, 2) := by decide +kernel
theorem dX0_init_63 : decode cX0_init 63 = .ok (.newarray .int, 2) := by decide +kernel
theorem dX0_init_65 : decode cX0_init 65 = .ok (.putfield 33, 3) := by decide +kernel
theorem dX0_init_68 : decode cX0_init 68 = .ok (.return_, 1) := by decide +kernel
theorem dX0_copyFrom_0 : decode cX0_copyFrom 0 = .ok (.aload_n 0, 1) := by decide +kernel
theorem dX0_copyFrom_1 : decode cX0_copyFrom 1 = .ok (.aload_n 1, 1) := by decide +kernel
theorem dX0_copyFrom_2 : decode cX0_copyFrom 2 = .ok (.getfield 36, 3) := by decide +kernel
theorem dX0_copyFrom_5 : decode cX0_copyFrom 5 = .ok (.putfield 36, 3) := by decide +kernel
theorem dX0_copyFrom_8 : decode cX0_copyFrom 8 = .ok (.aload_n 1, 1) := by decide +kernel
theorem dX0_copyFrom_9 : decode cX0_copyFrom 9 = .ok (.getfield 9, 3) := by decide +kernel
theorem dX0_copyFrom_12 : decode cX0_copyFrom 12 = .ok (.aload_n 0, 1) := by decide +kernel
theorem dX0_copyFrom_13 : decode cX0_copyFrom 13 = .ok (.getfield 9, 3) := by decide +kernel
theorem dX0_copyFrom_16 : decode cX0_copyFrom 16 = .ok (.aload_n 0, 1) := by decide +kernel
theorem dX0_copyFrom_17 : decode cX0_copyFrom 17 = .ok (.getfield 36, 3) := by decide +kernel
theorem dX0_copyFrom_20 : decode cX0_copyFrom 20 = .ok (.invokestatic 40, 3) := by decide +kernel
theorem dX0_copyFrom_23 : decode cX0_copyFrom 23 = .ok (.aload_n 1, 1) := by decide +kernel
theorem dX0_copyFrom_24 : decode cX0_copyFrom 24 = .ok (.getfield 15, 3) := by decide +kernel
theorem dX0_copyFrom_27 : decode cX0_copyFrom 27 = .ok (.aload_n 0, 1) := by decide +kernel
theorem dX0_copyFrom_28 : decode cX0_copyFrom 28 = .ok (.getfield 15, 3) := by decide +kernel
theorem dX0_copyFrom_31 : decode cX0_copyFrom 31 = .ok (.aload_n 0, 1) := by decide +kernel
theorem dX0_copyFrom_32 : decode cX0_copyFrom 32 = .ok (.getfield 36, 3) := by decide +kernel
theorem dX0_copyFrom_35 : decode cX0_copyFrom 35 = .ok (.invokestatic 40, 3) := by decide +kernel
theorem dX0_copyFrom_38 : decode cX0_copyFrom 38 = .ok (.aload_n 1, 1) := by decide +kernel
theorem dX0_copyFrom_39 : decode cX0_copyFrom 39 = .ok (.getfield 18, 3) := by decide +kernel
theorem dX0_copyFrom_42 : decode cX0_copyFrom 42 = .ok (.aload_n 0, 1) := by decide +kernel
theorem dX0_copyFrom_43 : decode cX0_copyFrom 43 = .ok (.getfield 18, 3) := by decide +kernel
theorem dX0_copyFrom_46 : decode cX0_copyFrom 46 = .ok (.aload_n 0, 1) := by decide +kernel
theorem dX0_copyFrom_47 : decode cX0_copyFrom 47 = .ok (.getfield 36, 3) := by decide +kernel
theorem dX0_copyFrom_50 : decode cX0_copyFrom 50 = .ok (.invokestatic 40, 3) := by decide +kernel
theorem dX0_copyFrom_53 : decode cX0_copyFrom 53 = .ok (.aload_n 1, 1) := by decide +kernel
theorem dX0_copyFrom_54 : decode cX0_copyFrom 54 = .ok (.getfield 21, 3) := by decide +kernel
theorem dX0_copyFrom_57 : decode cX0_copyFrom 57 = .ok (.aload_n 0, 1) := by decide +kernel
theorem dX0_copyFrom_58 : decode cX0_copyFrom 58 = .ok (.getfield 21, 3) := by decide +kernel
theorem dX0_copyFrom_61 : decode cX0_copyFrom 61 = .ok (.aload_n 0, 1) := by decide +kernel
theorem dX0_copyFrom_62 : decode cX0_copyFrom 62 = .ok (.getfield 36, 3) := by decide +kernel
theorem dX0_copyFrom_65 : decode cX0_copyFrom 65 = .ok (.invokestatic 40, 3) := by decide +kernel
theorem dX0_copyFrom_68 : decode cX0_copyFrom 68 = .ok (.aload_n 1, 1) := by decide +kernel
theorem dX0_copyFrom_69 : decode cX0_copyFrom 69 = .ok (.getfield 24, 3) := by decide +kernel
theorem dX0_copyFrom_72 : decode cX0_copyFrom 72 = .ok (.aload_n 0, 1) := by decide +kernel
theorem dX0_copyFrom_73 : decode cX0_copyFrom 73 = .ok (.getfield 24, 3) := by decide +kernel
theorem dX0_copyFrom_76 : decode cX0_copyFrom 76 = .ok (.aload_n 0, 1) := by decide +kernel
theorem dX0_copyFrom_77 : decode cX0_copyFrom 77 = .ok (.getfield 36, 3) := by decide +kernel
theorem dX0_copyFrom_80 : decode cX0_copyFrom 80 = .ok (.invokestatic 40, 3) := by decide +kernel
theorem dX0_copyFrom_83 : decode cX0_copyFrom 83 = .ok (.aload_n 1, 1) := by decide +kernel
theorem dX0_copyFrom_84 : decode cX0_copyFrom 84 = .ok (.getfield 27, 3) := by decide +kernel
theorem dX0_copyFrom_87 : decode cX0_copyFrom 87 = .ok (.aload_n 0, 1) := by decide +kernel
theorem dX0_copyFrom_88 : decode cX0_copyFrom 88 = .ok (.getfield 27, 3) := by decide +kernel
theorem dX0_copyFrom_91 : decode cX0_copyFrom 91 = .ok (.aload_n 0, 1) := by decide +kernel
theorem dX0_copyFrom_92 : decode cX0_copyFrom 92 = .ok (.getfield 36, 3) := by decide +kernel
theorem dX0_copyFrom_95 : decode cX0_copyFrom 95 = .ok (.invokestatic 40, 3) := by decide +kernel
theorem dX0_copyFrom_98 : decode cX0_copyFrom 98 = .ok (.aload_n 1, 1) := by decide +kernel
theorem dX0_copyFrom_99 : decode cX0_copyFrom 99 = .ok (.getfield 30, 3) := by decide +kernel
theorem dX0_copyFrom_102 : decode cX0_copyFrom 102 = .ok (.aload_n 0, 1) := by decide +kernel
theorem dX0_copyFrom_103 : decode cX0_copyFrom 103 = .ok (.getfield 30, 3) := by decide +kernel
theorem dX0_copyFrom_106 : decode cX0_copyFrom 106 = .ok (.aload_n 0, 1) := by decide +kernel
theorem dX0_copyFrom_107 : decode cX0_copyFrom 107 = .ok (.getfield 36, 3) := by decide +kernel
theorem dX0_copyFrom_110 : decode cX0_copyFrom 110 = .ok (.invokestatic 40, 3) := by decide +kernel
theorem dX0_copyFrom_113 : decode cX0_copyFrom 113 = .ok (.aload_n 1, 1) := by decide +kernel
theorem dX0_copyFrom_114 : decode cX0_copyFrom 114 = .ok (.getfield 33, 3) := by decide +kernel
theorem dX0_copyFrom_117 : decode cX0_copyFrom 117 = .ok (.aload_n 0, 1) := by decide +kernel
theorem dX0_copyFrom_118 : decode cX0_copyFrom 118 = .ok (.getfield 33, 3) := by decide +kernel
theorem dX0_copyFrom_121 : decode cX0_copyFrom 121 = .ok (.aload_n 0, 1) := by decide +kernel
theorem dX0_copyFrom_122 : decode cX0_copyFrom 122 = .ok (.getfield 36, 3) := by decide +kernel
theorem dX0_copyFrom_125 : decode cX0_copyFrom 125 = .ok (.invokestatic 40, 3) := by decide +kernel
theorem dX0_copyFrom_128 : decode cX0_copyFrom 128 = .ok (.return_, 1) := by decide +kernel
theorem dX0_append_0 : decode cX0_append 0 = .ok (.aload_n 0, 1) := by decide +kernel
theorem dX0_append_1 : decode cX0_append 1 = .ok (.getfield 36, 3) := by decide +kernel
theorem dX0_append_4 : decode cX0_append 4 = .ok (.bipush 30, 2) := by decide +kernel
theorem dX0_append_6 : decode cX0_append 6 = .ok (.if_icmp .lt 6, 3) := by decide +kernel
theorem dX0_append_9 : decode cX0_append 9 = .ok (.bipush (-4), 2) := by decide +kernel
theorem dX0_append_11 : decode cX0_append 11 = .ok (.ireturn, 1) := by decide +kernel
theorem dX0_append_12 : decode cX0_append 12 = .ok (.aload_n 0, 1) := by decide +kernel
theorem dX0_append_13 : decode cX0_append 13 = .ok (.getfield 36, 3) := by decide +kernel
theorem dX0_append_16 : decode cX0_append 16 = .ok (.istore 5, 2) := by decide +kernel
theorem dX0_append_18 : decode cX0_append 18 = .ok (.aload_n 0, 1) := by decide +kernel
theorem dX0_append_19 : decode cX0_append 19 = .ok (.getfield 9, 3) := by decide +kernel
theorem dX0_append_22 : decode cX0_append 22 = .ok (.iload 5, 2) := by decide +kernel
theorem dX0_append_24 : decode cX0_append 24 = .ok (.iload_n 1, 1) := by decide +kernel
theorem dX0_append_25 : decode cX0_append 25 = .ok (.iastore, 1) := by decide +kernel
theorem dX0_append_26 : decode cX0_append 26 = .ok (.aload_n 0, 1) := by decide +kernel
theorem dX0_append_27 : decode cX0_append 27 = .ok (.getfield 15, 3) := by decide +kernel
theorem dX0_append_30 : decode cX0_append 30 = .ok (.iload 5, 2) := by decide +kernel
theorem dX0_append_32 : decode cX0_append 32 = .ok (.iload_n 2, 1) := by decide +kernel
theorem dX0_append_33 : decode cX0_append 33 = .ok (.iastore, 1) := by decide +kernel
theorem dX0_append_34 : decode cX0_append 34 = .ok (.aload_n 0, 1) := by decide +kernel
theorem dX0_append_35 : decode cX0_append 35 = .ok (.getfield 18, 3) := by decide +kernel
theorem dX0_append_38 : decode cX0_append 38 = .ok (.iload 5, 2) := by decide +kernel
theorem dX0_append_40 : decode cX0_append 40 = .ok (.iload_n 3, 1) := by decide +kernel
theorem dX0_append_41 : decode cX0_append 41 = .ok (.iastore, 1) := by decide +kernel
theorem dX0_append_42 : decode cX0_append 42 = .ok (.aload_n 0, 1) := by decide +kernel
theorem dX0_append_43 : decode cX0_append 43 = .ok (.getfield 21, 3) := by decide +kernel
theorem dX0_append_46 : decode cX0_append 46 = .ok (.iload 5, 2) := by decide +kernel
theorem dX0_append_48 : decode cX0_append 48 = .ok (.iload 4, 2) := by decide +kernel
theorem dX0_append_50 : decode cX0_append 50 = .ok (.iastore, 1) := by decide +kernel
theorem dX0_append_51 : decode cX0_append 51 = .ok (.aload_n 0, 1) := by decide +kernel
theorem dX0_append_52 : decode cX0_append 52 = .ok (.getfield 24, 3) := by decide +kernel
theorem dX0_append_55 : decode cX0_append 55 = .ok (.iload 5, 2) := by decide +kernel
theorem dX0_append_57 : decode cX0_append 57 = .ok (.iload_n 2, 1) := by decide +kernel
theorem dX0_append_58 : decode cX0_append 58 = .ok (.iastore, 1) := by decide +kernel
theorem dX0_append_59 : decode cX0_append 59 = .ok (.aload_n 0, 1) := by decide +kernel
theorem dX0_append_60 : decode cX0_append 60 = .ok (.getfield 27, 3) := by decide +kernel
theorem dX0_append_63 : decode cX0_append 63 = .ok (.iload 5, 2) := by decide +kernel
theorem dX0_append_65 : decode cX0_append 65 = .ok (.iconst 0, 1) := by decide +kernel
theorem dX0_append_66 : decode cX0_append 66 = .ok (.iastore, 1) := by decide +kernel
theorem dX0_append_67 : decode cX0_append 67 = .ok (.aload_n 0, 1) := by decide +kernel
theorem dX0_append_68 : decode cX0_append 68 = .ok (.getfield 30, 3) := by decide +kernel
theorem dX0_append_71 : decode cX0_append 71 = .ok (.iload 5, 2) := by decide +kernel
theorem dX0_append_73 : decode cX0_append 73 = .ok (.iconst 0, 1) := by decide +kernel
theorem dX0_append_74 : decode cX0_append 74 = .ok (.iastore, 1) := by decide +kernel
theorem dX0_append_75 : decode cX0_append 75 = .ok (.aload_n 0, 1) := by decide +kernel
theorem dX0_append_76 : decode cX0_append 76 = .ok (.getfield 33, 3) := by decide +kernel
theorem dX0_append_79 : decode cX0_append 79 = .ok (.iload 5, 2) := by decide +kernel
theorem dX0_append_81 : decode cX0_append 81 = .ok (.iconst 0, 1) := by decide +kernel
theorem dX0_append_82 : decode cX0_append 82 = .ok (.iastore, 1) := by decide +kernel
theorem dX0_append_83 : decode cX0_append 83 = .ok (.aload_n 0, 1) := by decide +kernel
theorem dX0_append_84 : decode cX0_append 84 = .ok (.dup, 1) := by decide +kernel
theorem dX0_append_85 : decode cX0_append 85 = .ok (.getfield 36, 3) := by decide +kernel
theorem dX0_append_88 : decode cX0_append 88 = .ok (.iconst 1, 1) := by decide +kernel
theorem dX0_append_89 : decode cX0_append 89 = .ok (.iadd, 1) := by decide +kernel
theorem dX0_append_90 : decode cX0_append 90 = .ok (.putfield 36, 3) := by decide +kernel
theorem dX0_append_93 : decode cX0_append 93 = .ok (.iload 5, 2) := by decide +kernel
theorem dX0_append_95 : decode cX0_append 95 = .ok (.ireturn, 1) := by decide +kernel
theorem dX0_howItIs_0 : decode cX0_howItIs 0 = .ok (.iload_n 2, 1) := by decide +kernel
theorem dX0_howItIs_1 : decode cX0_howItIs 1 = .ok (.aload_n 0, 1) := by decide +kernel
theorem dX0_howItIs_2 : decode cX0_howItIs 2 = .ok (.getfield 21, 3) := by decide +kernel
theorem dX0_howItIs_5 : decode cX0_howItIs 5 = .ok (.iload_n 1, 1) := by decide +kernel
theorem dX0_howItIs_6 : decode cX0_howItIs 6 = .ok (.iaload, 1) := by decide +kernel
theorem dX0_howItIs_7 : decode cX0_howItIs 7 = .ok (.if_icmp .ge 5, 3) := by decide +kernel
theorem dX0_howItIs_10 : decode cX0_howItIs 10 = .ok (.iconst 0, 1) := by decide +kernel
theorem dX0_howItIs_11 : decode cX0_howItIs 11 = .ok (.ireturn, 1) := by decide +kernel
theorem dX0_howItIs_12 : decode cX0_howItIs 12 = .ok (.aload_n 0, 1) := by decide +kernel
theorem dX0_howItIs_13 : decode cX0_howItIs 13 = .ok (.getfield 24, 3) := by decide +kernel
theorem dX0_howItIs_16 : decode cX0_howItIs 16 = .ok (.iload_n 1, 1) := by decide +kernel
theorem dX0_howItIs_17 : decode cX0_howItIs 17 = .ok (.iaload, 1) := by decide +kernel
theorem dX0_howItIs_18 : decode cX0_howItIs 18 = .ok (.ifCond .le 5, 3) := by decide +kernel
theorem dX0_howItIs_21 : decode cX0_howItIs 21 = .ok (.iconst 1, 1) := by decide +kernel
theorem dX0_howItIs_22 : decode cX0_howItIs 22 = .ok (.ireturn, 1) := by decide +kernel
theorem dX0_howItIs_23 : decode cX0_howItIs 23 = .ok (.aload_n 0, 1) := by decide +kernel
theorem dX0_howItIs_24 : decode cX0_howItIs 24 = .ok (.getfield 33, 3) := by decide +kernel
theorem dX0_howItIs_27 : decode cX0_howItIs 27 = .ok (.iload_n 1, 1) := by decide +kernel
theorem dX0_howItIs_28 : decode cX0_howItIs 28 = .ok (.iaload, 1) := by decide +kernel
theorem dX0_howItIs_29 : decode cX0_howItIs 29 = .ok (.ifCond .le 7, 3) := by decide +kernel
theorem dX0_howItIs_32 : decode cX0_howItIs 32 = .ok (.iconst 3, 1) := by decide +kernel
theorem dX0_howItIs_33 : decode cX0_howItIs 33 = .ok (.goto 4, 3) := by decide +kernel
theorem dX0_howItIs_36 : decode cX0_howItIs 36 = .ok (.iconst 2, 1) := by decide +kernel
theorem dX0_howItIs_37 : decode cX0_howItIs 37 = .ok (.ireturn, 1) := by decide +kernel
theorem dX0_loseCane_0 : decode cX0_loseCane 0 = .ok (.aload_n 0, 1) := by decide +kernel
theorem dX0_loseCane_1 : decode cX0_loseCane 1 = .ok (.getfield 24, 3) := by decide +kernel
theorem dX0_loseCane_4 : decode cX0_loseCane 4 = .ok (.iload_n 1, 1) := by decide +kernel
theorem dX0_loseCane_5 : decode cX0_loseCane 5 = .ok (.iaload, 1) := by decide +kernel
theorem dX0_loseCane_6 : decode cX0_loseCane 6 = .ok (.istore_n 2, 1) := by decide +kernel
theorem dX0_loseCane_7 : decode cX0_loseCane 7 = .ok (.aload_n 0, 1) := by decide +kernel
theorem dX0_loseCane_8 : decode cX0_loseCane 8 = .ok (.getfield 33, 3) := by decide +kernel
theorem dX0_loseCane_11 : decode cX0_loseCane 11 = .ok (.iload_n 1, 1) := by decide +kernel
theorem dX0_loseCane_12 : decode cX0_loseCane 12 = .ok (.dup2, 1) := by decide +kernel
theorem dX0_loseCane_13 : decode cX0_loseCane 13 = .ok (.iaload, 1) := by decide +kernel
theorem dX0_loseCane_14 : decode cX0_loseCane 14 = .ok (.iload_n 2, 1) := by decide +kernel
theorem dX0_loseCane_15 : decode cX0_loseCane 15 = .ok (.iadd, 1) := by decide +kernel
theorem dX0_loseCane_16 : decode cX0_loseCane 16 = .ok (.iastore, 1) := by decide +kernel
theorem dX0_loseCane_17 : decode cX0_loseCane 17 = .ok (.aload_n 0, 1) := by decide +kernel
theorem dX0_loseCane_18 : decode cX0_loseCane 18 = .ok (.getfield 24, 3) := by decide +kernel
theorem dX0_loseCane_21 : decode cX0_loseCane 21 = .ok (.iload_n 1, 1) := by decide +kernel
theorem dX0_loseCane_22 : decode cX0_loseCane 22 = .ok (.iconst 0, 1) := by decide +kernel
theorem dX0_loseCane_23 : decode cX0_loseCane 23 = .ok (.iastore, 1) := by decide +kernel
theorem dX0_loseCane_24 : decode cX0_loseCane 24 = .ok (.iload_n 2, 1) := by decide +kernel
theorem dX0_loseCane_25 : decode cX0_loseCane 25 = .ok (.ireturn, 1) := by decide +kernel
theorem dX0_purityOn_0 : decode cX0_purityOn 0 = .ok (.iconst 0, 1) := by decide +kernel
theorem dX0_purityOn_1 : decode cX0_purityOn 1 = .ok (.iload_n 2, 1) := by decide +kernel
theorem dX0_purityOn_2 : decode cX0_purityOn 2 = .ok (.aload_n 0, 1) := by decide +kernel
theorem dX0_purityOn_3 : decode cX0_purityOn 3 = .ok (.getfield 21, 3) := by decide +kernel
theorem dX0_purityOn_6 : decode cX0_purityOn 6 = .ok (.iload_n 1, 1) := by decide +kernel
theorem dX0_purityOn_7 : decode cX0_purityOn 7 = .ok (.iaload, 1) := by decide +kernel
theorem dX0_purityOn_8 : decode cX0_purityOn 8 = .ok (.isub, 1) := by decide +kernel
theorem dX0_purityOn_9 : decode cX0_purityOn 9 = .ok (.invokestatic 44, 3) := by decide +kernel
theorem dX0_purityOn_12 : decode cX0_purityOn 12 = .ok (.istore 4, 2) := by decide +kernel
theorem dX0_purityOn_14 : decode cX0_purityOn 14 = .ok (.iconst 0, 1) := by decide +kernel
theorem dX0_purityOn_15 : decode cX0_purityOn 15 = .ok (.aload_n 0, 1) := by decide +kernel
theorem dX0_purityOn_16 : decode cX0_purityOn 16 = .ok (.getfield 18, 3) := by decide +kernel
theorem dX0_purityOn_19 : decode cX0_purityOn 19 = .ok (.iload_n 1, 1) := by decide +kernel
theorem dX0_purityOn_20 : decode cX0_purityOn 20 = .ok (.iaload, 1) := by decide +kernel
theorem dX0_purityOn_21 : decode cX0_purityOn 21 = .ok (.iload_n 3, 1) := by decide +kernel
theorem dX0_purityOn_22 : decode cX0_purityOn 22 = .ok (.iload 4, 2) := by decide +kernel
theorem dX0_purityOn_24 : decode cX0_purityOn 24 = .ok (.imul, 1) := by decide +kernel
theorem dX0_purityOn_25 : decode cX0_purityOn 25 = .ok (.isub, 1) := by decide +kernel
theorem dX0_purityOn_26 : decode cX0_purityOn 26 = .ok (.invokestatic 44, 3) := by decide +kernel
theorem dX0_purityOn_29 : decode cX0_purityOn 29 = .ok (.ireturn, 1) := by decide +kernel
theorem dX0_burntCaneOf_0 : decode cX0_burntCaneOf 0 = .ok (.iconst 0, 1) := by decide +kernel
theorem dX0_burntCaneOf_1 : decode cX0_burntCaneOf 1 = .ok (.istore_n 3, 1) := by decide +kernel
theorem dX0_burntCaneOf_2 : decode cX0_burntCaneOf 2 = .ok (.iconst 0, 1) := by decide +kernel
theorem dX0_burntCaneOf_3 : decode cX0_burntCaneOf 3 = .ok (.istore 4, 2) := by decide +kernel
theorem dX0_burntCaneOf_5 : decode cX0_burntCaneOf 5 = .ok (.iload 4, 2) := by decide +kernel
theorem dX0_burntCaneOf_7 : decode cX0_burntCaneOf 7 = .ok (.aload_n 0, 1) := by decide +kernel
theorem dX0_burntCaneOf_8 : decode cX0_burntCaneOf 8 = .ok (.getfield 36, 3) := by decide +kernel
theorem dX0_burntCaneOf_11 : decode cX0_burntCaneOf 11 = .ok (.if_icmp .ge 41, 3) := by decide +kernel
theorem dX0_burntCaneOf_14 : decode cX0_burntCaneOf 14 = .ok (.aload_n 0, 1) := by decide +kernel
theorem dX0_burntCaneOf_15 : decode cX0_burntCaneOf 15 = .ok (.getfield 9, 3) := by decide +kernel
theorem dX0_burntCaneOf_18 : decode cX0_burntCaneOf 18 = .ok (.iload 4, 2) := by decide +kernel
theorem dX0_burntCaneOf_20 : decode cX0_burntCaneOf 20 = .ok (.iaload, 1) := by decide +kernel
theorem dX0_burntCaneOf_21 : decode cX0_burntCaneOf 21 = .ok (.iload_n 1, 1) := by decide +kernel
theorem dX0_burntCaneOf_22 : decode cX0_burntCaneOf 22 = .ok (.if_icmp .ne 24, 3) := by decide +kernel
theorem dX0_burntCaneOf_25 : decode cX0_burntCaneOf 25 = .ok (.aload_n 0, 1) := by decide +kernel
theorem dX0_burntCaneOf_26 : decode cX0_burntCaneOf 26 = .ok (.iload 4, 2) := by decide +kernel
theorem dX0_burntCaneOf_28 : decode cX0_burntCaneOf 28 = .ok (.iload_n 2, 1) := by decide +kernel
theorem dX0_burntCaneOf_29 : decode cX0_burntCaneOf 29 = .ok (.invokevirtual 50, 3) := by decide +kernel
theorem dX0_burntCaneOf_32 : decode cX0_burntCaneOf 32 = .ok (.iconst 1, 1) := by decide +kernel
theorem dX0_burntCaneOf_33 : decode cX0_burntCaneOf 33 = .ok (.if_icmp .ne 13, 3) := by decide +kernel
theorem dX0_burntCaneOf_36 : decode cX0_burntCaneOf 36 = .ok (.iload_n 3, 1) := by decide +kernel
theorem dX0_burntCaneOf_37 : decode cX0_burntCaneOf 37 = .ok (.aload_n 0, 1) := by decide +kernel
theorem dX0_burntCaneOf_38 : decode cX0_burntCaneOf 38 = .ok (.getfield 24, 3) := by decide +kernel
theorem dX0_burntCaneOf_41 : decode cX0_burntCaneOf 41 = .ok (.iload 4, 2) := by decide +kernel
theorem dX0_burntCaneOf_43 : decode cX0_burntCaneOf 43 = .ok (.iaload, 1) := by decide +kernel
theorem dX0_burntCaneOf_44 : decode cX0_burntCaneOf 44 = .ok (.iadd, 1) := by decide +kernel
theorem dX0_burntCaneOf_45 : decode cX0_burntCaneOf 45 = .ok (.istore_n 3, 1) := by decide +kernel
theorem dX0_burntCaneOf_46 : decode cX0_burntCaneOf 46 = .ok (.iinc 4 1, 3) := by decide +kernel
theorem dX0_burntCaneOf_49 : decode cX0_burntCaneOf 49 = .ok (.goto (-44), 3) := by decide +kernel
theorem dX0_burntCaneOf_52 : decode cX0_burntCaneOf 52 = .ok (.iload_n 3, 1) := by decide +kernel
theorem dX0_burntCaneOf_53 : decode cX0_burntCaneOf 53 = .ok (.ireturn, 1) := by decide +kernel
theorem dX0_setOf_0 : decode cX0_setOf 0 = .ok (.lconst 0, 1) := by decide +kernel
theorem dX0_setOf_1 : decode cX0_setOf 1 = .ok (.lstore_n 3, 1) := by decide +kernel
theorem dX0_setOf_2 : decode cX0_setOf 2 = .ok (.iconst 0, 1) := by decide +kernel
theorem dX0_setOf_3 : decode cX0_setOf 3 = .ok (.istore 5, 2) := by decide +kernel
theorem dX0_setOf_5 : decode cX0_setOf 5 = .ok (.iload 5, 2) := by decide +kernel
theorem dX0_setOf_7 : decode cX0_setOf 7 = .ok (.aload_n 0, 1) := by decide +kernel
theorem dX0_setOf_8 : decode cX0_setOf 8 = .ok (.getfield 36, 3) := by decide +kernel
theorem dX0_setOf_11 : decode cX0_setOf 11 = .ok (.if_icmp .ge 27, 3) := by decide +kernel
theorem dX0_setOf_14 : decode cX0_setOf 14 = .ok (.aload_n 0, 1) := by decide +kernel
theorem dX0_setOf_15 : decode cX0_setOf 15 = .ok (.iload 5, 2) := by decide +kernel
theorem dX0_setOf_17 : decode cX0_setOf 17 = .ok (.iload_n 2, 1) := by decide +kernel
theorem dX0_setOf_18 : decode cX0_setOf 18 = .ok (.invokevirtual 50, 3) := by decide +kernel
theorem dX0_setOf_21 : decode cX0_setOf 21 = .ok (.iload_n 1, 1) := by decide +kernel
theorem dX0_setOf_22 : decode cX0_setOf 22 = .ok (.if_icmp .ne 10, 3) := by decide +kernel
theorem dX0_setOf_25 : decode cX0_setOf 25 = .ok (.lload_n 3, 1) := by decide +kernel
theorem dX0_setOf_26 : decode cX0_setOf 26 = .ok (.lconst 1, 1) := by decide +kernel
theorem dX0_setOf_27 : decode cX0_setOf 27 = .ok (.iload 5, 2) := by decide +kernel
theorem dX0_setOf_29 : decode cX0_setOf 29 = .ok (.lshl, 1) := by decide +kernel
theorem dX0_setOf_30 : decode cX0_setOf 30 = .ok (.lor, 1) := by decide +kernel
theorem dX0_setOf_31 : decode cX0_setOf 31 = .ok (.lstore_n 3, 1) := by decide +kernel
theorem dX0_setOf_32 : decode cX0_setOf 32 = .ok (.iinc 5 1, 3) := by decide +kernel
theorem dX0_setOf_35 : decode cX0_setOf 35 = .ok (.goto (-30), 3) := by decide +kernel
theorem dX0_setOf_38 : decode cX0_setOf 38 = .ok (.lload_n 3, 1) := by decide +kernel
theorem dX0_setOf_39 : decode cX0_setOf 39 = .ok (.lreturn, 1) := by decide +kernel
theorem dX1_init_0 : decode cX1_init 0 = .ok (.aload_n 0, 1) := by decide +kernel
theorem dX1_init_1 : decode cX1_init 1 = .ok (.invokespecial 3, 3) := by decide +kernel
theorem dX1_init_4 : decode cX1_init 4 = .ok (.aload_n 0, 1) := by decide +kernel
theorem dX1_init_5 : decode cX1_init 5 = .ok (.bipush 6, 2) := by decide +kernel
theorem dX1_init_7 : decode cX1_init 7 = .ok (.newarray .int, 2) := by decide +kernel
theorem dX1_init_9 : decode cX1_init 9 = .ok (.dup, 1) := by decide +kernel
theorem dX1_init_10 : decode cX1_init 10 = .ok (.iconst 0, 1) := by decide +kernel
theorem dX1_init_11 : decode cX1_init 11 = .ok (.bipush 100, 2) := by decide +kernel
theorem dX1_init_13 : decode cX1_init 13 = .ok (.iastore, 1) := by decide +kernel
theorem dX1_init_14 : decode cX1_init 14 = .ok (.dup, 1) := by decide +kernel
theorem dX1_init_15 : decode cX1_init 15 = .ok (.iconst 1, 1) := by decide +kernel
theorem dX1_init_16 : decode cX1_init 16 = .ok (.bipush 100, 2) := by decide +kernel
theorem dX1_init_18 : decode cX1_init 18 = .ok (.iastore, 1) := by decide +kernel
theorem dX1_init_19 : decode cX1_init 19 = .ok (.dup, 1) := by decide +kernel
theorem dX1_init_20 : decode cX1_init 20 = .ok (.iconst 2, 1) := by decide +kernel
theorem dX1_init_21 : decode cX1_init 21 = .ok (.bipush 100, 2) := by decide +kernel
theorem dX1_init_23 : decode cX1_init 23 = .ok (.iastore, 1) := by decide +kernel
theorem dX1_init_24 : decode cX1_init 24 = .ok (.dup, 1) := by decide +kernel
theorem dX1_init_25 : decode cX1_init 25 = .ok (.iconst 3, 1) := by decide +kernel
theorem dX1_init_26 : decode cX1_init 26 = .ok (.bipush 100, 2) := by decide +kernel
theorem dX1_init_28 : decode cX1_init 28 = .ok (.iastore, 1) := by decide +kernel
theorem dX1_init_29 : decode cX1_init 29 = .ok (.dup, 1) := by decide +kernel
theorem dX1_init_30 : decode cX1_init 30 = .ok (.iconst 4, 1) := by decide +kernel
theorem dX1_init_31 : decode cX1_init 31 = .ok (.bipush 100, 2) := by decide +kernel
theorem dX1_init_33 : decode cX1_init 33 = .ok (.iastore, 1) := by decide +kernel
theorem dX1_init_34 : decode cX1_init 34 = .ok (.dup, 1) := by decide +kernel
theorem dX1_init_35 : decode cX1_init 35 = .ok (.iconst 5, 1) := by decide +kernel
theorem dX1_init_36 : decode cX1_init 36 = .ok (.bipush 100, 2) := by decide +kernel
theorem dX1_init_38 : decode cX1_init 38 = .ok (.iastore, 1) := by decide +kernel
theorem dX1_init_39 : decode cX1_init 39 = .ok (.putfield 9, 3) := by decide +kernel
theorem dX1_init_42 : decode cX1_init 42 = .ok (.aload_n 0, 1) := by decide +kernel
theorem dX1_init_43 : decode cX1_init 43 = .ok (.bipush 6, 2) := by decide +kernel
theorem dX1_init_45 : decode cX1_init 45 = .ok (.newarray .int, 2) := by decide +kernel
theorem dX1_init_47 : decode cX1_init 47 = .ok (.putfield 15, 3) := by decide +kernel
theorem dX1_init_50 : decode cX1_init 50 = .ok (.aload_n 0, 1) := by decide +kernel
theorem dX1_init_51 : decode cX1_init 51 = .ok (.bipush 6, 2) := by decide +kernel
theorem dX1_init_53 : decode cX1_init 53 = .ok (.newarray .int, 2) := by decide +kernel
theorem dX1_init_55 : decode cX1_init 55 = .ok (.putfield 18, 3) := by decide +kernel
theorem dX1_init_58 : decode cX1_init 58 = .ok (.aload_n 0, 1) := by decide +kernel
theorem dX1_init_59 : decode cX1_init 59 = .ok (.bipush 6, 2) := by decide +kernel
theorem dX1_init_61 : decode cX1_init 61 = .ok (.newarray .int, 2) := by decide +kernel
theorem dX1_init_63 : decode cX1_init 63 = .ok (.putfield 21, 3) := by decide +kernel
theorem dX1_init_66 : decode cX1_init 66 = .ok (.aload_n 0, 1) := by decide +kernel
theorem dX1_init_67 : decode cX1_init 67 = .ok (.bipush 6, 2) := by decide +kernel
theorem dX1_init_69 : decode cX1_init 69 = .ok (.newarray .int, 2) := by decide +kernel
theorem dX1_init_71 : decode cX1_init 71 = .ok (.putfield 24, 3) := by decide +kernel
theorem dX1_init_74 : decode cX1_init 74 = .ok (.return_, 1) := by decide +kernel
theorem dX1_copyFrom_0 : decode cX1_copyFrom 0 = .ok (.aload_n 1, 1) := by decide +kernel
theorem dX1_copyFrom_1 : decode cX1_copyFrom 1 = .ok (.getfield 9, 3) := by decide +kernel
theorem dX1_copyFrom_4 : decode cX1_copyFrom 4 = .ok (.aload_n 0, 1) := by decide +kernel
theorem dX1_copyFrom_5 : decode cX1_copyFrom 5 = .ok (.getfield 9, 3) := by decide +kernel
theorem dX1_copyFrom_8 : decode cX1_copyFrom 8 = .ok (.bipush 6, 2) := by decide +kernel
theorem dX1_copyFrom_10 : decode cX1_copyFrom 10 = .ok (.invokestatic 27, 3) := by decide +kernel
theorem dX1_copyFrom_13 : decode cX1_copyFrom 13 = .ok (.aload_n 1, 1) := by decide +kernel
theorem dX1_copyFrom_14 : decode cX1_copyFrom 14 = .ok (.getfield 15, 3) := by decide +kernel
theorem dX1_copyFrom_17 : decode cX1_copyFrom 17 = .ok (.aload_n 0, 1) := by decide +kernel
theorem dX1_copyFrom_18 : decode cX1_copyFrom 18 = .ok (.getfield 15, 3) := by decide +kernel
theorem dX1_copyFrom_21 : decode cX1_copyFrom 21 = .ok (.bipush 6, 2) := by decide +kernel
theorem dX1_copyFrom_23 : decode cX1_copyFrom 23 = .ok (.invokestatic 27, 3) := by decide +kernel
theorem dX1_copyFrom_26 : decode cX1_copyFrom 26 = .ok (.aload_n 1, 1) := by decide +kernel
theorem dX1_copyFrom_27 : decode cX1_copyFrom 27 = .ok (.getfield 18, 3) := by decide +kernel
theorem dX1_copyFrom_30 : decode cX1_copyFrom 30 = .ok (.aload_n 0, 1) := by decide +kernel
theorem dX1_copyFrom_31 : decode cX1_copyFrom 31 = .ok (.getfield 18, 3) := by decide +kernel
theorem dX1_copyFrom_34 : decode cX1_copyFrom 34 = .ok (.bipush 6, 2) := by decide +kernel
theorem dX1_copyFrom_36 : decode cX1_copyFrom 36 = .ok (.invokestatic 27, 3) := by decide +kernel
theorem dX1_copyFrom_39 : decode cX1_copyFrom 39 = .ok (.aload_n 1, 1) := by decide +kernel
theorem dX1_copyFrom_40 : decode cX1_copyFrom 40 = .ok (.getfield 21, 3) := by decide +kernel
theorem dX1_copyFrom_43 : decode cX1_copyFrom 43 = .ok (.aload_n 0, 1) := by decide +kernel
theorem dX1_copyFrom_44 : decode cX1_copyFrom 44 = .ok (.getfield 21, 3) := by decide +kernel
theorem dX1_copyFrom_47 : decode cX1_copyFrom 47 = .ok (.bipush 6, 2) := by decide +kernel
theorem dX1_copyFrom_49 : decode cX1_copyFrom 49 = .ok (.invokestatic 27, 3) := by decide +kernel
theorem dX1_copyFrom_52 : decode cX1_copyFrom 52 = .ok (.aload_n 1, 1) := by decide +kernel
theorem dX1_copyFrom_53 : decode cX1_copyFrom 53 = .ok (.getfield 24, 3) := by decide +kernel
theorem dX1_copyFrom_56 : decode cX1_copyFrom 56 = .ok (.aload_n 0, 1) := by decide +kernel
theorem dX1_copyFrom_57 : decode cX1_copyFrom 57 = .ok (.getfield 24, 3) := by decide +kernel
theorem dX1_copyFrom_60 : decode cX1_copyFrom 60 = .ok (.bipush 6, 2) := by decide +kernel
theorem dX1_copyFrom_62 : decode cX1_copyFrom 62 = .ok (.invokestatic 27, 3) := by decide +kernel
theorem dX1_copyFrom_65 : decode cX1_copyFrom 65 = .ok (.return_, 1) := by decide +kernel
theorem dX1_totalCrushed_0 : decode cX1_totalCrushed 0 = .ok (.aload_n 0, 1) := by decide +kernel
theorem dX1_totalCrushed_1 : decode cX1_totalCrushed 1 = .ok (.getfield 18, 3) := by decide +kernel
theorem dX1_totalCrushed_4 : decode cX1_totalCrushed 4 = .ok (.invokestatic 31, 3) := by decide +kernel
theorem dX1_totalCrushed_7 : decode cX1_totalCrushed 7 = .ok (.ireturn, 1) := by decide +kernel
theorem dX1_totalLost_0 : decode cX1_totalLost 0 = .ok (.aload_n 0, 1) := by decide +kernel
theorem dX1_totalLost_1 : decode cX1_totalLost 1 = .ok (.getfield 21, 3) := by decide +kernel
theorem dX1_totalLost_4 : decode cX1_totalLost 4 = .ok (.invokestatic 31, 3) := by decide +kernel
theorem dX1_totalLost_7 : decode cX1_totalLost 7 = .ok (.ireturn, 1) := by decide +kernel
theorem dX1_totalPaid_0 : decode cX1_totalPaid 0 = .ok (.aload_n 0, 1) := by decide +kernel
theorem dX1_totalPaid_1 : decode cX1_totalPaid 1 = .ok (.getfield 24, 3) := by decide +kernel
theorem dX1_totalPaid_4 : decode cX1_totalPaid 4 = .ok (.invokestatic 31, 3) := by decide +kernel
theorem dX1_totalPaid_7 : decode cX1_totalPaid 7 = .ok (.ireturn, 1) := by decide +kernel
theorem dX2_init_0 : decode cX2_init 0 = .ok (.aload_n 0, 1) := by decide +kernel
theorem dX2_init_1 : decode cX2_init 1 = .ok (.invokespecial 3, 3) := by decide +kernel
theorem dX2_init_4 : decode cX2_init 4 = .ok (.aload_n 0, 1) := by decide +kernel
theorem dX2_init_5 : decode cX2_init 5 = .ok (.bipush 7, 2) := by decide +kernel
theorem dX2_init_7 : decode cX2_init 7 = .ok (.anewarray 11, 3) := by decide +kernel
theorem dX2_init_10 : decode cX2_init 10 = .ok (.putfield 13, 3) := by decide +kernel
theorem dX2_init_13 : decode cX2_init 13 = .ok (.return_, 1) := by decide +kernel
theorem dX2_prepare_0 : decode cX2_prepare 0 = .ok (.aload_n 0, 1) := by decide +kernel
theorem dX2_prepare_1 : decode cX2_prepare 1 = .ok (.getfield 17, 3) := by decide +kernel
theorem dX2_prepare_4 : decode cX2_prepare 4 = .ok (.aload_n 0, 1) := by decide +kernel
theorem dX2_prepare_5 : decode cX2_prepare 5 = .ok (.getfield 21, 3) := by decide +kernel
theorem dX2_prepare_8 : decode cX2_prepare 8 = .ok (.iadd, 1) := by decide +kernel
theorem dX2_prepare_9 : decode cX2_prepare 9 = .ok (.bipush 7, 2) := by decide +kernel
theorem dX2_prepare_11 : decode cX2_prepare 11 = .ok (.irem, 1) := by decide +kernel
theorem dX2_prepare_12 : decode cX2_prepare 12 = .ok (.istore_n 2, 1) := by decide +kernel
theorem dX2_prepare_13 : decode cX2_prepare 13 = .ok (.aload_n 0, 1) := by decide +kernel
theorem dX2_prepare_14 : decode cX2_prepare 14 = .ok (.getfield 13, 3) := by decide +kernel
theorem dX2_prepare_17 : decode cX2_prepare 17 = .ok (.iload_n 2, 1) := by decide +kernel
theorem dX2_prepare_18 : decode cX2_prepare 18 = .ok (.aaload, 1) := by decide +kernel
theorem dX2_prepare_19 : decode cX2_prepare 19 = .ok (.astore_n 3, 1) := by decide +kernel
theorem dX2_prepare_20 : decode cX2_prepare 20 = .ok (.aload_n 3, 1) := by decide +kernel
theorem dX2_prepare_21 : decode cX2_prepare 21 = .ok (.ifnonnull 18, 3) := by decide +kernel
theorem dX2_prepare_24 : decode cX2_prepare 24 = .ok (.new 11, 3) := by decide +kernel
theorem dX2_prepare_27 : decode cX2_prepare 27 = .ok (.dup, 1) := by decide +kernel
theorem dX2_prepare_28 : decode cX2_prepare 28 = .ok (.invokespecial 24, 3) := by decide +kernel
theorem dX2_prepare_31 : decode cX2_prepare 31 = .ok (.astore_n 3, 1) := by decide +kernel
theorem dX2_prepare_32 : decode cX2_prepare 32 = .ok (.aload_n 0, 1) := by decide +kernel
theorem dX2_prepare_33 : decode cX2_prepare 33 = .ok (.getfield 13, 3) := by decide +kernel
theorem dX2_prepare_36 : decode cX2_prepare 36 = .ok (.iload_n 2, 1) := by decide +kernel
theorem dX2_prepare_37 : decode cX2_prepare 37 = .ok (.aload_n 3, 1) := by decide +kernel
theorem dX2_prepare_38 : decode cX2_prepare 38 = .ok (.aastore, 1) := by decide +kernel
theorem dX2_prepare_39 : decode cX2_prepare 39 = .ok (.aload_n 3, 1) := by decide +kernel
theorem dX2_prepare_40 : decode cX2_prepare 40 = .ok (.aload_n 1, 1) := by decide +kernel
theorem dX2_prepare_41 : decode cX2_prepare 41 = .ok (.invokevirtual 25, 3) := by decide +kernel
theorem dX2_prepare_44 : decode cX2_prepare 44 = .ok (.return_, 1) := by decide +kernel
theorem dX2_recordUnlessError_0 : decode cX2_recordUnlessError 0 = .ok (.iload_n 1, 1) := by decide +kernel
theorem dX2_recordUnlessError_1 : decode cX2_recordUnlessError 1 = .ok (.ifCond .ge 5, 3) := by decide +kernel
theorem dX2_recordUnlessError_4 : decode cX2_recordUnlessError 4 = .ok (.iload_n 1, 1) := by decide +kernel
theorem dX2_recordUnlessError_5 : decode cX2_recordUnlessError 5 = .ok (.ireturn, 1) := by decide +kernel
theorem dX2_recordUnlessError_6 : decode cX2_recordUnlessError 6 = .ok (.aload_n 0, 1) := by decide +kernel
theorem dX2_recordUnlessError_7 : decode cX2_recordUnlessError 7 = .ok (.getfield 21, 3) := by decide +kernel
theorem dX2_recordUnlessError_10 : decode cX2_recordUnlessError 10 = .ok (.bipush 6, 2) := by decide +kernel
theorem dX2_recordUnlessError_12 : decode cX2_recordUnlessError 12 = .ok (.if_icmp .ge 16, 3) := by decide +kernel
theorem dX2_recordUnlessError_15 : decode cX2_recordUnlessError 15 = .ok (.aload_n 0, 1) := by decide +kernel
theorem dX2_recordUnlessError_16 : decode cX2_recordUnlessError 16 = .ok (.dup, 1) := by decide +kernel
theorem dX2_recordUnlessError_17 : decode cX2_recordUnlessError 17 = .ok (.getfield 21, 3) := by decide +kernel
theorem dX2_recordUnlessError_20 : decode cX2_recordUnlessError 20 = .ok (.iconst 1, 1) := by decide +kernel
theorem dX2_recordUnlessError_21 : decode cX2_recordUnlessError 21 = .ok (.iadd, 1) := by decide +kernel
theorem dX2_recordUnlessError_22 : decode cX2_recordUnlessError 22 = .ok (.putfield 21, 3) := by decide +kernel
theorem dX2_recordUnlessError_25 : decode cX2_recordUnlessError 25 = .ok (.goto 16, 3) := by decide +kernel
theorem dX2_recordUnlessError_28 : decode cX2_recordUnlessError 28 = .ok (.aload_n 0, 1) := by decide +kernel
theorem dX2_recordUnlessError_29 : decode cX2_recordUnlessError 29 = .ok (.aload_n 0, 1) := by decide +kernel
theorem dX2_recordUnlessError_30 : decode cX2_recordUnlessError 30 = .ok (.getfield 17, 3) := by decide +kernel
theorem dX2_recordUnlessError_33 : decode cX2_recordUnlessError 33 = .ok (.iconst 1, 1) := by decide +kernel
theorem dX2_recordUnlessError_34 : decode cX2_recordUnlessError 34 = .ok (.iadd, 1) := by decide +kernel
theorem dX2_recordUnlessError_35 : decode cX2_recordUnlessError 35 = .ok (.bipush 7, 2) := by decide +kernel
theorem dX2_recordUnlessError_37 : decode cX2_recordUnlessError 37 = .ok (.irem, 1) := by decide +kernel
theorem dX2_recordUnlessError_38 : decode cX2_recordUnlessError 38 = .ok (.putfield 17, 3) := by decide +kernel
theorem dX2_recordUnlessError_41 : decode cX2_recordUnlessError 41 = .ok (.iload_n 1, 1) := by decide +kernel
theorem dX2_recordUnlessError_42 : decode cX2_recordUnlessError 42 = .ok (.ireturn, 1) := by decide +kernel
theorem dX2_bringBackLatest_0 : decode cX2_bringBackLatest 0 = .ok (.aload_n 0, 1) := by decide +kernel
theorem dX2_bringBackLatest_1 : decode cX2_bringBackLatest 1 = .ok (.getfield 21, 3) := by decide +kernel
theorem dX2_bringBackLatest_4 : decode cX2_bringBackLatest 4 = .ok (.ifCond .ne 4, 3) := by decide +kernel
theorem dX2_bringBackLatest_7 : decode cX2_bringBackLatest 7 = .ok (.return_, 1) := by decide +kernel
theorem dX2_bringBackLatest_8 : decode cX2_bringBackLatest 8 = .ok (.aload_n 0, 1) := by decide +kernel
theorem dX2_bringBackLatest_9 : decode cX2_bringBackLatest 9 = .ok (.dup, 1) := by decide +kernel
theorem dX2_bringBackLatest_10 : decode cX2_bringBackLatest 10 = .ok (.getfield 21, 3) := by decide +kernel
theorem dX2_bringBackLatest_13 : decode cX2_bringBackLatest 13 = .ok (.iconst 1, 1) := by decide +kernel
theorem dX2_bringBackLatest_14 : decode cX2_bringBackLatest 14 = .ok (.isub, 1) := by decide +kernel
theorem dX2_bringBackLatest_15 : decode cX2_bringBackLatest 15 = .ok (.putfield 21, 3) := by decide +kernel
theorem dX2_bringBackLatest_18 : decode cX2_bringBackLatest 18 = .ok (.aload_n 0, 1) := by decide +kernel
theorem dX2_bringBackLatest_19 : decode cX2_bringBackLatest 19 = .ok (.getfield 13, 3) := by decide +kernel
theorem dX2_bringBackLatest_22 : decode cX2_bringBackLatest 22 = .ok (.aload_n 0, 1) := by decide +kernel
theorem dX2_bringBackLatest_23 : decode cX2_bringBackLatest 23 = .ok (.getfield 17, 3) := by decide +kernel
theorem dX2_bringBackLatest_26 : decode cX2_bringBackLatest 26 = .ok (.aload_n 0, 1) := by decide +kernel
theorem dX2_bringBackLatest_27 : decode cX2_bringBackLatest 27 = .ok (.getfield 21, 3) := by decide +kernel
theorem dX2_bringBackLatest_30 : decode cX2_bringBackLatest 30 = .ok (.iadd, 1) := by decide +kernel
theorem dX2_bringBackLatest_31 : decode cX2_bringBackLatest 31 = .ok (.bipush 7, 2) := by decide +kernel
theorem dX2_bringBackLatest_33 : decode cX2_bringBackLatest 33 = .ok (.irem, 1) := by decide +kernel
theorem dX2_bringBackLatest_34 : decode cX2_bringBackLatest 34 = .ok (.aaload, 1) := by decide +kernel
theorem dX2_bringBackLatest_35 : decode cX2_bringBackLatest 35 = .ok (.astore_n 2, 1) := by decide +kernel
theorem dX2_bringBackLatest_36 : decode cX2_bringBackLatest 36 = .ok (.aload_n 2, 1) := by decide +kernel
theorem dX2_bringBackLatest_37 : decode cX2_bringBackLatest 37 = .ok (.ifnull 8, 3) := by decide +kernel
theorem dX2_bringBackLatest_40 : decode cX2_bringBackLatest 40 = .ok (.aload_n 1, 1) := by decide +kernel
theorem dX2_bringBackLatest_41 : decode cX2_bringBackLatest 41 = .ok (.aload_n 2, 1) := by decide +kernel
theorem dX2_bringBackLatest_42 : decode cX2_bringBackLatest 42 = .ok (.invokevirtual 25, 3) := by decide +kernel
theorem dX2_bringBackLatest_45 : decode cX2_bringBackLatest 45 = .ok (.return_, 1) := by decide +kernel
theorem dX3_init_0 : decode cX3_init 0 = .ok (.aload_n 0, 1) := by decide +kernel
theorem dX3_init_1 : decode cX3_init 1 = .ok (.invokespecial 3, 3) := by decide +kernel
theorem dX3_init_4 : decode cX3_init 4 = .ok (.aload_n 0, 1) := by decide +kernel
theorem dX3_init_5 : decode cX3_init 5 = .ok (.bipush 7, 2) := by decide +kernel
theorem dX3_init_7 : decode cX3_init 7 = .ok (.newarray .int, 2) := by decide +kernel
theorem dX3_init_9 : decode cX3_init 9 = .ok (.dup, 1) := by decide +kernel
theorem dX3_init_10 : decode cX3_init 10 = .ok (.iconst 0, 1) := by decide +kernel
theorem dX3_init_11 : decode cX3_init 11 = .ok (.iconst 4, 1) := by decide +kernel
theorem dX3_init_12 : decode cX3_init 12 = .ok (.iastore, 1) := by decide +kernel
theorem dX3_init_13 : decode cX3_init 13 = .ok (.dup, 1) := by decide +kernel
theorem dX3_init_14 : decode cX3_init 14 = .ok (.iconst 1, 1) := by decide +kernel
theorem dX3_init_15 : decode cX3_init 15 = .ok (.bipush 10, 2) := by decide +kernel
theorem dX3_init_17 : decode cX3_init 17 = .ok (.iastore, 1) := by decide +kernel
theorem dX3_init_18 : decode cX3_init 18 = .ok (.dup, 1) := by decide +kernel
theorem dX3_init_19 : decode cX3_init 19 = .ok (.iconst 2, 1) := by decide +kernel
theorem dX3_init_20 : decode cX3_init 20 = .ok (.bipush 60, 2) := by decide +kernel
theorem dX3_init_22 : decode cX3_init 22 = .ok (.iastore, 1) := by decide +kernel
theorem dX3_init_23 : decode cX3_init 23 = .ok (.dup, 1) := by decide +kernel
theorem dX3_init_24 : decode cX3_init 24 = .ok (.iconst 3, 1) := by decide +kernel
theorem dX3_init_25 : decode cX3_init 25 = .ok (.bipush 100, 2) := by decide +kernel
theorem dX3_init_27 : decode cX3_init 27 = .ok (.iastore, 1) := by decide +kernel
theorem dX3_init_28 : decode cX3_init 28 = .ok (.dup, 1) := by decide +kernel
theorem dX3_init_29 : decode cX3_init 29 = .ok (.iconst 4, 1) := by decide +kernel
theorem dX3_init_30 : decode cX3_init 30 = .ok (.bipush 8, 2) := by decide +kernel
theorem dX3_init_32 : decode cX3_init 32 = .ok (.iastore, 1) := by decide +kernel
theorem dX3_init_33 : decode cX3_init 33 = .ok (.dup, 1) := by decide +kernel
theorem dX3_init_34 : decode cX3_init 34 = .ok (.iconst 5, 1) := by decide +kernel
theorem dX3_init_35 : decode cX3_init 35 = .ok (.iconst 5, 1) := by decide +kernel
theorem dX3_init_36 : decode cX3_init 36 = .ok (.iastore, 1) := by decide +kernel
theorem dX3_init_37 : decode cX3_init 37 = .ok (.dup, 1) := by decide +kernel
theorem dX3_init_38 : decode cX3_init 38 = .ok (.bipush 6, 2) := by decide +kernel
theorem dX3_init_40 : decode cX3_init 40 = .ok (.bipush 30, 2) := by decide +kernel
theorem dX3_init_42 : decode cX3_init 42 = .ok (.iastore, 1) := by decide +kernel
theorem dX3_init_43 : decode cX3_init 43 = .ok (.putfield 9, 3) := by decide +kernel
theorem dX3_init_46 : decode cX3_init 46 = .ok (.aload_n 0, 1) := by decide +kernel
theorem dX3_init_47 : decode cX3_init 47 = .ok (.new 15, 3) := by decide +kernel
theorem dX3_init_50 : decode cX3_init 50 = .ok (.dup, 1) := by decide +kernel
theorem dX3_init_51 : decode cX3_init 51 = .ok (.invokespecial 17, 3) := by decide +kernel
theorem dX3_init_54 : decode cX3_init 54 = .ok (.putfield 18, 3) := by decide +kernel
theorem dX3_init_57 : decode cX3_init 57 = .ok (.aload_n 0, 1) := by decide +kernel
theorem dX3_init_58 : decode cX3_init 58 = .ok (.new 22, 3) := by decide +kernel
theorem dX3_init_61 : decode cX3_init 61 = .ok (.dup, 1) := by decide +kernel
theorem dX3_init_62 : decode cX3_init 62 = .ok (.invokespecial 24, 3) := by decide +kernel
theorem dX3_init_65 : decode cX3_init 65 = .ok (.putfield 25, 3) := by decide +kernel
theorem dX3_init_68 : decode cX3_init 68 = .ok (.aload_n 0, 1) := by decide +kernel
theorem dX3_init_69 : decode cX3_init 69 = .ok (.new 29, 3) := by decide +kernel
theorem dX3_init_72 : decode cX3_init 72 = .ok (.dup, 1) := by decide +kernel
theorem dX3_init_73 : decode cX3_init 73 = .ok (.invokespecial 31, 3) := by decide +kernel
theorem dX3_init_76 : decode cX3_init 76 = .ok (.putfield 32, 3) := by decide +kernel
theorem dX3_init_79 : decode cX3_init 79 = .ok (.aload_n 0, 1) := by decide +kernel
theorem dX3_init_80 : decode cX3_init 80 = .ok (.new 36, 3) := by decide +kernel
theorem dX3_init_83 : decode cX3_init 83 = .ok (.dup, 1) := by decide +kernel
theorem dX3_init_84 : decode cX3_init 84 = .ok (.invokespecial 38, 3) := by decide +kernel
theorem dX3_init_87 : decode cX3_init 87 = .ok (.putfield 39, 3) := by decide +kernel
theorem dX3_init_90 : decode cX3_init 90 = .ok (.return_, 1) := by decide +kernel
theorem dX3_copyFrom_0 : decode cX3_copyFrom 0 = .ok (.aload_n 1, 1) := by decide +kernel
theorem dX3_copyFrom_1 : decode cX3_copyFrom 1 = .ok (.getfield 9, 3) := by decide +kernel
theorem dX3_copyFrom_4 : decode cX3_copyFrom 4 = .ok (.aload_n 0, 1) := by decide +kernel
theorem dX3_copyFrom_5 : decode cX3_copyFrom 5 = .ok (.getfield 9, 3) := by decide +kernel
theorem dX3_copyFrom_8 : decode cX3_copyFrom 8 = .ok (.bipush 7, 2) := by decide +kernel
theorem dX3_copyFrom_10 : decode cX3_copyFrom 10 = .ok (.invokestatic 43, 3) := by decide +kernel
theorem dX3_copyFrom_13 : decode cX3_copyFrom 13 = .ok (.aload_n 0, 1) := by decide +kernel
theorem dX3_copyFrom_14 : decode cX3_copyFrom 14 = .ok (.getfield 18, 3) := by decide +kernel
theorem dX3_copyFrom_17 : decode cX3_copyFrom 17 = .ok (.aload_n 1, 1) := by decide +kernel
theorem dX3_copyFrom_18 : decode cX3_copyFrom 18 = .ok (.getfield 18, 3) := by decide +kernel
theorem dX3_copyFrom_21 : decode cX3_copyFrom 21 = .ok (.invokevirtual 47, 3) := by decide +kernel
theorem dX3_copyFrom_24 : decode cX3_copyFrom 24 = .ok (.aload_n 0, 1) := by decide +kernel
theorem dX3_copyFrom_25 : decode cX3_copyFrom 25 = .ok (.getfield 25, 3) := by decide +kernel
theorem dX3_copyFrom_28 : decode cX3_copyFrom 28 = .ok (.aload_n 1, 1) := by decide +kernel
theorem dX3_copyFrom_29 : decode cX3_copyFrom 29 = .ok (.getfield 25, 3) := by decide +kernel
theorem dX3_copyFrom_32 : decode cX3_copyFrom 32 = .ok (.invokevirtual 51, 3) := by decide +kernel
theorem dX3_copyFrom_35 : decode cX3_copyFrom 35 = .ok (.aload_n 0, 1) := by decide +kernel
theorem dX3_copyFrom_36 : decode cX3_copyFrom 36 = .ok (.getfield 32, 3) := by decide +kernel
theorem dX3_copyFrom_39 : decode cX3_copyFrom 39 = .ok (.aload_n 1, 1) := by decide +kernel
theorem dX3_copyFrom_40 : decode cX3_copyFrom 40 = .ok (.getfield 32, 3) := by decide +kernel
theorem dX3_copyFrom_43 : decode cX3_copyFrom 43 = .ok (.invokevirtual 54, 3) := by decide +kernel
theorem dX3_copyFrom_46 : decode cX3_copyFrom 46 = .ok (.aload_n 0, 1) := by decide +kernel
theorem dX3_copyFrom_47 : decode cX3_copyFrom 47 = .ok (.getfield 39, 3) := by decide +kernel
theorem dX3_copyFrom_50 : decode cX3_copyFrom 50 = .ok (.aload_n 1, 1) := by decide +kernel
theorem dX3_copyFrom_51 : decode cX3_copyFrom 51 = .ok (.getfield 39, 3) := by decide +kernel
theorem dX3_copyFrom_54 : decode cX3_copyFrom 54 = .ok (.invokevirtual 57, 3) := by decide +kernel
theorem dX3_copyFrom_57 : decode cX3_copyFrom 57 = .ok (.aload_n 0, 1) := by decide +kernel
theorem dX3_copyFrom_58 : decode cX3_copyFrom 58 = .ok (.aload_n 1, 1) := by decide +kernel
theorem dX3_copyFrom_59 : decode cX3_copyFrom 59 = .ok (.getfield 60, 3) := by decide +kernel
theorem dX3_copyFrom_62 : decode cX3_copyFrom 62 = .ok (.putfield 60, 3) := by decide +kernel
theorem dX3_copyFrom_65 : decode cX3_copyFrom 65 = .ok (.aload_n 0, 1) := by decide +kernel
theorem dX3_copyFrom_66 : decode cX3_copyFrom 66 = .ok (.aload_n 1, 1) := by decide +kernel
theorem dX3_copyFrom_67 : decode cX3_copyFrom 67 = .ok (.getfield 64, 3) := by decide +kernel
theorem dX3_copyFrom_70 : decode cX3_copyFrom 70 = .ok (.putfield 64, 3) := by decide +kernel
theorem dX3_copyFrom_73 : decode cX3_copyFrom 73 = .ok (.aload_n 0, 1) := by decide +kernel
theorem dX3_copyFrom_74 : decode cX3_copyFrom 74 = .ok (.aload_n 1, 1) := by decide +kernel
theorem dX3_copyFrom_75 : decode cX3_copyFrom 75 = .ok (.getfield 67, 3) := by decide +kernel
theorem dX3_copyFrom_78 : decode cX3_copyFrom 78 = .ok (.putfield 67, 3) := by decide +kernel
theorem dX3_copyFrom_81 : decode cX3_copyFrom 81 = .ok (.aload_n 0, 1) := by decide +kernel
theorem dX3_copyFrom_82 : decode cX3_copyFrom 82 = .ok (.aload_n 1, 1) := by decide +kernel
theorem dX3_copyFrom_83 : decode cX3_copyFrom 83 = .ok (.getfield 70, 3) := by decide +kernel
theorem dX3_copyFrom_86 : decode cX3_copyFrom 86 = .ok (.putfield 70, 3) := by decide +kernel
theorem dX3_copyFrom_89 : decode cX3_copyFrom 89 = .ok (.return_, 1) := by decide +kernel
theorem dX3_changeSetting_0 : decode cX3_changeSetting 0 = .ok (.iload_n 1, 1) := by decide +kernel
theorem dX3_changeSetting_1 : decode cX3_changeSetting 1 = .ok (.iconst 0, 1) := by decide +kernel
theorem dX3_changeSetting_2 : decode cX3_changeSetting 2 = .ok (.bipush 6, 2) := by decide +kernel
theorem dX3_changeSetting_4 : decode cX3_changeSetting 4 = .ok (.invokestatic 73, 3) := by decide +kernel
theorem dX3_changeSetting_7 : decode cX3_changeSetting 7 = .ok (.ifCond .ne 6, 3) := by decide +kernel
theorem dX3_changeSetting_10 : decode cX3_changeSetting 10 = .ok (.bipush (-2), 2) := by decide +kernel
theorem dX3_changeSetting_12 : decode cX3_changeSetting 12 = .ok (.ireturn, 1) := by decide +kernel
theorem dX3_changeSetting_13 : decode cX3_changeSetting 13 = .ok (.iload_n 2, 1) := by decide +kernel
theorem dX3_changeSetting_14 : decode cX3_changeSetting 14 = .ok (.getstatic 77, 3) := by decide +kernel
theorem dX3_changeSetting_17 : decode cX3_changeSetting 17 = .ok (.iload_n 1, 1) := by decide +kernel
theorem dX3_changeSetting_18 : decode cX3_changeSetting 18 = .ok (.iaload, 1) := by decide +kernel
theorem dX3_changeSetting_19 : decode cX3_changeSetting 19 = .ok (.getstatic 80, 3) := by decide +kernel
theorem dX3_changeSetting_22 : decode cX3_changeSetting 22 = .ok (.iload_n 1, 1) := by decide +kernel
theorem dX3_changeSetting_23 : decode cX3_changeSetting 23 = .ok (.iaload, 1) := by decide +kernel
theorem dX3_changeSetting_24 : decode cX3_changeSetting 24 = .ok (.invokestatic 73, 3) := by decide +kernel
theorem dX3_changeSetting_27 : decode cX3_changeSetting 27 = .ok (.ifCond .ne 6, 3) := by decide +kernel
theorem dX3_changeSetting_30 : decode cX3_changeSetting 30 = .ok (.bipush (-2), 2) := by decide +kernel
theorem dX3_changeSetting_32 : decode cX3_changeSetting 32 = .ok (.ireturn, 1) := by decide +kernel
theorem dX3_changeSetting_33 : decode cX3_changeSetting 33 = .ok (.aload_n 0, 1) := by decide +kernel
theorem dX3_changeSetting_34 : decode cX3_changeSetting 34 = .ok (.getfield 9, 3) := by decide +kernel
theorem dX3_changeSetting_37 : decode cX3_changeSetting 37 = .ok (.iload_n 1, 1) := by decide +kernel
theorem dX3_changeSetting_38 : decode cX3_changeSetting 38 = .ok (.iaload, 1) := by decide +kernel
theorem dX3_changeSetting_39 : decode cX3_changeSetting 39 = .ok (.istore_n 3, 1) := by decide +kernel
theorem dX3_changeSetting_40 : decode cX3_changeSetting 40 = .ok (.aload_n 0, 1) := by decide +kernel
theorem dX3_changeSetting_41 : decode cX3_changeSetting 41 = .ok (.getfield 9, 3) := by decide +kernel
theorem dX3_changeSetting_44 : decode cX3_changeSetting 44 = .ok (.iload_n 1, 1) := by decide +kernel
theorem dX3_changeSetting_45 : decode cX3_changeSetting 45 = .ok (.iload_n 2, 1) := by decide +kernel
theorem dX3_changeSetting_46 : decode cX3_changeSetting 46 = .ok (.iastore, 1) := by decide +kernel
theorem dX3_changeSetting_47 : decode cX3_changeSetting 47 = .ok (.iload_n 3, 1) := by decide +kernel
theorem dX3_changeSetting_48 : decode cX3_changeSetting 48 = .ok (.ireturn, 1) := by decide +kernel
theorem dX3_changeQuota_0 : decode cX3_changeQuota 0 = .ok (.iload_n 1, 1) := by decide +kernel
theorem dX3_changeQuota_1 : decode cX3_changeQuota 1 = .ok (.invokestatic 83, 3) := by decide +kernel
theorem dX3_changeQuota_4 : decode cX3_changeQuota 4 = .ok (.ifCond .ne 5, 3) := by decide +kernel
theorem dX3_changeQuota_7 : decode cX3_changeQuota 7 = .ok (.iconst (-1), 1) := by decide +kernel
theorem dX3_changeQuota_8 : decode cX3_changeQuota 8 = .ok (.ireturn, 1) := by decide +kernel
theorem dX3_changeQuota_9 : decode cX3_changeQuota 9 = .ok (.iload_n 2, 1) := by decide +kernel
theorem dX3_changeQuota_10 : decode cX3_changeQuota 10 = .ok (.iconst 0, 1) := by decide +kernel
theorem dX3_changeQuota_11 : decode cX3_changeQuota 11 = .ok (.sipush 9999, 3) := by decide +kernel
theorem dX3_changeQuota_14 : decode cX3_changeQuota 14 = .ok (.invokestatic 73, 3) := by decide +kernel
theorem dX3_changeQuota_17 : decode cX3_changeQuota 17 = .ok (.ifCond .ne 6, 3) := by decide +kernel
theorem dX3_changeQuota_20 : decode cX3_changeQuota 20 = .ok (.bipush (-2), 2) := by decide +kernel
theorem dX3_changeQuota_22 : decode cX3_changeQuota 22 = .ok (.ireturn, 1) := by decide +kernel
theorem dX3_changeQuota_23 : decode cX3_changeQuota 23 = .ok (.aload_n 0, 1) := by decide +kernel
theorem dX3_changeQuota_24 : decode cX3_changeQuota 24 = .ok (.getfield 18, 3) := by decide +kernel
theorem dX3_changeQuota_27 : decode cX3_changeQuota 27 = .ok (.getfield 87, 3) := by decide +kernel
theorem dX3_changeQuota_30 : decode cX3_changeQuota 30 = .ok (.iload_n 1, 1) := by decide +kernel
theorem dX3_changeQuota_31 : decode cX3_changeQuota 31 = .ok (.iaload, 1) := by decide +kernel
theorem dX3_changeQuota_32 : decode cX3_changeQuota 32 = .ok (.istore_n 3, 1) := by decide +kernel
theorem dX3_changeQuota_33 : decode cX3_changeQuota 33 = .ok (.aload_n 0, 1) := by decide +kernel
theorem dX3_changeQuota_34 : decode cX3_changeQuota 34 = .ok (.getfield 18, 3) := by decide +kernel
theorem dX3_changeQuota_37 : decode cX3_changeQuota 37 = .ok (.getfield 87, 3) := by decide +kernel
theorem dX3_changeQuota_40 : decode cX3_changeQuota 40 = .ok (.iload_n 1, 1) := by decide +kernel
theorem dX3_changeQuota_41 : decode cX3_changeQuota 41 = .ok (.iload_n 2, 1) := by decide +kernel
theorem dX3_changeQuota_42 : decode cX3_changeQuota 42 = .ok (.iastore, 1) := by decide +kernel
theorem dX3_changeQuota_43 : decode cX3_changeQuota 43 = .ok (.iload_n 3, 1) := by decide +kernel
theorem dX3_changeQuota_44 : decode cX3_changeQuota 44 = .ok (.ireturn, 1) := by decide +kernel
theorem dX3_lendQuota_0 : decode cX3_lendQuota 0 = .ok (.iload_n 1, 1) := by decide +kernel
theorem dX3_lendQuota_1 : decode cX3_lendQuota 1 = .ok (.invokestatic 83, 3) := by decide +kernel
theorem dX3_lendQuota_4 : decode cX3_lendQuota 4 = .ok (.ifCond .eq 10, 3) := by decide +kernel
theorem dX3_lendQuota_7 : decode cX3_lendQuota 7 = .ok (.iload_n 2, 1) := by decide +kernel
theorem dX3_lendQuota_8 : decode cX3_lendQuota 8 = .ok (.invokestatic 83, 3) := by decide +kernel
theorem dX3_lendQuota_11 : decode cX3_lendQuota 11 = .ok (.ifCond .ne 5, 3) := by decide +kernel
theorem dX3_lendQuota_14 : decode cX3_lendQuota 14 = .ok (.iconst (-1), 1) := by decide +kernel
theorem dX3_lendQuota_15 : decode cX3_lendQuota 15 = .ok (.ireturn, 1) := by decide +kernel
theorem dX3_lendQuota_16 : decode cX3_lendQuota 16 = .ok (.iload_n 3, 1) := by decide +kernel
theorem dX3_lendQuota_17 : decode cX3_lendQuota 17 = .ok (.iconst 1, 1) := by decide +kernel
theorem dX3_lendQuota_18 : decode cX3_lendQuota 18 = .ok (.if_icmp .lt 8, 3) := by decide +kernel
theorem dX3_lendQuota_21 : decode cX3_lendQuota 21 = .ok (.iload_n 1, 1) := by decide +kernel
theorem dX3_lendQuota_22 : decode cX3_lendQuota 22 = .ok (.iload_n 2, 1) := by decide +kernel
theorem dX3_lendQuota_23 : decode cX3_lendQuota 23 = .ok (.if_icmp .ne 6, 3) := by decide +kernel
theorem dX3_lendQuota_26 : decode cX3_lendQuota 26 = .ok (.bipush (-2), 2) := by decide +kernel
theorem dX3_lendQuota_28 : decode cX3_lendQuota 28 = .ok (.ireturn, 1) := by decide +kernel
theorem dX3_lendQuota_29 : decode cX3_lendQuota 29 = .ok (.aload_n 0, 1) := by decide +kernel
theorem dX3_lendQuota_30 : decode cX3_lendQuota 30 = .ok (.getfield 18, 3) := by decide +kernel
theorem dX3_lendQuota_33 : decode cX3_lendQuota 33 = .ok (.getfield 87, 3) := by decide +kernel
theorem dX3_lendQuota_36 : decode cX3_lendQuota 36 = .ok (.iload_n 1, 1) := by decide +kernel
theorem dX3_lendQuota_37 : decode cX3_lendQuota 37 = .ok (.iaload, 1) := by decide +kernel
theorem dX3_lendQuota_38 : decode cX3_lendQuota 38 = .ok (.iload_n 3, 1) := by decide +kernel
theorem dX3_lendQuota_39 : decode cX3_lendQuota 39 = .ok (.if_icmp .lt 20, 3) := by decide +kernel
theorem dX3_lendQuota_42 : decode cX3_lendQuota 42 = .ok (.aload_n 0, 1) := by decide +kernel
theorem dX3_lendQuota_43 : decode cX3_lendQuota 43 = .ok (.getfield 18, 3) := by decide +kernel
theorem dX3_lendQuota_46 : decode cX3_lendQuota 46 = .ok (.getfield 87, 3) := by decide +kernel
theorem dX3_lendQuota_49 : decode cX3_lendQuota 49 = .ok (.iload_n 2, 1) := by decide +kernel
theorem dX3_lendQuota_50 : decode cX3_lendQuota 50 = .ok (.iaload, 1) := by decide +kernel
theorem dX3_lendQuota_51 : decode cX3_lendQuota 51 = .ok (.sipush 9999, 3) := by decide +kernel
theorem dX3_lendQuota_54 : decode cX3_lendQuota 54 = .ok (.iload_n 3, 1) := by decide +kernel
theorem dX3_lendQuota_55 : decode cX3_lendQuota 55 = .ok (.isub, 1) := by decide +kernel
theorem dX3_lendQuota_56 : decode cX3_lendQuota 56 = .ok (.if_icmp .le 6, 3) := by decide +kernel
theorem dX3_lendQuota_59 : decode cX3_lendQuota 59 = .ok (.bipush (-5), 2) := by decide +kernel
theorem dX3_lendQuota_61 : decode cX3_lendQuota 61 = .ok (.ireturn, 1) := by decide +kernel
theorem dX3_lendQuota_62 : decode cX3_lendQuota 62 = .ok (.aload_n 0, 1) := by decide +kernel
theorem dX3_lendQuota_63 : decode cX3_lendQuota 63 = .ok (.getfield 18, 3) := by decide +kernel
theorem dX3_lendQuota_66 : decode cX3_lendQuota 66 = .ok (.getfield 87, 3) := by decide +kernel
theorem dX3_lendQuota_69 : decode cX3_lendQuota 69 = .ok (.iload_n 1, 1) := by decide +kernel
theorem dX3_lendQuota_70 : decode cX3_lendQuota 70 = .ok (.dup2, 1) := by decide +kernel
theorem dX3_lendQuota_71 : decode cX3_lendQuota 71 = .ok (.iaload, 1) := by decide +kernel
theorem dX3_lendQuota_72 : decode cX3_lendQuota 72 = .ok (.iload_n 3, 1) := by decide +kernel
theorem dX3_lendQuota_73 : decode cX3_lendQuota 73 = .ok (.isub, 1) := by decide +kernel
theorem dX3_lendQuota_74 : decode cX3_lendQuota 74 = .ok (.iastore, 1) := by decide +kernel
theorem dX3_lendQuota_75 : decode cX3_lendQuota 75 = .ok (.aload_n 0, 1) := by decide +kernel
theorem dX3_lendQuota_76 : decode cX3_lendQuota 76 = .ok (.getfield 18, 3) := by decide +kernel
theorem dX3_lendQuota_79 : decode cX3_lendQuota 79 = .ok (.getfield 87, 3) := by decide +kernel
theorem dX3_lendQuota_82 : decode cX3_lendQuota 82 = .ok (.iload_n 2, 1) := by decide +kernel
theorem dX3_lendQuota_83 : decode cX3_lendQuota 83 = .ok (.dup2, 1) := by decide +kernel
theorem dX3_lendQuota_84 : decode cX3_lendQuota 84 = .ok (.iaload, 1) := by decide +kernel
theorem dX3_lendQuota_85 : decode cX3_lendQuota 85 = .ok (.iload_n 3, 1) := by decide +kernel
theorem dX3_lendQuota_86 : decode cX3_lendQuota 86 = .ok (.iadd, 1) := by decide +kernel
theorem dX3_lendQuota_87 : decode cX3_lendQuota 87 = .ok (.iastore, 1) := by decide +kernel
theorem dX3_lendQuota_88 : decode cX3_lendQuota 88 = .ok (.aload_n 0, 1) := by decide +kernel
theorem dX3_lendQuota_89 : decode cX3_lendQuota 89 = .ok (.getfield 18, 3) := by decide +kernel
theorem dX3_lendQuota_92 : decode cX3_lendQuota 92 = .ok (.getfield 87, 3) := by decide +kernel
theorem dX3_lendQuota_95 : decode cX3_lendQuota 95 = .ok (.iload_n 1, 1) := by decide +kernel
theorem dX3_lendQuota_96 : decode cX3_lendQuota 96 = .ok (.iaload, 1) := by decide +kernel
theorem dX3_lendQuota_97 : decode cX3_lendQuota 97 = .ok (.ireturn, 1) := by decide +kernel
theorem dX3_addField_0 : decode cX3_addField 0 = .ok (.iload_n 1, 1) := by decide +kernel
theorem dX3_addField_1 : decode cX3_addField 1 = .ok (.invokestatic 83, 3) := by decide +kernel
theorem dX3_addField_4 : decode cX3_addField 4 = .ok (.ifCond .ne 5, 3) := by decide +kernel
theorem dX3_addField_7 : decode cX3_addField 7 = .ok (.iconst (-1), 1) := by decide +kernel
theorem dX3_addField_8 : decode cX3_addField 8 = .ok (.ireturn, 1) := by decide +kernel
theorem dX3_addField_9 : decode cX3_addField 9 = .ok (.iload_n 2, 1) := by decide +kernel
theorem dX3_addField_10 : decode cX3_addField 10 = .ok (.iconst 1, 1) := by decide +kernel
theorem dX3_addField_11 : decode cX3_addField 11 = .ok (.sipush 300, 3) := by decide +kernel
theorem dX3_addField_14 : decode cX3_addField 14 = .ok (.invokestatic 73, 3) := by decide +kernel
theorem dX3_addField_17 : decode cX3_addField 17 = .ok (.ifCond .eq 13, 3) := by decide +kernel
theorem dX3_addField_20 : decode cX3_addField 20 = .ok (.iload_n 3, 1) := by decide +kernel
theorem dX3_addField_21 : decode cX3_addField 21 = .ok (.iconst 1, 1) := by decide +kernel
theorem dX3_addField_22 : decode cX3_addField 22 = .ok (.bipush 100, 2) := by decide +kernel
theorem dX3_addField_24 : decode cX3_addField 24 = .ok (.invokestatic 73, 3) := by decide +kernel
theorem dX3_addField_27 : decode cX3_addField 27 = .ok (.ifCond .ne 6, 3) := by decide +kernel
theorem dX3_addField_30 : decode cX3_addField 30 = .ok (.bipush (-2), 2) := by decide +kernel
theorem dX3_addField_32 : decode cX3_addField 32 = .ok (.ireturn, 1) := by decide +kernel
theorem dX3_addField_33 : decode cX3_addField 33 = .ok (.iload 4, 2) := by decide +kernel
theorem dX3_addField_35 : decode cX3_addField 35 = .ok (.aload_n 0, 1) := by decide +kernel
theorem dX3_addField_36 : decode cX3_addField 36 = .ok (.getfield 60, 3) := by decide +kernel
theorem dX3_addField_39 : decode cX3_addField 39 = .ok (.sipush 999, 3) := by decide +kernel
theorem dX3_addField_42 : decode cX3_addField 42 = .ok (.invokestatic 73, 3) := by decide +kernel
theorem dX3_addField_45 : decode cX3_addField 45 = .ok (.ifCond .ne 6, 3) := by decide +kernel
theorem dX3_addField_48 : decode cX3_addField 48 = .ok (.bipush (-2), 2) := by decide +kernel
theorem dX3_addField_50 : decode cX3_addField 50 = .ok (.ireturn, 1) := by decide +kernel
theorem dX3_addField_51 : decode cX3_addField 51 = .ok (.aload_n 0, 1) := by decide +kernel
theorem dX3_addField_52 : decode cX3_addField 52 = .ok (.getfield 25, 3) := by decide +kernel
theorem dX3_addField_55 : decode cX3_addField 55 = .ok (.iload_n 1, 1) := by decide +kernel
theorem dX3_addField_56 : decode cX3_addField 56 = .ok (.iload_n 2, 1) := by decide +kernel
theorem dX3_addField_57 : decode cX3_addField 57 = .ok (.iload_n 3, 1) := by decide +kernel
theorem dX3_addField_58 : decode cX3_addField 58 = .ok (.iload 4, 2) := by decide +kernel
theorem dX3_addField_60 : decode cX3_addField 60 = .ok (.invokevirtual 90, 3) := by decide +kernel
theorem dX3_addField_63 : decode cX3_addField 63 = .ok (.ireturn, 1) := by decide +kernel
theorem dX3_passDays_0 : decode cX3_passDays 0 = .ok (.iload_n 1, 1) := by decide +kernel
theorem dX3_passDays_1 : decode cX3_passDays 1 = .ok (.iconst 1, 1) := by decide +kernel
theorem dX3_passDays_2 : decode cX3_passDays 2 = .ok (.bipush 99, 2) := by decide +kernel
theorem dX3_passDays_4 : decode cX3_passDays 4 = .ok (.invokestatic 73, 3) := by decide +kernel
theorem dX3_passDays_7 : decode cX3_passDays 7 = .ok (.ifCond .ne 6, 3) := by decide +kernel
theorem dX3_passDays_10 : decode cX3_passDays 10 = .ok (.bipush (-2), 2) := by decide +kernel
theorem dX3_passDays_12 : decode cX3_passDays 12 = .ok (.ireturn, 1) := by decide +kernel
theorem dX3_passDays_13 : decode cX3_passDays 13 = .ok (.aload_n 0, 1) := by decide +kernel
theorem dX3_passDays_14 : decode cX3_passDays 14 = .ok (.getfield 60, 3) := by decide +kernel
theorem dX3_passDays_17 : decode cX3_passDays 17 = .ok (.iload_n 1, 1) := by decide +kernel
theorem dX3_passDays_18 : decode cX3_passDays 18 = .ok (.iadd, 1) := by decide +kernel
theorem dX3_passDays_19 : decode cX3_passDays 19 = .ok (.sipush 1000, 3) := by decide +kernel
theorem dX3_passDays_22 : decode cX3_passDays 22 = .ok (.if_icmp .le 6, 3) := by decide +kernel
theorem dX3_passDays_25 : decode cX3_passDays 25 = .ok (.bipush (-5), 2) := by decide +kernel
theorem dX3_passDays_27 : decode cX3_passDays 27 = .ok (.ireturn, 1) := by decide +kernel
theorem dX3_passDays_28 : decode cX3_passDays 28 = .ok (.iconst 0, 1) := by decide +kernel
theorem dX3_passDays_29 : decode cX3_passDays 29 = .ok (.istore_n 2, 1) := by decide +kernel
theorem dX3_passDays_30 : decode cX3_passDays 30 = .ok (.iload_n 2, 1) := by decide +kernel
theorem dX3_passDays_31 : decode cX3_passDays 31 = .ok (.iload_n 1, 1) := by decide +kernel
theorem dX3_passDays_32 : decode cX3_passDays 32 = .ok (.if_icmp .ge 14, 3) := by decide +kernel
theorem dX3_passDays_35 : decode cX3_passDays 35 = .ok (.aload_n 0, 1) := by decide +kernel
theorem dX3_passDays_36 : decode cX3_passDays 36 = .ok (.iconst 0, 1) := by decide +kernel
theorem dX3_passDays_37 : decode cX3_passDays 37 = .ok (.invokevirtual 94, 3) := by decide +kernel
theorem dX3_passDays_40 : decode cX3_passDays 40 = .ok (.iinc 2 1, 3) := by decide +kernel
theorem dX3_passDays_43 : decode cX3_passDays 43 = .ok (.goto (-13), 3) := by decide +kernel
theorem dX3_passDays_46 : decode cX3_passDays 46 = .ok (.aload_n 0, 1) := by decide +kernel
theorem dX3_passDays_47 : decode cX3_passDays 47 = .ok (.getfield 60, 3) := by decide +kernel
theorem dX3_passDays_50 : decode cX3_passDays 50 = .ok (.ireturn, 1) := by decide +kernel
theorem dX3_passDay_0 : decode cX3_passDay 0 = .ok (.aload_n 0, 1) := by decide +kernel
theorem dX3_passDay_1 : decode cX3_passDay 1 = .ok (.invokevirtual 98, 3) := by decide +kernel
theorem dX3_passDay_4 : decode cX3_passDay 4 = .ok (.aload_n 0, 1) := by decide +kernel
theorem dX3_passDay_5 : decode cX3_passDay 5 = .ok (.invokevirtual 101, 3) := by decide +kernel
theorem dX3_passDay_8 : decode cX3_passDay 8 = .ok (.iload_n 1, 1) := by decide +kernel
theorem dX3_passDay_9 : decode cX3_passDay 9 = .ok (.ifCond .ne 17, 3) := by decide +kernel
theorem dX3_passDay_12 : decode cX3_passDay 12 = .ok (.aload_n 0, 1) := by decide +kernel
theorem dX3_passDay_13 : decode cX3_passDay 13 = .ok (.getfield 32, 3) := by decide +kernel
theorem dX3_passDay_16 : decode cX3_passDay 16 = .ok (.aload_n 0, 1) := by decide +kernel
theorem dX3_passDay_17 : decode cX3_passDay 17 = .ok (.getfield 60, 3) := by decide +kernel
theorem dX3_passDay_20 : decode cX3_passDay 20 = .ok (.invokevirtual 104, 3) := by decide +kernel
theorem dX3_passDay_23 : decode cX3_passDay 23 = .ok (.ifCond .eq 16, 3) := by decide +kernel
theorem dX3_passDay_26 : decode cX3_passDay 26 = .ok (.aload_n 0, 1) := by decide +kernel
theorem dX3_passDay_27 : decode cX3_passDay 27 = .ok (.dup, 1) := by decide +kernel
theorem dX3_passDay_28 : decode cX3_passDay 28 = .ok (.getfield 70, 3) := by decide +kernel
theorem dX3_passDay_31 : decode cX3_passDay 31 = .ok (.iconst 1, 1) := by decide +kernel
theorem dX3_passDay_32 : decode cX3_passDay 32 = .ok (.iadd, 1) := by decide +kernel
theorem dX3_passDay_33 : decode cX3_passDay 33 = .ok (.putfield 70, 3) := by decide +kernel
theorem dX3_passDay_36 : decode cX3_passDay 36 = .ok (.goto 7, 3) := by decide +kernel
theorem dX3_passDay_39 : decode cX3_passDay 39 = .ok (.aload_n 0, 1) := by decide +kernel
theorem dX3_passDay_40 : decode cX3_passDay 40 = .ok (.invokevirtual 107, 3) := by decide +kernel
theorem dX3_passDay_43 : decode cX3_passDay 43 = .ok (.aload_n 0, 1) := by decide +kernel
theorem dX3_passDay_44 : decode cX3_passDay 44 = .ok (.dup, 1) := by decide +kernel
theorem dX3_passDay_45 : decode cX3_passDay 45 = .ok (.getfield 60, 3) := by decide +kernel
theorem dX3_passDay_48 : decode cX3_passDay 48 = .ok (.iconst 1, 1) := by decide +kernel
theorem dX3_passDay_49 : decode cX3_passDay 49 = .ok (.iadd, 1) := by decide +kernel
theorem dX3_passDay_50 : decode cX3_passDay 50 = .ok (.putfield 60, 3) := by decide +kernel
theorem dX3_passDay_53 : decode cX3_passDay 53 = .ok (.return_, 1) := by decide +kernel
theorem dX3_loseOldCane_0 : decode cX3_loseOldCane 0 = .ok (.iconst 0, 1) := by decide +kernel
theorem dX3_loseOldCane_1 : decode cX3_loseOldCane 1 = .ok (.istore_n 1, 1) := by decide +kernel
theorem dX3_loseOldCane_2 : decode cX3_loseOldCane 2 = .ok (.iload_n 1, 1) := by decide +kernel
theorem dX3_loseOldCane_3 : decode cX3_loseOldCane 3 = .ok (.aload_n 0, 1) := by decide +kernel
theorem dX3_loseOldCane_4 : decode cX3_loseOldCane 4 = .ok (.getfield 25, 3) := by decide +kernel
theorem dX3_loseOldCane_7 : decode cX3_loseOldCane 7 = .ok (.getfield 110, 3) := by decide +kernel
theorem dX3_loseOldCane_10 : decode cX3_loseOldCane 10 = .ok (.if_icmp .ge 60, 3) := by decide +kernel
theorem dX3_loseOldCane_13 : decode cX3_loseOldCane 13 = .ok (.aload_n 0, 1) := by decide +kernel
theorem dX3_loseOldCane_14 : decode cX3_loseOldCane 14 = .ok (.getfield 60, 3) := by decide +kernel
theorem dX3_loseOldCane_17 : decode cX3_loseOldCane 17 = .ok (.aload_n 0, 1) := by decide +kernel
theorem dX3_loseOldCane_18 : decode cX3_loseOldCane 18 = .ok (.getfield 25, 3) := by decide +kernel
theorem dX3_loseOldCane_21 : decode cX3_loseOldCane 21 = .ok (.getfield 113, 3) := by decide +kernel
theorem dX3_loseOldCane_24 : decode cX3_loseOldCane 24 = .ok (.iload_n 1, 1) := by decide +kernel
theorem dX3_loseOldCane_25 : decode cX3_loseOldCane 25 = .ok (.iaload, 1) := by decide +kernel
theorem dX3_loseOldCane_26 : decode cX3_loseOldCane 26 = .ok (.isub, 1) := by decide +kernel
theorem dX3_loseOldCane_27 : decode cX3_loseOldCane 27 = .ok (.aload_n 0, 1) := by decide +kernel
theorem dX3_loseOldCane_28 : decode cX3_loseOldCane 28 = .ok (.getfield 9, 3) := by decide +kernel
theorem dX3_loseOldCane_31 : decode cX3_loseOldCane 31 = .ok (.iconst 5, 1) := by decide +kernel
theorem dX3_loseOldCane_32 : decode cX3_loseOldCane 32 = .ok (.iaload, 1) := by decide +kernel
theorem dX3_loseOldCane_33 : decode cX3_loseOldCane 33 = .ok (.if_icmp .le 31, 3) := by decide +kernel
theorem dX3_loseOldCane_36 : decode cX3_loseOldCane 36 = .ok (.aload_n 0, 1) := by decide +kernel
theorem dX3_loseOldCane_37 : decode cX3_loseOldCane 37 = .ok (.getfield 18, 3) := by decide +kernel
theorem dX3_loseOldCane_40 : decode cX3_loseOldCane 40 = .ok (.getfield 116, 3) := by decide +kernel
theorem dX3_loseOldCane_43 : decode cX3_loseOldCane 43 = .ok (.aload_n 0, 1) := by decide +kernel
theorem dX3_loseOldCane_44 : decode cX3_loseOldCane 44 = .ok (.getfield 25, 3) := by decide +kernel
theorem dX3_loseOldCane_47 : decode cX3_loseOldCane 47 = .ok (.getfield 119, 3) := by decide +kernel
theorem dX3_loseOldCane_50 : decode cX3_loseOldCane 50 = .ok (.iload_n 1, 1) := by decide +kernel
theorem dX3_loseOldCane_51 : decode cX3_loseOldCane 51 = .ok (.iaload, 1) := by decide +kernel
theorem dX3_loseOldCane_52 : decode cX3_loseOldCane 52 = .ok (.dup2, 1) := by decide +kernel
theorem dX3_loseOldCane_53 : decode cX3_loseOldCane 53 = .ok (.iaload, 1) := by decide +kernel
theorem dX3_loseOldCane_54 : decode cX3_loseOldCane 54 = .ok (.aload_n 0, 1) := by decide +kernel
theorem dX3_loseOldCane_55 : decode cX3_loseOldCane 55 = .ok (.getfield 25, 3) := by decide +kernel
theorem dX3_loseOldCane_58 : decode cX3_loseOldCane 58 = .ok (.iload_n 1, 1) := by decide +kernel
theorem dX3_loseOldCane_59 : decode cX3_loseOldCane 59 = .ok (.invokevirtual 122, 3) := by decide +kernel
theorem dX3_loseOldCane_62 : decode cX3_loseOldCane 62 = .ok (.iadd, 1) := by decide +kernel
theorem dX3_loseOldCane_63 : decode cX3_loseOldCane 63 = .ok (.iastore, 1) := by decide +kernel
theorem dX3_loseOldCane_64 : decode cX3_loseOldCane 64 = .ok (.iinc 1 1, 3) := by decide +kernel
theorem dX3_loseOldCane_67 : decode cX3_loseOldCane 67 = .ok (.goto (-65), 3) := by decide +kernel
theorem dX3_loseOldCane_70 : decode cX3_loseOldCane 70 = .ok (.return_, 1) := by decide +kernel
theorem dX3_bringLoads_0 : decode cX3_bringLoads 0 = .ok (.iconst 0, 1) := by decide +kernel
theorem dX3_bringLoads_1 : decode cX3_bringLoads 1 = .ok (.istore_n 1, 1) := by decide +kernel
theorem dX3_bringLoads_2 : decode cX3_bringLoads 2 = .ok (.iload_n 1, 1) := by decide +kernel
theorem dX3_bringLoads_3 : decode cX3_bringLoads 3 = .ok (.aload_n 0, 1) := by decide +kernel
theorem dX3_bringLoads_4 : decode cX3_bringLoads 4 = .ok (.getfield 9, 3) := by decide +kernel
theorem dX3_bringLoads_7 : decode cX3_bringLoads 7 = .ok (.iconst 0, 1) := by decide +kernel
theorem dX3_bringLoads_8 : decode cX3_bringLoads 8 = .ok (.iaload, 1) := by decide +kernel
theorem dX3_bringLoads_9 : decode cX3_bringLoads 9 = .ok (.if_icmp .ge 26, 3) := by decide +kernel
theorem dX3_bringLoads_12 : decode cX3_bringLoads 12 = .ok (.aload_n 0, 1) := by decide +kernel
theorem dX3_bringLoads_13 : decode cX3_bringLoads 13 = .ok (.invokevirtual 126, 3) := by decide +kernel
theorem dX3_bringLoads_16 : decode cX3_bringLoads 16 = .ok (.istore_n 2, 1) := by decide +kernel
theorem dX3_bringLoads_17 : decode cX3_bringLoads 17 = .ok (.iload_n 2, 1) := by decide +kernel
theorem dX3_bringLoads_18 : decode cX3_bringLoads 18 = .ok (.bipush (-6), 2) := by decide +kernel
theorem dX3_bringLoads_20 : decode cX3_bringLoads 20 = .ok (.if_icmp .ne 4, 3) := by decide +kernel
theorem dX3_bringLoads_23 : decode cX3_bringLoads 23 = .ok (.return_, 1) := by decide +kernel
theorem dX3_bringLoads_24 : decode cX3_bringLoads 24 = .ok (.aload_n 0, 1) := by decide +kernel
theorem dX3_bringLoads_25 : decode cX3_bringLoads 25 = .ok (.iload_n 2, 1) := by decide +kernel
theorem dX3_bringLoads_26 : decode cX3_bringLoads 26 = .ok (.invokevirtual 130, 3) := by decide +kernel
theorem dX3_bringLoads_29 : decode cX3_bringLoads 29 = .ok (.iinc 1 1, 3) := by decide +kernel
theorem dX3_bringLoads_32 : decode cX3_bringLoads 32 = .ok (.goto (-30), 3) := by decide +kernel
theorem dX3_bringLoads_35 : decode cX3_bringLoads 35 = .ok (.return_, 1) := by decide +kernel
theorem dX3_nextField_0 : decode cX3_nextField 0 = .ok (.aload_n 0, 1) := by decide +kernel
theorem dX3_nextField_1 : decode cX3_nextField 1 = .ok (.invokevirtual 134, 3) := by decide +kernel
theorem dX3_nextField_4 : decode cX3_nextField 4 = .ok (.ifCond .gt 6, 3) := by decide +kernel
theorem dX3_nextField_7 : decode cX3_nextField 7 = .ok (.bipush (-6), 2) := by decide +kernel
theorem dX3_nextField_9 : decode cX3_nextField 9 = .ok (.ireturn, 1) := by decide +kernel
theorem dX3_nextField_10 : decode cX3_nextField 10 = .ok (.bipush (-6), 2) := by decide +kernel
theorem dX3_nextField_12 : decode cX3_nextField 12 = .ok (.istore_n 1, 1) := by decide +kernel
theorem dX3_nextField_13 : decode cX3_nextField 13 = .ok (.iconst 0, 1) := by decide +kernel
theorem dX3_nextField_14 : decode cX3_nextField 14 = .ok (.istore_n 2, 1) := by decide +kernel
theorem dX3_nextField_15 : decode cX3_nextField 15 = .ok (.iload_n 2, 1) := by decide +kernel
theorem dX3_nextField_16 : decode cX3_nextField 16 = .ok (.aload_n 0, 1) := by decide +kernel
theorem dX3_nextField_17 : decode cX3_nextField 17 = .ok (.getfield 25, 3) := by decide +kernel
theorem dX3_nextField_20 : decode cX3_nextField 20 = .ok (.getfield 110, 3) := by decide +kernel
theorem dX3_nextField_23 : decode cX3_nextField 23 = .ok (.if_icmp .ge 53, 3) := by decide +kernel
theorem dX3_nextField_26 : decode cX3_nextField 26 = .ok (.aload_n 0, 1) := by decide +kernel
theorem dX3_nextField_27 : decode cX3_nextField 27 = .ok (.getfield 25, 3) := by decide +kernel
theorem dX3_nextField_30 : decode cX3_nextField 30 = .ok (.iload_n 2, 1) := by decide +kernel
theorem dX3_nextField_31 : decode cX3_nextField 31 = .ok (.aload_n 0, 1) := by decide +kernel
theorem dX3_nextField_32 : decode cX3_nextField 32 = .ok (.getfield 60, 3) := by decide +kernel
theorem dX3_nextField_35 : decode cX3_nextField 35 = .ok (.invokevirtual 137, 3) := by decide +kernel
theorem dX3_nextField_38 : decode cX3_nextField 38 = .ok (.iconst 1, 1) := by decide +kernel
theorem dX3_nextField_39 : decode cX3_nextField 39 = .ok (.if_icmp .ne 31, 3) := by decide +kernel
theorem dX3_nextField_42 : decode cX3_nextField 42 = .ok (.aload_n 0, 1) := by decide +kernel
theorem dX3_nextField_43 : decode cX3_nextField 43 = .ok (.iload_n 2, 1) := by decide +kernel
theorem dX3_nextField_44 : decode cX3_nextField 44 = .ok (.invokevirtual 141, 3) := by decide +kernel
theorem dX3_nextField_47 : decode cX3_nextField 47 = .ok (.ifCond .gt 6, 3) := by decide +kernel
theorem dX3_nextField_50 : decode cX3_nextField 50 = .ok (.goto 20, 3) := by decide +kernel
theorem dX3_nextField_53 : decode cX3_nextField 53 = .ok (.iload_n 1, 1) := by decide +kernel
theorem dX3_nextField_54 : decode cX3_nextField 54 = .ok (.bipush (-6), 2) := by decide +kernel
theorem dX3_nextField_56 : decode cX3_nextField 56 = .ok (.if_icmp .eq 12, 3) := by decide +kernel
theorem dX3_nextField_59 : decode cX3_nextField 59 = .ok (.aload_n 0, 1) := by decide +kernel
theorem dX3_nextField_60 : decode cX3_nextField 60 = .ok (.iload_n 2, 1) := by decide +kernel
theorem dX3_nextField_61 : decode cX3_nextField 61 = .ok (.iload_n 1, 1) := by decide +kernel
theorem dX3_nextField_62 : decode cX3_nextField 62 = .ok (.invokevirtual 144, 3) := by decide +kernel
theorem dX3_nextField_65 : decode cX3_nextField 65 = .ok (.ifCond .eq 5, 3) := by decide +kernel
theorem dX3_nextField_68 : decode cX3_nextField 68 = .ok (.iload_n 2, 1) := by decide +kernel
theorem dX3_nextField_69 : decode cX3_nextField 69 = .ok (.istore_n 1, 1) := by decide +kernel
theorem dX3_nextField_70 : decode cX3_nextField 70 = .ok (.iinc 2 1, 3) := by decide +kernel
theorem dX3_nextField_73 : decode cX3_nextField 73 = .ok (.goto (-58), 3) := by decide +kernel
theorem dX3_nextField_76 : decode cX3_nextField 76 = .ok (.iload_n 1, 1) := by decide +kernel
theorem dX3_nextField_77 : decode cX3_nextField 77 = .ok (.ireturn, 1) := by decide +kernel
theorem dX3_goesAhead_0 : decode cX3_goesAhead 0 = .ok (.aload_n 0, 1) := by decide +kernel
theorem dX3_goesAhead_1 : decode cX3_goesAhead 1 = .ok (.getfield 25, 3) := by decide +kernel
theorem dX3_goesAhead_4 : decode cX3_goesAhead 4 = .ok (.getfield 113, 3) := by decide +kernel
theorem dX3_goesAhead_7 : decode cX3_goesAhead 7 = .ok (.astore_n 3, 1) := by decide +kernel
theorem dX3_goesAhead_8 : decode cX3_goesAhead 8 = .ok (.aload_n 0, 1) := by decide +kernel
theorem dX3_goesAhead_9 : decode cX3_goesAhead 9 = .ok (.getfield 25, 3) := by decide +kernel
theorem dX3_goesAhead_12 : decode cX3_goesAhead 12 = .ok (.getfield 119, 3) := by decide +kernel
theorem dX3_goesAhead_15 : decode cX3_goesAhead 15 = .ok (.astore 4, 2) := by decide +kernel
theorem dX3_goesAhead_17 : decode cX3_goesAhead 17 = .ok (.aload_n 3, 1) := by decide +kernel
theorem dX3_goesAhead_18 : decode cX3_goesAhead 18 = .ok (.iload_n 1, 1) := by decide +kernel
theorem dX3_goesAhead_19 : decode cX3_goesAhead 19 = .ok (.iaload, 1) := by decide +kernel
theorem dX3_goesAhead_20 : decode cX3_goesAhead 20 = .ok (.aload_n 3, 1) := by decide +kernel
theorem dX3_goesAhead_21 : decode cX3_goesAhead 21 = .ok (.iload_n 2, 1) := by decide +kernel
theorem dX3_goesAhead_22 : decode cX3_goesAhead 22 = .ok (.iaload, 1) := by decide +kernel
theorem dX3_goesAhead_23 : decode cX3_goesAhead 23 = .ok (.if_icmp .eq 18, 3) := by decide +kernel
theorem dX3_goesAhead_26 : decode cX3_goesAhead 26 = .ok (.aload_n 3, 1) := by decide +kernel
theorem dX3_goesAhead_27 : decode cX3_goesAhead 27 = .ok (.iload_n 1, 1) := by decide +kernel
theorem dX3_goesAhead_28 : decode cX3_goesAhead 28 = .ok (.iaload, 1) := by decide +kernel
theorem dX3_goesAhead_29 : decode cX3_goesAhead 29 = .ok (.aload_n 3, 1) := by decide +kernel
theorem dX3_goesAhead_30 : decode cX3_goesAhead 30 = .ok (.iload_n 2, 1) := by decide +kernel
theorem dX3_goesAhead_31 : decode cX3_goesAhead 31 = .ok (.iaload, 1) := by decide +kernel
theorem dX3_goesAhead_32 : decode cX3_goesAhead 32 = .ok (.if_icmp .ge 7, 3) := by decide +kernel
theorem dX3_goesAhead_35 : decode cX3_goesAhead 35 = .ok (.iconst 1, 1) := by decide +kernel
theorem dX3_goesAhead_36 : decode cX3_goesAhead 36 = .ok (.goto 4, 3) := by decide +kernel
theorem dX3_goesAhead_39 : decode cX3_goesAhead 39 = .ok (.iconst 0, 1) := by decide +kernel
theorem dX3_goesAhead_40 : decode cX3_goesAhead 40 = .ok (.ireturn, 1) := by decide +kernel
theorem dX3_goesAhead_41 : decode cX3_goesAhead 41 = .ok (.aload_n 0, 1) := by decide +kernel
theorem dX3_goesAhead_42 : decode cX3_goesAhead 42 = .ok (.getfield 18, 3) := by decide +kernel
theorem dX3_goesAhead_45 : decode cX3_goesAhead 45 = .ok (.getfield 87, 3) := by decide +kernel
theorem dX3_goesAhead_48 : decode cX3_goesAhead 48 = .ok (.aload 4, 2) := by decide +kernel
theorem dX3_goesAhead_50 : decode cX3_goesAhead 50 = .ok (.iload_n 1, 1) := by decide +kernel
theorem dX3_goesAhead_51 : decode cX3_goesAhead 51 = .ok (.iaload, 1) := by decide +kernel
theorem dX3_goesAhead_52 : decode cX3_goesAhead 52 = .ok (.iaload, 1) := by decide +kernel
theorem dX3_goesAhead_53 : decode cX3_goesAhead 53 = .ok (.aload_n 0, 1) := by decide +kernel
theorem dX3_goesAhead_54 : decode cX3_goesAhead 54 = .ok (.getfield 18, 3) := by decide +kernel
theorem dX3_goesAhead_57 : decode cX3_goesAhead 57 = .ok (.getfield 87, 3) := by decide +kernel
theorem dX3_goesAhead_60 : decode cX3_goesAhead 60 = .ok (.aload 4, 2) := by decide +kernel
theorem dX3_goesAhead_62 : decode cX3_goesAhead 62 = .ok (.iload_n 2, 1) := by decide +kernel
theorem dX3_goesAhead_63 : decode cX3_goesAhead 63 = .ok (.iaload, 1) := by decide +kernel
theorem dX3_goesAhead_64 : decode cX3_goesAhead 64 = .ok (.iaload, 1) := by decide +kernel
theorem dX3_goesAhead_65 : decode cX3_goesAhead 65 = .ok (.if_icmp .le 7, 3) := by decide +kernel
theorem dX3_goesAhead_68 : decode cX3_goesAhead 68 = .ok (.iconst 1, 1) := by decide +kernel
theorem dX3_goesAhead_69 : decode cX3_goesAhead 69 = .ok (.goto 4, 3) := by decide +kernel
theorem dX3_goesAhead_72 : decode cX3_goesAhead 72 = .ok (.iconst 0, 1) := by decide +kernel
theorem dX3_goesAhead_73 : decode cX3_goesAhead 73 = .ok (.ireturn, 1) := by decide +kernel
theorem dX3_quotaOf_0 : decode cX3_quotaOf 0 = .ok (.aload_n 0, 1) := by decide +kernel
theorem dX3_quotaOf_1 : decode cX3_quotaOf 1 = .ok (.getfield 18, 3) := by decide +kernel
theorem dX3_quotaOf_4 : decode cX3_quotaOf 4 = .ok (.getfield 87, 3) := by decide +kernel
theorem dX3_quotaOf_7 : decode cX3_quotaOf 7 = .ok (.aload_n 0, 1) := by decide +kernel
end
section
theorem dX3_quotaOf_8 : decode cX3_quotaOf 8 = .ok (.getfield 25, 3) := by decide +kernel
theorem dX3_quotaOf_11 : decode cX3_quotaOf 11 = .ok (.getfield 119, 3) := by decide +kernel
theorem dX3_quotaOf_14 : decode cX3_quotaOf 14 = .ok (.iload_n 1, 1) := by decide +kernel
theorem dX3_quotaOf_15 : decode cX3_quotaOf 15 = .ok (.iaload, 1) := by decide +kernel
theorem dX3_quotaOf_16 : decode cX3_quotaOf 16 = .ok (.iaload, 1) := by decide +kernel
theorem dX3_quotaOf_17 : decode cX3_quotaOf 17 = .ok (.ireturn, 1) := by decide +kernel
theorem dX3_room_0 : decode cX3_room 0 = .ok (.aload_n 0, 1) := by decide +kernel
theorem dX3_room_1 : decode cX3_room 1 = .ok (.getfield 39, 3) := by decide +kernel
theorem dX3_room_4 : decode cX3_room 4 = .ok (.getfield 148, 3) := by decide +kernel
theorem dX3_room_7 : decode cX3_room 7 = .ok (.sipush 400, 3) := by decide +kernel
theorem dX3_room_10 : decode cX3_room 10 = .ok (.if_icmp .ge 20, 3) := by decide +kernel
theorem dX3_room_13 : decode cX3_room 13 = .ok (.aload_n 0, 1) := by decide +kernel
theorem dX3_room_14 : decode cX3_room 14 = .ok (.getfield 9, 3) := by decide +kernel
theorem dX3_room_17 : decode cX3_room 17 = .ok (.iconst 3, 1) := by decide +kernel
theorem dX3_room_18 : decode cX3_room 18 = .ok (.iaload, 1) := by decide +kernel
theorem dX3_room_19 : decode cX3_room 19 = .ok (.aload_n 0, 1) := by decide +kernel
theorem dX3_room_20 : decode cX3_room 20 = .ok (.getfield 39, 3) := by decide +kernel
theorem dX3_room_23 : decode cX3_room 23 = .ok (.getfield 151, 3) := by decide +kernel
theorem dX3_room_26 : decode cX3_room 26 = .ok (.isub, 1) := by decide +kernel
theorem dX3_room_27 : decode cX3_room 27 = .ok (.goto 4, 3) := by decide +kernel
theorem dX3_room_30 : decode cX3_room 30 = .ok (.iconst 0, 1) := by decide +kernel
theorem dX3_room_31 : decode cX3_room 31 = .ok (.ireturn, 1) := by decide +kernel
theorem dX3_bringLoad_0 : decode cX3_bringLoad 0 = .ok (.aload_n 0, 1) := by decide +kernel
theorem dX3_bringLoad_1 : decode cX3_bringLoad 1 = .ok (.getfield 9, 3) := by decide +kernel
theorem dX3_bringLoad_4 : decode cX3_bringLoad 4 = .ok (.iconst 1, 1) := by decide +kernel
theorem dX3_bringLoad_5 : decode cX3_bringLoad 5 = .ok (.iaload, 1) := by decide +kernel
theorem dX3_bringLoad_6 : decode cX3_bringLoad 6 = .ok (.aload_n 0, 1) := by decide +kernel
theorem dX3_bringLoad_7 : decode cX3_bringLoad 7 = .ok (.getfield 25, 3) := by decide +kernel
theorem dX3_bringLoad_10 : decode cX3_bringLoad 10 = .ok (.getfield 154, 3) := by decide +kernel
theorem dX3_bringLoad_13 : decode cX3_bringLoad 13 = .ok (.iload_n 1, 1) := by decide +kernel
theorem dX3_bringLoad_14 : decode cX3_bringLoad 14 = .ok (.iaload, 1) := by decide +kernel
theorem dX3_bringLoad_15 : decode cX3_bringLoad 15 = .ok (.invokestatic 157, 3) := by decide +kernel
theorem dX3_bringLoad_18 : decode cX3_bringLoad 18 = .ok (.istore_n 2, 1) := by decide +kernel
theorem dX3_bringLoad_19 : decode cX3_bringLoad 19 = .ok (.iload_n 2, 1) := by decide +kernel
theorem dX3_bringLoad_20 : decode cX3_bringLoad 20 = .ok (.aload_n 0, 1) := by decide +kernel
theorem dX3_bringLoad_21 : decode cX3_bringLoad 21 = .ok (.iload_n 1, 1) := by decide +kernel
theorem dX3_bringLoad_22 : decode cX3_bringLoad 22 = .ok (.invokevirtual 141, 3) := by decide +kernel
theorem dX3_bringLoad_25 : decode cX3_bringLoad 25 = .ok (.aload_n 0, 1) := by decide +kernel
theorem dX3_bringLoad_26 : decode cX3_bringLoad 26 = .ok (.invokevirtual 134, 3) := by decide +kernel
theorem dX3_bringLoad_29 : decode cX3_bringLoad 29 = .ok (.invokestatic 157, 3) := by decide +kernel
theorem dX3_bringLoad_32 : decode cX3_bringLoad 32 = .ok (.invokestatic 157, 3) := by decide +kernel
theorem dX3_bringLoad_35 : decode cX3_bringLoad 35 = .ok (.istore_n 3, 1) := by decide +kernel
theorem dX3_bringLoad_36 : decode cX3_bringLoad 36 = .ok (.aload_n 0, 1) := by decide +kernel
theorem dX3_bringLoad_37 : decode cX3_bringLoad 37 = .ok (.getfield 25, 3) := by decide +kernel
theorem dX3_bringLoad_40 : decode cX3_bringLoad 40 = .ok (.getfield 119, 3) := by decide +kernel
theorem dX3_bringLoad_43 : decode cX3_bringLoad 43 = .ok (.iload_n 1, 1) := by decide +kernel
theorem dX3_bringLoad_44 : decode cX3_bringLoad 44 = .ok (.iaload, 1) := by decide +kernel
theorem dX3_bringLoad_45 : decode cX3_bringLoad 45 = .ok (.istore 4, 2) := by decide +kernel
theorem dX3_bringLoad_47 : decode cX3_bringLoad 47 = .ok (.aload_n 0, 1) := by decide +kernel
theorem dX3_bringLoad_48 : decode cX3_bringLoad 48 = .ok (.getfield 18, 3) := by decide +kernel
theorem dX3_bringLoad_51 : decode cX3_bringLoad 51 = .ok (.getfield 87, 3) := by decide +kernel
theorem dX3_bringLoad_54 : decode cX3_bringLoad 54 = .ok (.iload 4, 2) := by decide +kernel
theorem dX3_bringLoad_56 : decode cX3_bringLoad 56 = .ok (.dup2, 1) := by decide +kernel
theorem dX3_bringLoad_57 : decode cX3_bringLoad 57 = .ok (.iaload, 1) := by decide +kernel
theorem dX3_bringLoad_58 : decode cX3_bringLoad 58 = .ok (.iload_n 3, 1) := by decide +kernel
theorem dX3_bringLoad_59 : decode cX3_bringLoad 59 = .ok (.isub, 1) := by decide +kernel
theorem dX3_bringLoad_60 : decode cX3_bringLoad 60 = .ok (.iastore, 1) := by decide +kernel
theorem dX3_bringLoad_61 : decode cX3_bringLoad 61 = .ok (.aload_n 0, 1) := by decide +kernel
theorem dX3_bringLoad_62 : decode cX3_bringLoad 62 = .ok (.getfield 18, 3) := by decide +kernel
theorem dX3_bringLoad_65 : decode cX3_bringLoad 65 = .ok (.getfield 162, 3) := by decide +kernel
theorem dX3_bringLoad_68 : decode cX3_bringLoad 68 = .ok (.iload 4, 2) := by decide +kernel
theorem dX3_bringLoad_70 : decode cX3_bringLoad 70 = .ok (.dup2, 1) := by decide +kernel
theorem dX3_bringLoad_71 : decode cX3_bringLoad 71 = .ok (.iaload, 1) := by decide +kernel
theorem dX3_bringLoad_72 : decode cX3_bringLoad 72 = .ok (.iload_n 3, 1) := by decide +kernel
theorem dX3_bringLoad_73 : decode cX3_bringLoad 73 = .ok (.iadd, 1) := by decide +kernel
theorem dX3_bringLoad_74 : decode cX3_bringLoad 74 = .ok (.iastore, 1) := by decide +kernel
theorem dX3_bringLoad_75 : decode cX3_bringLoad 75 = .ok (.aload_n 0, 1) := by decide +kernel
theorem dX3_bringLoad_76 : decode cX3_bringLoad 76 = .ok (.getfield 25, 3) := by decide +kernel
theorem dX3_bringLoad_79 : decode cX3_bringLoad 79 = .ok (.getfield 154, 3) := by decide +kernel
theorem dX3_bringLoad_82 : decode cX3_bringLoad 82 = .ok (.iload_n 1, 1) := by decide +kernel
theorem dX3_bringLoad_83 : decode cX3_bringLoad 83 = .ok (.dup2, 1) := by decide +kernel
theorem dX3_bringLoad_84 : decode cX3_bringLoad 84 = .ok (.iaload, 1) := by decide +kernel
theorem dX3_bringLoad_85 : decode cX3_bringLoad 85 = .ok (.iload_n 3, 1) := by decide +kernel
theorem dX3_bringLoad_86 : decode cX3_bringLoad 86 = .ok (.isub, 1) := by decide +kernel
theorem dX3_bringLoad_87 : decode cX3_bringLoad 87 = .ok (.iastore, 1) := by decide +kernel
theorem dX3_bringLoad_88 : decode cX3_bringLoad 88 = .ok (.aload_n 0, 1) := by decide +kernel
theorem dX3_bringLoad_89 : decode cX3_bringLoad 89 = .ok (.getfield 25, 3) := by decide +kernel
theorem dX3_bringLoad_92 : decode cX3_bringLoad 92 = .ok (.getfield 165, 3) := by decide +kernel
theorem dX3_bringLoad_95 : decode cX3_bringLoad 95 = .ok (.iload_n 1, 1) := by decide +kernel
theorem dX3_bringLoad_96 : decode cX3_bringLoad 96 = .ok (.dup2, 1) := by decide +kernel
theorem dX3_bringLoad_97 : decode cX3_bringLoad 97 = .ok (.iaload, 1) := by decide +kernel
theorem dX3_bringLoad_98 : decode cX3_bringLoad 98 = .ok (.iload_n 3, 1) := by decide +kernel
theorem dX3_bringLoad_99 : decode cX3_bringLoad 99 = .ok (.iadd, 1) := by decide +kernel
theorem dX3_bringLoad_100 : decode cX3_bringLoad 100 = .ok (.iastore, 1) := by decide +kernel
theorem dX3_bringLoad_101 : decode cX3_bringLoad 101 = .ok (.aload_n 0, 1) := by decide +kernel
theorem dX3_bringLoad_102 : decode cX3_bringLoad 102 = .ok (.getfield 39, 3) := by decide +kernel
theorem dX3_bringLoad_105 : decode cX3_bringLoad 105 = .ok (.iload_n 1, 1) := by decide +kernel
theorem dX3_bringLoad_106 : decode cX3_bringLoad 106 = .ok (.iload_n 3, 1) := by decide +kernel
theorem dX3_bringLoad_107 : decode cX3_bringLoad 107 = .ok (.aload_n 0, 1) := by decide +kernel
theorem dX3_bringLoad_108 : decode cX3_bringLoad 108 = .ok (.getfield 60, 3) := by decide +kernel
theorem dX3_bringLoad_111 : decode cX3_bringLoad 111 = .ok (.invokevirtual 168, 3) := by decide +kernel
theorem dX3_bringLoad_114 : decode cX3_bringLoad 114 = .ok (.aload_n 0, 1) := by decide +kernel
theorem dX3_bringLoad_115 : decode cX3_bringLoad 115 = .ok (.dup, 1) := by decide +kernel
theorem dX3_bringLoad_116 : decode cX3_bringLoad 116 = .ok (.getfield 67, 3) := by decide +kernel
theorem dX3_bringLoad_119 : decode cX3_bringLoad 119 = .ok (.iconst 1, 1) := by decide +kernel
theorem dX3_bringLoad_120 : decode cX3_bringLoad 120 = .ok (.iadd, 1) := by decide +kernel
theorem dX3_bringLoad_121 : decode cX3_bringLoad 121 = .ok (.putfield 67, 3) := by decide +kernel
theorem dX3_bringLoad_124 : decode cX3_bringLoad 124 = .ok (.return_, 1) := by decide +kernel
theorem dX3_crush_0 : decode cX3_crush 0 = .ok (.aload_n 0, 1) := by decide +kernel
theorem dX3_crush_1 : decode cX3_crush 1 = .ok (.getfield 9, 3) := by decide +kernel
theorem dX3_crush_4 : decode cX3_crush 4 = .ok (.iconst 2, 1) := by decide +kernel
theorem dX3_crush_5 : decode cX3_crush 5 = .ok (.iaload, 1) := by decide +kernel
theorem dX3_crush_6 : decode cX3_crush 6 = .ok (.istore_n 1, 1) := by decide +kernel
theorem dX3_crush_7 : decode cX3_crush 7 = .ok (.iconst 0, 1) := by decide +kernel
theorem dX3_crush_8 : decode cX3_crush 8 = .ok (.istore_n 2, 1) := by decide +kernel
theorem dX3_crush_9 : decode cX3_crush 9 = .ok (.iconst 0, 1) := by decide +kernel
theorem dX3_crush_10 : decode cX3_crush 10 = .ok (.istore_n 3, 1) := by decide +kernel
theorem dX3_crush_11 : decode cX3_crush 11 = .ok (.iload_n 3, 1) := by decide +kernel
theorem dX3_crush_12 : decode cX3_crush 12 = .ok (.aload_n 0, 1) := by decide +kernel
theorem dX3_crush_13 : decode cX3_crush 13 = .ok (.getfield 39, 3) := by decide +kernel
theorem dX3_crush_16 : decode cX3_crush 16 = .ok (.getfield 148, 3) := by decide +kernel
theorem dX3_crush_19 : decode cX3_crush 19 = .ok (.if_icmp .ge 64, 3) := by decide +kernel
theorem dX3_crush_22 : decode cX3_crush 22 = .ok (.iload_n 1, 1) := by decide +kernel
theorem dX3_crush_23 : decode cX3_crush 23 = .ok (.ifCond .le 60, 3) := by decide +kernel
theorem dX3_crush_26 : decode cX3_crush 26 = .ok (.iload_n 1, 1) := by decide +kernel
theorem dX3_crush_27 : decode cX3_crush 27 = .ok (.aload_n 0, 1) := by decide +kernel
theorem dX3_crush_28 : decode cX3_crush 28 = .ok (.getfield 39, 3) := by decide +kernel
theorem dX3_crush_31 : decode cX3_crush 31 = .ok (.getfield 171, 3) := by decide +kernel
theorem dX3_crush_34 : decode cX3_crush 34 = .ok (.iload_n 3, 1) := by decide +kernel
theorem dX3_crush_35 : decode cX3_crush 35 = .ok (.iaload, 1) := by decide +kernel
theorem dX3_crush_36 : decode cX3_crush 36 = .ok (.invokestatic 157, 3) := by decide +kernel
theorem dX3_crush_39 : decode cX3_crush 39 = .ok (.istore 4, 2) := by decide +kernel
theorem dX3_crush_41 : decode cX3_crush 41 = .ok (.aload_n 0, 1) := by decide +kernel
theorem dX3_crush_42 : decode cX3_crush 42 = .ok (.aload_n 0, 1) := by decide +kernel
theorem dX3_crush_43 : decode cX3_crush 43 = .ok (.getfield 39, 3) := by decide +kernel
theorem dX3_crush_46 : decode cX3_crush 46 = .ok (.getfield 174, 3) := by decide +kernel
theorem dX3_crush_49 : decode cX3_crush 49 = .ok (.iload_n 3, 1) := by decide +kernel
theorem dX3_crush_50 : decode cX3_crush 50 = .ok (.iaload, 1) := by decide +kernel
theorem dX3_crush_51 : decode cX3_crush 51 = .ok (.iload 4, 2) := by decide +kernel
theorem dX3_crush_53 : decode cX3_crush 53 = .ok (.invokevirtual 177, 3) := by decide +kernel
theorem dX3_crush_56 : decode cX3_crush 56 = .ok (.iload_n 1, 1) := by decide +kernel
theorem dX3_crush_57 : decode cX3_crush 57 = .ok (.iload 4, 2) := by decide +kernel
theorem dX3_crush_59 : decode cX3_crush 59 = .ok (.isub, 1) := by decide +kernel
theorem dX3_crush_60 : decode cX3_crush 60 = .ok (.istore_n 1, 1) := by decide +kernel
theorem dX3_crush_61 : decode cX3_crush 61 = .ok (.aload_n 0, 1) := by decide +kernel
theorem dX3_crush_62 : decode cX3_crush 62 = .ok (.getfield 39, 3) := by decide +kernel
theorem dX3_crush_65 : decode cX3_crush 65 = .ok (.iload_n 3, 1) := by decide +kernel
theorem dX3_crush_66 : decode cX3_crush 66 = .ok (.iload 4, 2) := by decide +kernel
theorem dX3_crush_68 : decode cX3_crush 68 = .ok (.invokevirtual 181, 3) := by decide +kernel
theorem dX3_crush_71 : decode cX3_crush 71 = .ok (.ifCond .ne 6, 3) := by decide +kernel
theorem dX3_crush_74 : decode cX3_crush 74 = .ok (.iinc 2 1, 3) := by decide +kernel
theorem dX3_crush_77 : decode cX3_crush 77 = .ok (.iinc 3 1, 3) := by decide +kernel
theorem dX3_crush_80 : decode cX3_crush 80 = .ok (.goto (-69), 3) := by decide +kernel
theorem dX3_crush_83 : decode cX3_crush 83 = .ok (.aload_n 0, 1) := by decide +kernel
theorem dX3_crush_84 : decode cX3_crush 84 = .ok (.getfield 39, 3) := by decide +kernel
theorem dX3_crush_87 : decode cX3_crush 87 = .ok (.iload_n 2, 1) := by decide +kernel
theorem dX3_crush_88 : decode cX3_crush 88 = .ok (.invokevirtual 184, 3) := by decide +kernel
theorem dX3_crush_91 : decode cX3_crush 91 = .ok (.return_, 1) := by decide +kernel
theorem dX3_crushPart_0 : decode cX3_crushPart 0 = .ok (.aload_n 0, 1) := by decide +kernel
theorem dX3_crushPart_1 : decode cX3_crushPart 1 = .ok (.getfield 25, 3) := by decide +kernel
theorem dX3_crushPart_4 : decode cX3_crushPart 4 = .ok (.getfield 119, 3) := by decide +kernel
theorem dX3_crushPart_7 : decode cX3_crushPart 7 = .ok (.iload_n 1, 1) := by decide +kernel
theorem dX3_crushPart_8 : decode cX3_crushPart 8 = .ok (.iaload, 1) := by decide +kernel
theorem dX3_crushPart_9 : decode cX3_crushPart 9 = .ok (.istore_n 3, 1) := by decide +kernel
theorem dX3_crushPart_10 : decode cX3_crushPart 10 = .ok (.aload_n 0, 1) := by decide +kernel
theorem dX3_crushPart_11 : decode cX3_crushPart 11 = .ok (.getfield 25, 3) := by decide +kernel
theorem dX3_crushPart_14 : decode cX3_crushPart 14 = .ok (.iload_n 1, 1) := by decide +kernel
theorem dX3_crushPart_15 : decode cX3_crushPart 15 = .ok (.aload_n 0, 1) := by decide +kernel
theorem dX3_crushPart_16 : decode cX3_crushPart 16 = .ok (.getfield 60, 3) := by decide +kernel
theorem dX3_crushPart_19 : decode cX3_crushPart 19 = .ok (.aload_n 0, 1) := by decide +kernel
theorem dX3_crushPart_20 : decode cX3_crushPart 20 = .ok (.getfield 9, 3) := by decide +kernel
theorem dX3_crushPart_23 : decode cX3_crushPart 23 = .ok (.iconst 4, 1) := by decide +kernel
theorem dX3_crushPart_24 : decode cX3_crushPart 24 = .ok (.iaload, 1) := by decide +kernel
theorem dX3_crushPart_25 : decode cX3_crushPart 25 = .ok (.invokevirtual 187, 3) := by decide +kernel
theorem dX3_crushPart_28 : decode cX3_crushPart 28 = .ok (.istore 4, 2) := by decide +kernel
theorem dX3_crushPart_30 : decode cX3_crushPart 30 = .ok (.aload_n 0, 1) := by decide +kernel
theorem dX3_crushPart_31 : decode cX3_crushPart 31 = .ok (.dup, 1) := by decide +kernel
theorem dX3_crushPart_32 : decode cX3_crushPart 32 = .ok (.getfield 64, 3) := by decide +kernel
theorem dX3_crushPart_35 : decode cX3_crushPart 35 = .ok (.iload_n 2, 1) := by decide +kernel
theorem dX3_crushPart_36 : decode cX3_crushPart 36 = .ok (.iload 4, 2) := by decide +kernel
theorem dX3_crushPart_38 : decode cX3_crushPart 38 = .ok (.imul, 1) := by decide +kernel
theorem dX3_crushPart_39 : decode cX3_crushPart 39 = .ok (.bipush 100, 2) := by decide +kernel
theorem dX3_crushPart_41 : decode cX3_crushPart 41 = .ok (.idiv, 1) := by decide +kernel
theorem dX3_crushPart_42 : decode cX3_crushPart 42 = .ok (.iadd, 1) := by decide +kernel
theorem dX3_crushPart_43 : decode cX3_crushPart 43 = .ok (.putfield 64, 3) := by decide +kernel
theorem dX3_crushPart_46 : decode cX3_crushPart 46 = .ok (.aload_n 0, 1) := by decide +kernel
theorem dX3_crushPart_47 : decode cX3_crushPart 47 = .ok (.getfield 18, 3) := by decide +kernel
theorem dX3_crushPart_50 : decode cX3_crushPart 50 = .ok (.getfield 191, 3) := by decide +kernel
theorem dX3_crushPart_53 : decode cX3_crushPart 53 = .ok (.iload_n 3, 1) := by decide +kernel
theorem dX3_crushPart_54 : decode cX3_crushPart 54 = .ok (.dup2, 1) := by decide +kernel
theorem dX3_crushPart_55 : decode cX3_crushPart 55 = .ok (.iaload, 1) := by decide +kernel
theorem dX3_crushPart_56 : decode cX3_crushPart 56 = .ok (.iload_n 2, 1) := by decide +kernel
theorem dX3_crushPart_57 : decode cX3_crushPart 57 = .ok (.iload 4, 2) := by decide +kernel
theorem dX3_crushPart_59 : decode cX3_crushPart 59 = .ok (.imul, 1) := by decide +kernel
theorem dX3_crushPart_60 : decode cX3_crushPart 60 = .ok (.aload_n 0, 1) := by decide +kernel
theorem dX3_crushPart_61 : decode cX3_crushPart 61 = .ok (.getfield 9, 3) := by decide +kernel
theorem dX3_crushPart_64 : decode cX3_crushPart 64 = .ok (.bipush 6, 2) := by decide +kernel
theorem dX3_crushPart_66 : decode cX3_crushPart 66 = .ok (.iaload, 1) := by decide +kernel
theorem dX3_crushPart_67 : decode cX3_crushPart 67 = .ok (.imul, 1) := by decide +kernel
theorem dX3_crushPart_68 : decode cX3_crushPart 68 = .ok (.bipush 100, 2) := by decide +kernel
theorem dX3_crushPart_70 : decode cX3_crushPart 70 = .ok (.idiv, 1) := by decide +kernel
theorem dX3_crushPart_71 : decode cX3_crushPart 71 = .ok (.iadd, 1) := by decide +kernel
theorem dX3_crushPart_72 : decode cX3_crushPart 72 = .ok (.iastore, 1) := by decide +kernel
theorem dX3_crushPart_73 : decode cX3_crushPart 73 = .ok (.aload_n 0, 1) := by decide +kernel
theorem dX3_crushPart_74 : decode cX3_crushPart 74 = .ok (.getfield 18, 3) := by decide +kernel
theorem dX3_crushPart_77 : decode cX3_crushPart 77 = .ok (.getfield 194, 3) := by decide +kernel
theorem dX3_crushPart_80 : decode cX3_crushPart 80 = .ok (.iload_n 3, 1) := by decide +kernel
theorem dX3_crushPart_81 : decode cX3_crushPart 81 = .ok (.dup2, 1) := by decide +kernel
theorem dX3_crushPart_82 : decode cX3_crushPart 82 = .ok (.iaload, 1) := by decide +kernel
theorem dX3_crushPart_83 : decode cX3_crushPart 83 = .ok (.iload_n 2, 1) := by decide +kernel
theorem dX3_crushPart_84 : decode cX3_crushPart 84 = .ok (.iadd, 1) := by decide +kernel
theorem dX3_crushPart_85 : decode cX3_crushPart 85 = .ok (.iastore, 1) := by decide +kernel
theorem dX3_crushPart_86 : decode cX3_crushPart 86 = .ok (.aload_n 0, 1) := by decide +kernel
theorem dX3_crushPart_87 : decode cX3_crushPart 87 = .ok (.getfield 25, 3) := by decide +kernel
theorem dX3_crushPart_90 : decode cX3_crushPart 90 = .ok (.getfield 165, 3) := by decide +kernel
theorem dX3_crushPart_93 : decode cX3_crushPart 93 = .ok (.iload_n 1, 1) := by decide +kernel
theorem dX3_crushPart_94 : decode cX3_crushPart 94 = .ok (.dup2, 1) := by decide +kernel
theorem dX3_crushPart_95 : decode cX3_crushPart 95 = .ok (.iaload, 1) := by decide +kernel
theorem dX3_crushPart_96 : decode cX3_crushPart 96 = .ok (.iload_n 2, 1) := by decide +kernel
theorem dX3_crushPart_97 : decode cX3_crushPart 97 = .ok (.isub, 1) := by decide +kernel
theorem dX3_crushPart_98 : decode cX3_crushPart 98 = .ok (.iastore, 1) := by decide +kernel
theorem dX3_crushPart_99 : decode cX3_crushPart 99 = .ok (.aload_n 0, 1) := by decide +kernel
theorem dX3_crushPart_100 : decode cX3_crushPart 100 = .ok (.getfield 25, 3) := by decide +kernel
theorem dX3_crushPart_103 : decode cX3_crushPart 103 = .ok (.getfield 197, 3) := by decide +kernel
theorem dX3_crushPart_106 : decode cX3_crushPart 106 = .ok (.iload_n 1, 1) := by decide +kernel
theorem dX3_crushPart_107 : decode cX3_crushPart 107 = .ok (.dup2, 1) := by decide +kernel
theorem dX3_crushPart_108 : decode cX3_crushPart 108 = .ok (.iaload, 1) := by decide +kernel
theorem dX3_crushPart_109 : decode cX3_crushPart 109 = .ok (.iload_n 2, 1) := by decide +kernel
theorem dX3_crushPart_110 : decode cX3_crushPart 110 = .ok (.iadd, 1) := by decide +kernel
theorem dX3_crushPart_111 : decode cX3_crushPart 111 = .ok (.iastore, 1) := by decide +kernel
theorem dX3_crushPart_112 : decode cX3_crushPart 112 = .ok (.return_, 1) := by decide +kernel
theorem dX3_numberOfField_0 : decode cX3_numberOfField 0 = .ok (.iload_n 1, 1) := by decide +kernel
theorem dX3_numberOfField_1 : decode cX3_numberOfField 1 = .ok (.iconst 0, 1) := by decide +kernel
theorem dX3_numberOfField_2 : decode cX3_numberOfField 2 = .ok (.aload_n 0, 1) := by decide +kernel
theorem dX3_numberOfField_3 : decode cX3_numberOfField 3 = .ok (.getfield 25, 3) := by decide +kernel
theorem dX3_numberOfField_6 : decode cX3_numberOfField 6 = .ok (.getfield 110, 3) := by decide +kernel
theorem dX3_numberOfField_9 : decode cX3_numberOfField 9 = .ok (.iconst 1, 1) := by decide +kernel
theorem dX3_numberOfField_10 : decode cX3_numberOfField 10 = .ok (.isub, 1) := by decide +kernel
theorem dX3_numberOfField_11 : decode cX3_numberOfField 11 = .ok (.invokestatic 73, 3) := by decide +kernel
theorem dX3_numberOfField_14 : decode cX3_numberOfField 14 = .ok (.ifCond .ne 5, 3) := by decide +kernel
theorem dX3_numberOfField_17 : decode cX3_numberOfField 17 = .ok (.iconst (-1), 1) := by decide +kernel
theorem dX3_numberOfField_18 : decode cX3_numberOfField 18 = .ok (.ireturn, 1) := by decide +kernel
theorem dX3_numberOfField_19 : decode cX3_numberOfField 19 = .ok (.iload_n 2, 1) := by decide +kernel
theorem dX3_numberOfField_20 : decode cX3_numberOfField 20 = .ok (.tableswitch 168 0 9 #[56, 66, 76, 86, 96, 109, 119, 129, 139, 149], 56) := by decide +kernel
theorem dX3_numberOfField_76 : decode cX3_numberOfField 76 = .ok (.aload_n 0, 1) := by decide +kernel
theorem dX3_numberOfField_77 : decode cX3_numberOfField 77 = .ok (.getfield 25, 3) := by decide +kernel
theorem dX3_numberOfField_80 : decode cX3_numberOfField 80 = .ok (.getfield 119, 3) := by decide +kernel
theorem dX3_numberOfField_83 : decode cX3_numberOfField 83 = .ok (.iload_n 1, 1) := by decide +kernel
theorem dX3_numberOfField_84 : decode cX3_numberOfField 84 = .ok (.iaload, 1) := by decide +kernel
theorem dX3_numberOfField_85 : decode cX3_numberOfField 85 = .ok (.ireturn, 1) := by decide +kernel
theorem dX3_numberOfField_86 : decode cX3_numberOfField 86 = .ok (.aload_n 0, 1) := by decide +kernel
theorem dX3_numberOfField_87 : decode cX3_numberOfField 87 = .ok (.getfield 25, 3) := by decide +kernel
theorem dX3_numberOfField_90 : decode cX3_numberOfField 90 = .ok (.getfield 198, 3) := by decide +kernel
theorem dX3_numberOfField_93 : decode cX3_numberOfField 93 = .ok (.iload_n 1, 1) := by decide +kernel
theorem dX3_numberOfField_94 : decode cX3_numberOfField 94 = .ok (.iaload, 1) := by decide +kernel
theorem dX3_numberOfField_95 : decode cX3_numberOfField 95 = .ok (.ireturn, 1) := by decide +kernel
theorem dX3_numberOfField_96 : decode cX3_numberOfField 96 = .ok (.aload_n 0, 1) := by decide +kernel
theorem dX3_numberOfField_97 : decode cX3_numberOfField 97 = .ok (.getfield 25, 3) := by decide +kernel
theorem dX3_numberOfField_100 : decode cX3_numberOfField 100 = .ok (.getfield 199, 3) := by decide +kernel
theorem dX3_numberOfField_103 : decode cX3_numberOfField 103 = .ok (.iload_n 1, 1) := by decide +kernel
theorem dX3_numberOfField_104 : decode cX3_numberOfField 104 = .ok (.iaload, 1) := by decide +kernel
theorem dX3_numberOfField_105 : decode cX3_numberOfField 105 = .ok (.ireturn, 1) := by decide +kernel
theorem dX3_numberOfField_106 : decode cX3_numberOfField 106 = .ok (.aload_n 0, 1) := by decide +kernel
theorem dX3_numberOfField_107 : decode cX3_numberOfField 107 = .ok (.getfield 25, 3) := by decide +kernel
theorem dX3_numberOfField_110 : decode cX3_numberOfField 110 = .ok (.getfield 113, 3) := by decide +kernel
theorem dX3_numberOfField_113 : decode cX3_numberOfField 113 = .ok (.iload_n 1, 1) := by decide +kernel
theorem dX3_numberOfField_114 : decode cX3_numberOfField 114 = .ok (.iaload, 1) := by decide +kernel
theorem dX3_numberOfField_115 : decode cX3_numberOfField 115 = .ok (.ireturn, 1) := by decide +kernel
theorem dX3_numberOfField_116 : decode cX3_numberOfField 116 = .ok (.aload_n 0, 1) := by decide +kernel
theorem dX3_numberOfField_117 : decode cX3_numberOfField 117 = .ok (.getfield 25, 3) := by decide +kernel
theorem dX3_numberOfField_120 : decode cX3_numberOfField 120 = .ok (.iload_n 1, 1) := by decide +kernel
theorem dX3_numberOfField_121 : decode cX3_numberOfField 121 = .ok (.aload_n 0, 1) := by decide +kernel
theorem dX3_numberOfField_122 : decode cX3_numberOfField 122 = .ok (.getfield 60, 3) := by decide +kernel
theorem dX3_numberOfField_125 : decode cX3_numberOfField 125 = .ok (.invokevirtual 137, 3) := by decide +kernel
theorem dX3_numberOfField_128 : decode cX3_numberOfField 128 = .ok (.ireturn, 1) := by decide +kernel
theorem dX3_numberOfField_129 : decode cX3_numberOfField 129 = .ok (.aload_n 0, 1) := by decide +kernel
theorem dX3_numberOfField_130 : decode cX3_numberOfField 130 = .ok (.getfield 25, 3) := by decide +kernel
theorem dX3_numberOfField_133 : decode cX3_numberOfField 133 = .ok (.getfield 154, 3) := by decide +kernel
theorem dX3_numberOfField_136 : decode cX3_numberOfField 136 = .ok (.iload_n 1, 1) := by decide +kernel
theorem dX3_numberOfField_137 : decode cX3_numberOfField 137 = .ok (.iaload, 1) := by decide +kernel
theorem dX3_numberOfField_138 : decode cX3_numberOfField 138 = .ok (.ireturn, 1) := by decide +kernel
theorem dX3_numberOfField_139 : decode cX3_numberOfField 139 = .ok (.aload_n 0, 1) := by decide +kernel
theorem dX3_numberOfField_140 : decode cX3_numberOfField 140 = .ok (.getfield 25, 3) := by decide +kernel
theorem dX3_numberOfField_143 : decode cX3_numberOfField 143 = .ok (.getfield 165, 3) := by decide +kernel
theorem dX3_numberOfField_146 : decode cX3_numberOfField 146 = .ok (.iload_n 1, 1) := by decide +kernel
theorem dX3_numberOfField_147 : decode cX3_numberOfField 147 = .ok (.iaload, 1) := by decide +kernel
theorem dX3_numberOfField_148 : decode cX3_numberOfField 148 = .ok (.ireturn, 1) := by decide +kernel
theorem dX3_numberOfField_149 : decode cX3_numberOfField 149 = .ok (.aload_n 0, 1) := by decide +kernel
theorem dX3_numberOfField_150 : decode cX3_numberOfField 150 = .ok (.getfield 25, 3) := by decide +kernel
theorem dX3_numberOfField_153 : decode cX3_numberOfField 153 = .ok (.getfield 197, 3) := by decide +kernel
theorem dX3_numberOfField_156 : decode cX3_numberOfField 156 = .ok (.iload_n 1, 1) := by decide +kernel
theorem dX3_numberOfField_157 : decode cX3_numberOfField 157 = .ok (.iaload, 1) := by decide +kernel
theorem dX3_numberOfField_158 : decode cX3_numberOfField 158 = .ok (.ireturn, 1) := by decide +kernel
theorem dX3_numberOfField_159 : decode cX3_numberOfField 159 = .ok (.aload_n 0, 1) := by decide +kernel
theorem dX3_numberOfField_160 : decode cX3_numberOfField 160 = .ok (.getfield 25, 3) := by decide +kernel
theorem dX3_numberOfField_163 : decode cX3_numberOfField 163 = .ok (.getfield 202, 3) := by decide +kernel
theorem dX3_numberOfField_166 : decode cX3_numberOfField 166 = .ok (.iload_n 1, 1) := by decide +kernel
theorem dX3_numberOfField_167 : decode cX3_numberOfField 167 = .ok (.iaload, 1) := by decide +kernel
theorem dX3_numberOfField_168 : decode cX3_numberOfField 168 = .ok (.ireturn, 1) := by decide +kernel
theorem dX3_numberOfField_169 : decode cX3_numberOfField 169 = .ok (.aload_n 0, 1) := by decide +kernel
theorem dX3_numberOfField_170 : decode cX3_numberOfField 170 = .ok (.getfield 25, 3) := by decide +kernel
theorem dX3_numberOfField_173 : decode cX3_numberOfField 173 = .ok (.iload_n 1, 1) := by decide +kernel
theorem dX3_numberOfField_174 : decode cX3_numberOfField 174 = .ok (.aload_n 0, 1) := by decide +kernel
theorem dX3_numberOfField_175 : decode cX3_numberOfField 175 = .ok (.getfield 60, 3) := by decide +kernel
theorem dX3_numberOfField_178 : decode cX3_numberOfField 178 = .ok (.aload_n 0, 1) := by decide +kernel
theorem dX3_numberOfField_179 : decode cX3_numberOfField 179 = .ok (.getfield 9, 3) := by decide +kernel
theorem dX3_numberOfField_182 : decode cX3_numberOfField 182 = .ok (.iconst 4, 1) := by decide +kernel
theorem dX3_numberOfField_183 : decode cX3_numberOfField 183 = .ok (.iaload, 1) := by decide +kernel
theorem dX3_numberOfField_184 : decode cX3_numberOfField 184 = .ok (.invokevirtual 187, 3) := by decide +kernel
theorem dX3_numberOfField_187 : decode cX3_numberOfField 187 = .ok (.ireturn, 1) := by decide +kernel
theorem dX3_numberOfField_188 : decode cX3_numberOfField 188 = .ok (.bipush (-2), 2) := by decide +kernel
theorem dX3_numberOfField_190 : decode cX3_numberOfField 190 = .ok (.ireturn, 1) := by decide +kernel
theorem dX3_numberOfGrower_0 : decode cX3_numberOfGrower 0 = .ok (.iload_n 1, 1) := by decide +kernel
theorem dX3_numberOfGrower_1 : decode cX3_numberOfGrower 1 = .ok (.invokestatic 83, 3) := by decide +kernel
theorem dX3_numberOfGrower_4 : decode cX3_numberOfGrower 4 = .ok (.ifCond .ne 5, 3) := by decide +kernel
theorem dX3_numberOfGrower_7 : decode cX3_numberOfGrower 7 = .ok (.iconst (-1), 1) := by decide +kernel
theorem dX3_numberOfGrower_8 : decode cX3_numberOfGrower 8 = .ok (.ireturn, 1) := by decide +kernel
theorem dX3_numberOfGrower_9 : decode cX3_numberOfGrower 9 = .ok (.iload_n 2, 1) := by decide +kernel
theorem dX3_numberOfGrower_10 : decode cX3_numberOfGrower 10 = .ok (.tableswitch 101 0 5 #[38, 48, 58, 68, 78, 88], 38) := by decide +kernel
theorem dX3_numberOfGrower_48 : decode cX3_numberOfGrower 48 = .ok (.aload_n 0, 1) := by decide +kernel
theorem dX3_numberOfGrower_49 : decode cX3_numberOfGrower 49 = .ok (.getfield 18, 3) := by decide +kernel
theorem dX3_numberOfGrower_52 : decode cX3_numberOfGrower 52 = .ok (.getfield 87, 3) := by decide +kernel
theorem dX3_numberOfGrower_55 : decode cX3_numberOfGrower 55 = .ok (.iload_n 1, 1) := by decide +kernel
theorem dX3_numberOfGrower_56 : decode cX3_numberOfGrower 56 = .ok (.iaload, 1) := by decide +kernel
theorem dX3_numberOfGrower_57 : decode cX3_numberOfGrower 57 = .ok (.ireturn, 1) := by decide +kernel
theorem dX3_numberOfGrower_58 : decode cX3_numberOfGrower 58 = .ok (.aload_n 0, 1) := by decide +kernel
theorem dX3_numberOfGrower_59 : decode cX3_numberOfGrower 59 = .ok (.getfield 18, 3) := by decide +kernel
theorem dX3_numberOfGrower_62 : decode cX3_numberOfGrower 62 = .ok (.getfield 162, 3) := by decide +kernel
theorem dX3_numberOfGrower_65 : decode cX3_numberOfGrower 65 = .ok (.iload_n 1, 1) := by decide +kernel
theorem dX3_numberOfGrower_66 : decode cX3_numberOfGrower 66 = .ok (.iaload, 1) := by decide +kernel
theorem dX3_numberOfGrower_67 : decode cX3_numberOfGrower 67 = .ok (.ireturn, 1) := by decide +kernel
theorem dX3_numberOfGrower_68 : decode cX3_numberOfGrower 68 = .ok (.aload_n 0, 1) := by decide +kernel
theorem dX3_numberOfGrower_69 : decode cX3_numberOfGrower 69 = .ok (.getfield 18, 3) := by decide +kernel
theorem dX3_numberOfGrower_72 : decode cX3_numberOfGrower 72 = .ok (.getfield 194, 3) := by decide +kernel
theorem dX3_numberOfGrower_75 : decode cX3_numberOfGrower 75 = .ok (.iload_n 1, 1) := by decide +kernel
theorem dX3_numberOfGrower_76 : decode cX3_numberOfGrower 76 = .ok (.iaload, 1) := by decide +kernel
theorem dX3_numberOfGrower_77 : decode cX3_numberOfGrower 77 = .ok (.ireturn, 1) := by decide +kernel
theorem dX3_numberOfGrower_78 : decode cX3_numberOfGrower 78 = .ok (.aload_n 0, 1) := by decide +kernel
theorem dX3_numberOfGrower_79 : decode cX3_numberOfGrower 79 = .ok (.getfield 18, 3) := by decide +kernel
theorem dX3_numberOfGrower_82 : decode cX3_numberOfGrower 82 = .ok (.getfield 116, 3) := by decide +kernel
theorem dX3_numberOfGrower_85 : decode cX3_numberOfGrower 85 = .ok (.iload_n 1, 1) := by decide +kernel
theorem dX3_numberOfGrower_86 : decode cX3_numberOfGrower 86 = .ok (.iaload, 1) := by decide +kernel
theorem dX3_numberOfGrower_87 : decode cX3_numberOfGrower 87 = .ok (.ireturn, 1) := by decide +kernel
theorem dX3_numberOfGrower_88 : decode cX3_numberOfGrower 88 = .ok (.aload_n 0, 1) := by decide +kernel
theorem dX3_numberOfGrower_89 : decode cX3_numberOfGrower 89 = .ok (.getfield 18, 3) := by decide +kernel
theorem dX3_numberOfGrower_92 : decode cX3_numberOfGrower 92 = .ok (.getfield 191, 3) := by decide +kernel
theorem dX3_numberOfGrower_95 : decode cX3_numberOfGrower 95 = .ok (.iload_n 1, 1) := by decide +kernel
theorem dX3_numberOfGrower_96 : decode cX3_numberOfGrower 96 = .ok (.iaload, 1) := by decide +kernel
theorem dX3_numberOfGrower_97 : decode cX3_numberOfGrower 97 = .ok (.ireturn, 1) := by decide +kernel
theorem dX3_numberOfGrower_98 : decode cX3_numberOfGrower 98 = .ok (.aload_n 0, 1) := by decide +kernel
theorem dX3_numberOfGrower_99 : decode cX3_numberOfGrower 99 = .ok (.getfield 25, 3) := by decide +kernel
theorem dX3_numberOfGrower_102 : decode cX3_numberOfGrower 102 = .ok (.iload_n 1, 1) := by decide +kernel
theorem dX3_numberOfGrower_103 : decode cX3_numberOfGrower 103 = .ok (.aload_n 0, 1) := by decide +kernel
theorem dX3_numberOfGrower_104 : decode cX3_numberOfGrower 104 = .ok (.getfield 60, 3) := by decide +kernel
theorem dX3_numberOfGrower_107 : decode cX3_numberOfGrower 107 = .ok (.invokevirtual 203, 3) := by decide +kernel
theorem dX3_numberOfGrower_110 : decode cX3_numberOfGrower 110 = .ok (.ireturn, 1) := by decide +kernel
theorem dX3_numberOfGrower_111 : decode cX3_numberOfGrower 111 = .ok (.bipush (-2), 2) := by decide +kernel
theorem dX3_numberOfGrower_113 : decode cX3_numberOfGrower 113 = .ok (.ireturn, 1) := by decide +kernel
theorem dX3_numberOfAll_0 : decode cX3_numberOfAll 0 = .ok (.iload_n 1, 1) := by decide +kernel
theorem dX3_numberOfAll_1 : decode cX3_numberOfAll 1 = .ok (.bipush 11, 2) := by decide +kernel
theorem dX3_numberOfAll_3 : decode cX3_numberOfAll 3 = .ok (.bipush 17, 2) := by decide +kernel
theorem dX3_numberOfAll_5 : decode cX3_numberOfAll 5 = .ok (.invokestatic 73, 3) := by decide +kernel
theorem dX3_numberOfAll_8 : decode cX3_numberOfAll 8 = .ok (.ifCond .eq 13, 3) := by decide +kernel
theorem dX3_numberOfAll_11 : decode cX3_numberOfAll 11 = .ok (.aload_n 0, 1) := by decide +kernel
theorem dX3_numberOfAll_12 : decode cX3_numberOfAll 12 = .ok (.getfield 9, 3) := by decide +kernel
theorem dX3_numberOfAll_15 : decode cX3_numberOfAll 15 = .ok (.iload_n 1, 1) := by decide +kernel
theorem dX3_numberOfAll_16 : decode cX3_numberOfAll 16 = .ok (.bipush 11, 2) := by decide +kernel
theorem dX3_numberOfAll_18 : decode cX3_numberOfAll 18 = .ok (.isub, 1) := by decide +kernel
theorem dX3_numberOfAll_19 : decode cX3_numberOfAll 19 = .ok (.iaload, 1) := by decide +kernel
theorem dX3_numberOfAll_20 : decode cX3_numberOfAll 20 = .ok (.ireturn, 1) := by decide +kernel
theorem dX3_numberOfAll_21 : decode cX3_numberOfAll 21 = .ok (.iload_n 1, 1) := by decide +kernel
theorem dX3_numberOfAll_22 : decode cX3_numberOfAll 22 = .ok (.tableswitch 134 0 10 #[58, 63, 71, 79, 87, 95, 103, 108, 116, 124, 129], 58) := by decide +kernel
theorem dX3_numberOfAll_80 : decode cX3_numberOfAll 80 = .ok (.aload_n 0, 1) := by decide +kernel
theorem dX3_numberOfAll_81 : decode cX3_numberOfAll 81 = .ok (.getfield 60, 3) := by decide +kernel
theorem dX3_numberOfAll_84 : decode cX3_numberOfAll 84 = .ok (.ireturn, 1) := by decide +kernel
theorem dX3_numberOfAll_85 : decode cX3_numberOfAll 85 = .ok (.aload_n 0, 1) := by decide +kernel
theorem dX3_numberOfAll_86 : decode cX3_numberOfAll 86 = .ok (.getfield 25, 3) := by decide +kernel
theorem dX3_numberOfAll_89 : decode cX3_numberOfAll 89 = .ok (.getfield 110, 3) := by decide +kernel
theorem dX3_numberOfAll_92 : decode cX3_numberOfAll 92 = .ok (.ireturn, 1) := by decide +kernel
theorem dX3_numberOfAll_93 : decode cX3_numberOfAll 93 = .ok (.aload_n 0, 1) := by decide +kernel
theorem dX3_numberOfAll_94 : decode cX3_numberOfAll 94 = .ok (.getfield 32, 3) := by decide +kernel
theorem dX3_numberOfAll_97 : decode cX3_numberOfAll 97 = .ok (.getfield 206, 3) := by decide +kernel
theorem dX3_numberOfAll_100 : decode cX3_numberOfAll 100 = .ok (.ireturn, 1) := by decide +kernel
theorem dX3_numberOfAll_101 : decode cX3_numberOfAll 101 = .ok (.aload_n 0, 1) := by decide +kernel
theorem dX3_numberOfAll_102 : decode cX3_numberOfAll 102 = .ok (.getfield 39, 3) := by decide +kernel
theorem dX3_numberOfAll_105 : decode cX3_numberOfAll 105 = .ok (.getfield 151, 3) := by decide +kernel
theorem dX3_numberOfAll_108 : decode cX3_numberOfAll 108 = .ok (.ireturn, 1) := by decide +kernel
theorem dX3_numberOfAll_109 : decode cX3_numberOfAll 109 = .ok (.aload_n 0, 1) := by decide +kernel
theorem dX3_numberOfAll_110 : decode cX3_numberOfAll 110 = .ok (.getfield 39, 3) := by decide +kernel
theorem dX3_numberOfAll_113 : decode cX3_numberOfAll 113 = .ok (.getfield 148, 3) := by decide +kernel
theorem dX3_numberOfAll_116 : decode cX3_numberOfAll 116 = .ok (.ireturn, 1) := by decide +kernel
theorem dX3_numberOfAll_117 : decode cX3_numberOfAll 117 = .ok (.aload_n 0, 1) := by decide +kernel
theorem dX3_numberOfAll_118 : decode cX3_numberOfAll 118 = .ok (.getfield 18, 3) := by decide +kernel
theorem dX3_numberOfAll_121 : decode cX3_numberOfAll 121 = .ok (.invokevirtual 207, 3) := by decide +kernel
theorem dX3_numberOfAll_124 : decode cX3_numberOfAll 124 = .ok (.ireturn, 1) := by decide +kernel
theorem dX3_numberOfAll_125 : decode cX3_numberOfAll 125 = .ok (.aload_n 0, 1) := by decide +kernel
theorem dX3_numberOfAll_126 : decode cX3_numberOfAll 126 = .ok (.getfield 64, 3) := by decide +kernel
theorem dX3_numberOfAll_129 : decode cX3_numberOfAll 129 = .ok (.ireturn, 1) := by decide +kernel
theorem dX3_numberOfAll_130 : decode cX3_numberOfAll 130 = .ok (.aload_n 0, 1) := by decide +kernel
theorem dX3_numberOfAll_131 : decode cX3_numberOfAll 131 = .ok (.getfield 18, 3) := by decide +kernel
theorem dX3_numberOfAll_134 : decode cX3_numberOfAll 134 = .ok (.invokevirtual 210, 3) := by decide +kernel
theorem dX3_numberOfAll_137 : decode cX3_numberOfAll 137 = .ok (.ireturn, 1) := by decide +kernel
theorem dX3_numberOfAll_138 : decode cX3_numberOfAll 138 = .ok (.aload_n 0, 1) := by decide +kernel
theorem dX3_numberOfAll_139 : decode cX3_numberOfAll 139 = .ok (.getfield 18, 3) := by decide +kernel
theorem dX3_numberOfAll_142 : decode cX3_numberOfAll 142 = .ok (.invokevirtual 213, 3) := by decide +kernel
theorem dX3_numberOfAll_145 : decode cX3_numberOfAll 145 = .ok (.ireturn, 1) := by decide +kernel
theorem dX3_numberOfAll_146 : decode cX3_numberOfAll 146 = .ok (.aload_n 0, 1) := by decide +kernel
theorem dX3_numberOfAll_147 : decode cX3_numberOfAll 147 = .ok (.getfield 67, 3) := by decide +kernel
theorem dX3_numberOfAll_150 : decode cX3_numberOfAll 150 = .ok (.ireturn, 1) := by decide +kernel
theorem dX3_numberOfAll_151 : decode cX3_numberOfAll 151 = .ok (.aload_n 0, 1) := by decide +kernel
theorem dX3_numberOfAll_152 : decode cX3_numberOfAll 152 = .ok (.getfield 70, 3) := by decide +kernel
theorem dX3_numberOfAll_155 : decode cX3_numberOfAll 155 = .ok (.ireturn, 1) := by decide +kernel
theorem dX3_numberOfAll_156 : decode cX3_numberOfAll 156 = .ok (.bipush (-2), 2) := by decide +kernel
theorem dX3_numberOfAll_158 : decode cX3_numberOfAll 158 = .ok (.ireturn, 1) := by decide +kernel
theorem dX4_init_0 : decode cX4_init 0 = .ok (.aload_n 0, 1) := by decide +kernel
theorem dX4_init_1 : decode cX4_init 1 = .ok (.invokespecial 3, 3) := by decide +kernel
theorem dX4_init_4 : decode cX4_init 4 = .ok (.aload_n 0, 1) := by decide +kernel
theorem dX4_init_5 : decode cX4_init 5 = .ok (.bipush 80, 2) := by decide +kernel
theorem dX4_init_7 : decode cX4_init 7 = .ok (.newarray .char, 2) := by decide +kernel
theorem dX4_init_9 : decode cX4_init 9 = .ok (.putfield 9, 3) := by decide +kernel
theorem dX4_init_12 : decode cX4_init 12 = .ok (.aload_n 0, 1) := by decide +kernel
theorem dX4_init_13 : decode cX4_init 13 = .ok (.iconst 4, 1) := by decide +kernel
theorem dX4_init_14 : decode cX4_init 14 = .ok (.newarray .int, 2) := by decide +kernel
theorem dX4_init_16 : decode cX4_init 16 = .ok (.putfield 15, 3) := by decide +kernel
theorem dX4_init_19 : decode cX4_init 19 = .ok (.return_, 1) := by decide +kernel
theorem dX5_init_0 : decode cX5_init 0 = .ok (.aload_n 0, 1) := by decide +kernel
theorem dX5_init_1 : decode cX5_init 1 = .ok (.invokespecial 3, 3) := by decide +kernel
theorem dX5_init_4 : decode cX5_init 4 = .ok (.aload_n 0, 1) := by decide +kernel
theorem dX5_init_5 : decode cX5_init 5 = .ok (.iconst 5, 1) := by decide +kernel
theorem dX5_init_6 : decode cX5_init 6 = .ok (.newarray .int, 2) := by decide +kernel
theorem dX5_init_8 : decode cX5_init 8 = .ok (.putfield 9, 3) := by decide +kernel
theorem dX5_init_11 : decode cX5_init 11 = .ok (.aload_n 0, 1) := by decide +kernel
theorem dX5_init_12 : decode cX5_init 12 = .ok (.iconst 5, 1) := by decide +kernel
theorem dX5_init_13 : decode cX5_init 13 = .ok (.newarray .int, 2) := by decide +kernel
theorem dX5_init_15 : decode cX5_init 15 = .ok (.putfield 15, 3) := by decide +kernel
theorem dX5_init_18 : decode cX5_init 18 = .ok (.return_, 1) := by decide +kernel
theorem dX5_copyFrom_0 : decode cX5_copyFrom 0 = .ok (.aload_n 0, 1) := by decide +kernel
theorem dX5_copyFrom_1 : decode cX5_copyFrom 1 = .ok (.aload_n 1, 1) := by decide +kernel
theorem dX5_copyFrom_2 : decode cX5_copyFrom 2 = .ok (.getfield 18, 3) := by decide +kernel
theorem dX5_copyFrom_5 : decode cX5_copyFrom 5 = .ok (.putfield 18, 3) := by decide +kernel
theorem dX5_copyFrom_8 : decode cX5_copyFrom 8 = .ok (.aload_n 1, 1) := by decide +kernel
theorem dX5_copyFrom_9 : decode cX5_copyFrom 9 = .ok (.getfield 9, 3) := by decide +kernel
theorem dX5_copyFrom_12 : decode cX5_copyFrom 12 = .ok (.aload_n 0, 1) := by decide +kernel
theorem dX5_copyFrom_13 : decode cX5_copyFrom 13 = .ok (.getfield 9, 3) := by decide +kernel
theorem dX5_copyFrom_16 : decode cX5_copyFrom 16 = .ok (.aload_n 0, 1) := by decide +kernel
theorem dX5_copyFrom_17 : decode cX5_copyFrom 17 = .ok (.getfield 18, 3) := by decide +kernel
theorem dX5_copyFrom_20 : decode cX5_copyFrom 20 = .ok (.invokestatic 22, 3) := by decide +kernel
theorem dX5_copyFrom_23 : decode cX5_copyFrom 23 = .ok (.aload_n 1, 1) := by decide +kernel
theorem dX5_copyFrom_24 : decode cX5_copyFrom 24 = .ok (.getfield 15, 3) := by decide +kernel
theorem dX5_copyFrom_27 : decode cX5_copyFrom 27 = .ok (.aload_n 0, 1) := by decide +kernel
theorem dX5_copyFrom_28 : decode cX5_copyFrom 28 = .ok (.getfield 15, 3) := by decide +kernel
theorem dX5_copyFrom_31 : decode cX5_copyFrom 31 = .ok (.aload_n 0, 1) := by decide +kernel
theorem dX5_copyFrom_32 : decode cX5_copyFrom 32 = .ok (.getfield 18, 3) := by decide +kernel
theorem dX5_copyFrom_35 : decode cX5_copyFrom 35 = .ok (.invokestatic 22, 3) := by decide +kernel
theorem dX5_copyFrom_38 : decode cX5_copyFrom 38 = .ok (.return_, 1) := by decide +kernel
theorem dX5_addStop_0 : decode cX5_addStop 0 = .ok (.iload_n 1, 1) := by decide +kernel
theorem dX5_addStop_1 : decode cX5_addStop 1 = .ok (.iconst 0, 1) := by decide +kernel
theorem dX5_addStop_2 : decode cX5_addStop 2 = .ok (.sipush 999, 3) := by decide +kernel
theorem dX5_addStop_5 : decode cX5_addStop 5 = .ok (.invokestatic 26, 3) := by decide +kernel
theorem dX5_addStop_8 : decode cX5_addStop 8 = .ok (.ifCond .eq 14, 3) := by decide +kernel
theorem dX5_addStop_11 : decode cX5_addStop 11 = .ok (.iload_n 2, 1) := by decide +kernel
theorem dX5_addStop_12 : decode cX5_addStop 12 = .ok (.iload_n 1, 1) := by decide +kernel
theorem dX5_addStop_13 : decode cX5_addStop 13 = .ok (.sipush 999, 3) := by decide +kernel
theorem dX5_addStop_16 : decode cX5_addStop 16 = .ok (.invokestatic 26, 3) := by decide +kernel
theorem dX5_addStop_19 : decode cX5_addStop 19 = .ok (.ifCond .ne 6, 3) := by decide +kernel
theorem dX5_addStop_22 : decode cX5_addStop 22 = .ok (.bipush (-2), 2) := by decide +kernel
theorem dX5_addStop_24 : decode cX5_addStop 24 = .ok (.ireturn, 1) := by decide +kernel
theorem dX5_addStop_25 : decode cX5_addStop 25 = .ok (.aload_n 0, 1) := by decide +kernel
theorem dX5_addStop_26 : decode cX5_addStop 26 = .ok (.getfield 18, 3) := by decide +kernel
theorem dX5_addStop_29 : decode cX5_addStop 29 = .ok (.iconst 5, 1) := by decide +kernel
theorem dX5_addStop_30 : decode cX5_addStop 30 = .ok (.if_icmp .lt 6, 3) := by decide +kernel
theorem dX5_addStop_33 : decode cX5_addStop 33 = .ok (.bipush (-4), 2) := by decide +kernel
theorem dX5_addStop_35 : decode cX5_addStop 35 = .ok (.ireturn, 1) := by decide +kernel
theorem dX5_addStop_36 : decode cX5_addStop 36 = .ok (.aload_n 0, 1) := by decide +kernel
theorem dX5_addStop_37 : decode cX5_addStop 37 = .ok (.getfield 9, 3) := by decide +kernel
theorem dX5_addStop_40 : decode cX5_addStop 40 = .ok (.aload_n 0, 1) := by decide +kernel
theorem dX5_addStop_41 : decode cX5_addStop 41 = .ok (.getfield 18, 3) := by decide +kernel
theorem dX5_addStop_44 : decode cX5_addStop 44 = .ok (.iload_n 1, 1) := by decide +kernel
theorem dX5_addStop_45 : decode cX5_addStop 45 = .ok (.iastore, 1) := by decide +kernel
theorem dX5_addStop_46 : decode cX5_addStop 46 = .ok (.aload_n 0, 1) := by decide +kernel
theorem dX5_addStop_47 : decode cX5_addStop 47 = .ok (.getfield 15, 3) := by decide +kernel
theorem dX5_addStop_50 : decode cX5_addStop 50 = .ok (.aload_n 0, 1) := by decide +kernel
theorem dX5_addStop_51 : decode cX5_addStop 51 = .ok (.getfield 18, 3) := by decide +kernel
theorem dX5_addStop_54 : decode cX5_addStop 54 = .ok (.iload_n 2, 1) := by decide +kernel
theorem dX5_addStop_55 : decode cX5_addStop 55 = .ok (.iastore, 1) := by decide +kernel
theorem dX5_addStop_56 : decode cX5_addStop 56 = .ok (.aload_n 0, 1) := by decide +kernel
theorem dX5_addStop_57 : decode cX5_addStop 57 = .ok (.dup, 1) := by decide +kernel
theorem dX5_addStop_58 : decode cX5_addStop 58 = .ok (.getfield 18, 3) := by decide +kernel
theorem dX5_addStop_61 : decode cX5_addStop 61 = .ok (.iconst 1, 1) := by decide +kernel
theorem dX5_addStop_62 : decode cX5_addStop 62 = .ok (.iadd, 1) := by decide +kernel
theorem dX5_addStop_63 : decode cX5_addStop 63 = .ok (.putfield 18, 3) := by decide +kernel
theorem dX5_addStop_66 : decode cX5_addStop 66 = .ok (.aload_n 0, 1) := by decide +kernel
theorem dX5_addStop_67 : decode cX5_addStop 67 = .ok (.getfield 18, 3) := by decide +kernel
theorem dX5_addStop_70 : decode cX5_addStop 70 = .ok (.iconst 1, 1) := by decide +kernel
theorem dX5_addStop_71 : decode cX5_addStop 71 = .ok (.isub, 1) := by decide +kernel
theorem dX5_addStop_72 : decode cX5_addStop 72 = .ok (.ireturn, 1) := by decide +kernel
theorem dX5_removeStop_0 : decode cX5_removeStop 0 = .ok (.iload_n 1, 1) := by decide +kernel
theorem dX5_removeStop_1 : decode cX5_removeStop 1 = .ok (.iconst 0, 1) := by decide +kernel
theorem dX5_removeStop_2 : decode cX5_removeStop 2 = .ok (.aload_n 0, 1) := by decide +kernel
theorem dX5_removeStop_3 : decode cX5_removeStop 3 = .ok (.getfield 18, 3) := by decide +kernel
theorem dX5_removeStop_6 : decode cX5_removeStop 6 = .ok (.iconst 1, 1) := by decide +kernel
theorem dX5_removeStop_7 : decode cX5_removeStop 7 = .ok (.isub, 1) := by decide +kernel
theorem dX5_removeStop_8 : decode cX5_removeStop 8 = .ok (.invokestatic 26, 3) := by decide +kernel
theorem dX5_removeStop_11 : decode cX5_removeStop 11 = .ok (.ifCond .ne 5, 3) := by decide +kernel
theorem dX5_removeStop_14 : decode cX5_removeStop 14 = .ok (.iconst (-1), 1) := by decide +kernel
theorem dX5_removeStop_15 : decode cX5_removeStop 15 = .ok (.ireturn, 1) := by decide +kernel
theorem dX5_removeStop_16 : decode cX5_removeStop 16 = .ok (.iload_n 1, 1) := by decide +kernel
theorem dX5_removeStop_17 : decode cX5_removeStop 17 = .ok (.iconst 1, 1) := by decide +kernel
theorem dX5_removeStop_18 : decode cX5_removeStop 18 = .ok (.iadd, 1) := by decide +kernel
theorem dX5_removeStop_19 : decode cX5_removeStop 19 = .ok (.istore_n 2, 1) := by decide +kernel
theorem dX5_removeStop_20 : decode cX5_removeStop 20 = .ok (.iload_n 2, 1) := by decide +kernel
theorem dX5_removeStop_21 : decode cX5_removeStop 21 = .ok (.aload_n 0, 1) := by decide +kernel
theorem dX5_removeStop_22 : decode cX5_removeStop 22 = .ok (.getfield 18, 3) := by decide +kernel
theorem dX5_removeStop_25 : decode cX5_removeStop 25 = .ok (.if_icmp .ge 37, 3) := by decide +kernel
theorem dX5_removeStop_28 : decode cX5_removeStop 28 = .ok (.aload_n 0, 1) := by decide +kernel
theorem dX5_removeStop_29 : decode cX5_removeStop 29 = .ok (.getfield 9, 3) := by decide +kernel
theorem dX5_removeStop_32 : decode cX5_removeStop 32 = .ok (.iload_n 2, 1) := by decide +kernel
theorem dX5_removeStop_33 : decode cX5_removeStop 33 = .ok (.iconst 1, 1) := by decide +kernel
theorem dX5_removeStop_34 : decode cX5_removeStop 34 = .ok (.isub, 1) := by decide +kernel
theorem dX5_removeStop_35 : decode cX5_removeStop 35 = .ok (.aload_n 0, 1) := by decide +kernel
theorem dX5_removeStop_36 : decode cX5_removeStop 36 = .ok (.getfield 9, 3) := by decide +kernel
theorem dX5_removeStop_39 : decode cX5_removeStop 39 = .ok (.iload_n 2, 1) := by decide +kernel
theorem dX5_removeStop_40 : decode cX5_removeStop 40 = .ok (.iaload, 1) := by decide +kernel
theorem dX5_removeStop_41 : decode cX5_removeStop 41 = .ok (.iastore, 1) := by decide +kernel
theorem dX5_removeStop_42 : decode cX5_removeStop 42 = .ok (.aload_n 0, 1) := by decide +kernel
theorem dX5_removeStop_43 : decode cX5_removeStop 43 = .ok (.getfield 15, 3) := by decide +kernel
theorem dX5_removeStop_46 : decode cX5_removeStop 46 = .ok (.iload_n 2, 1) := by decide +kernel
theorem dX5_removeStop_47 : decode cX5_removeStop 47 = .ok (.iconst 1, 1) := by decide +kernel
theorem dX5_removeStop_48 : decode cX5_removeStop 48 = .ok (.isub, 1) := by decide +kernel
theorem dX5_removeStop_49 : decode cX5_removeStop 49 = .ok (.aload_n 0, 1) := by decide +kernel
theorem dX5_removeStop_50 : decode cX5_removeStop 50 = .ok (.getfield 15, 3) := by decide +kernel
theorem dX5_removeStop_53 : decode cX5_removeStop 53 = .ok (.iload_n 2, 1) := by decide +kernel
theorem dX5_removeStop_54 : decode cX5_removeStop 54 = .ok (.iaload, 1) := by decide +kernel
theorem dX5_removeStop_55 : decode cX5_removeStop 55 = .ok (.iastore, 1) := by decide +kernel
theorem dX5_removeStop_56 : decode cX5_removeStop 56 = .ok (.iinc 2 1, 3) := by decide +kernel
theorem dX5_removeStop_59 : decode cX5_removeStop 59 = .ok (.goto (-39), 3) := by decide +kernel
theorem dX5_removeStop_62 : decode cX5_removeStop 62 = .ok (.aload_n 0, 1) := by decide +kernel
theorem dX5_removeStop_63 : decode cX5_removeStop 63 = .ok (.dup, 1) := by decide +kernel
theorem dX5_removeStop_64 : decode cX5_removeStop 64 = .ok (.getfield 18, 3) := by decide +kernel
theorem dX5_removeStop_67 : decode cX5_removeStop 67 = .ok (.iconst 1, 1) := by decide +kernel
theorem dX5_removeStop_68 : decode cX5_removeStop 68 = .ok (.isub, 1) := by decide +kernel
theorem dX5_removeStop_69 : decode cX5_removeStop 69 = .ok (.putfield 18, 3) := by decide +kernel
theorem dX5_removeStop_72 : decode cX5_removeStop 72 = .ok (.aload_n 0, 1) := by decide +kernel
theorem dX5_removeStop_73 : decode cX5_removeStop 73 = .ok (.getfield 18, 3) := by decide +kernel
theorem dX5_removeStop_76 : decode cX5_removeStop 76 = .ok (.ireturn, 1) := by decide +kernel
theorem dX5_isStopped_0 : decode cX5_isStopped 0 = .ok (.iconst 0, 1) := by decide +kernel
theorem dX5_isStopped_1 : decode cX5_isStopped 1 = .ok (.istore_n 2, 1) := by decide +kernel
theorem dX5_isStopped_2 : decode cX5_isStopped 2 = .ok (.iload_n 2, 1) := by decide +kernel
theorem dX5_isStopped_3 : decode cX5_isStopped 3 = .ok (.aload_n 0, 1) := by decide +kernel
theorem dX5_isStopped_4 : decode cX5_isStopped 4 = .ok (.getfield 18, 3) := by decide +kernel
theorem dX5_isStopped_7 : decode cX5_isStopped 7 = .ok (.if_icmp .ge 30, 3) := by decide +kernel
theorem dX5_isStopped_10 : decode cX5_isStopped 10 = .ok (.iload_n 1, 1) := by decide +kernel
theorem dX5_isStopped_11 : decode cX5_isStopped 11 = .ok (.aload_n 0, 1) := by decide +kernel
theorem dX5_isStopped_12 : decode cX5_isStopped 12 = .ok (.getfield 9, 3) := by decide +kernel
theorem dX5_isStopped_15 : decode cX5_isStopped 15 = .ok (.iload_n 2, 1) := by decide +kernel
theorem dX5_isStopped_16 : decode cX5_isStopped 16 = .ok (.iaload, 1) := by decide +kernel
theorem dX5_isStopped_17 : decode cX5_isStopped 17 = .ok (.aload_n 0, 1) := by decide +kernel
theorem dX5_isStopped_18 : decode cX5_isStopped 18 = .ok (.getfield 15, 3) := by decide +kernel
theorem dX5_isStopped_21 : decode cX5_isStopped 21 = .ok (.iload_n 2, 1) := by decide +kernel
theorem dX5_isStopped_22 : decode cX5_isStopped 22 = .ok (.iaload, 1) := by decide +kernel
theorem dX5_isStopped_23 : decode cX5_isStopped 23 = .ok (.invokestatic 26, 3) := by decide +kernel
theorem dX5_isStopped_26 : decode cX5_isStopped 26 = .ok (.ifCond .eq 5, 3) := by decide +kernel
theorem dX5_isStopped_29 : decode cX5_isStopped 29 = .ok (.iconst 1, 1) := by decide +kernel
theorem dX5_isStopped_30 : decode cX5_isStopped 30 = .ok (.ireturn, 1) := by decide +kernel
theorem dX5_isStopped_31 : decode cX5_isStopped 31 = .ok (.iinc 2 1, 3) := by decide +kernel
theorem dX5_isStopped_34 : decode cX5_isStopped 34 = .ok (.goto (-32), 3) := by decide +kernel
theorem dX5_isStopped_37 : decode cX5_isStopped 37 = .ok (.iconst 0, 1) := by decide +kernel
theorem dX5_isStopped_38 : decode cX5_isStopped 38 = .ok (.ireturn, 1) := by decide +kernel
theorem dX6_init_0 : decode cX6_init 0 = .ok (.aload_n 0, 1) := by decide +kernel
theorem dX6_init_1 : decode cX6_init 1 = .ok (.invokespecial 3, 3) := by decide +kernel
theorem dX6_init_4 : decode cX6_init 4 = .ok (.aload_n 0, 1) := by decide +kernel
theorem dX6_init_5 : decode cX6_init 5 = .ok (.sipush 400, 3) := by decide +kernel
theorem dX6_init_8 : decode cX6_init 8 = .ok (.newarray .int, 2) := by decide +kernel
theorem dX6_init_10 : decode cX6_init 10 = .ok (.putfield 9, 3) := by decide +kernel
theorem dX6_init_13 : decode cX6_init 13 = .ok (.aload_n 0, 1) := by decide +kernel
theorem dX6_init_14 : decode cX6_init 14 = .ok (.sipush 400, 3) := by decide +kernel
theorem dX6_init_17 : decode cX6_init 17 = .ok (.newarray .int, 2) := by decide +kernel
theorem dX6_init_19 : decode cX6_init 19 = .ok (.putfield 15, 3) := by decide +kernel
theorem dX6_init_22 : decode cX6_init 22 = .ok (.aload_n 0, 1) := by decide +kernel
theorem dX6_init_23 : decode cX6_init 23 = .ok (.sipush 400, 3) := by decide +kernel
theorem dX6_init_26 : decode cX6_init 26 = .ok (.newarray .int, 2) := by decide +kernel
theorem dX6_init_28 : decode cX6_init 28 = .ok (.putfield 18, 3) := by decide +kernel
theorem dX6_init_31 : decode cX6_init 31 = .ok (.return_, 1) := by decide +kernel
theorem dX6_copyFrom_0 : decode cX6_copyFrom 0 = .ok (.aload_n 0, 1) := by decide +kernel
theorem dX6_copyFrom_1 : decode cX6_copyFrom 1 = .ok (.aload_n 1, 1) := by decide +kernel
theorem dX6_copyFrom_2 : decode cX6_copyFrom 2 = .ok (.getfield 21, 3) := by decide +kernel
theorem dX6_copyFrom_5 : decode cX6_copyFrom 5 = .ok (.putfield 21, 3) := by decide +kernel
theorem dX6_copyFrom_8 : decode cX6_copyFrom 8 = .ok (.aload_n 0, 1) := by decide +kernel
theorem dX6_copyFrom_9 : decode cX6_copyFrom 9 = .ok (.aload_n 1, 1) := by decide +kernel
theorem dX6_copyFrom_10 : decode cX6_copyFrom 10 = .ok (.getfield 25, 3) := by decide +kernel
theorem dX6_copyFrom_13 : decode cX6_copyFrom 13 = .ok (.putfield 25, 3) := by decide +kernel
theorem dX6_copyFrom_16 : decode cX6_copyFrom 16 = .ok (.aload_n 1, 1) := by decide +kernel
theorem dX6_copyFrom_17 : decode cX6_copyFrom 17 = .ok (.getfield 9, 3) := by decide +kernel
theorem dX6_copyFrom_20 : decode cX6_copyFrom 20 = .ok (.aload_n 0, 1) := by decide +kernel
theorem dX6_copyFrom_21 : decode cX6_copyFrom 21 = .ok (.getfield 9, 3) := by decide +kernel
theorem dX6_copyFrom_24 : decode cX6_copyFrom 24 = .ok (.aload_n 0, 1) := by decide +kernel
theorem dX6_copyFrom_25 : decode cX6_copyFrom 25 = .ok (.getfield 21, 3) := by decide +kernel
theorem dX6_copyFrom_28 : decode cX6_copyFrom 28 = .ok (.invokestatic 28, 3) := by decide +kernel
theorem dX6_copyFrom_31 : decode cX6_copyFrom 31 = .ok (.aload_n 1, 1) := by decide +kernel
theorem dX6_copyFrom_32 : decode cX6_copyFrom 32 = .ok (.getfield 15, 3) := by decide +kernel
theorem dX6_copyFrom_35 : decode cX6_copyFrom 35 = .ok (.aload_n 0, 1) := by decide +kernel
theorem dX6_copyFrom_36 : decode cX6_copyFrom 36 = .ok (.getfield 15, 3) := by decide +kernel
theorem dX6_copyFrom_39 : decode cX6_copyFrom 39 = .ok (.aload_n 0, 1) := by decide +kernel
theorem dX6_copyFrom_40 : decode cX6_copyFrom 40 = .ok (.getfield 21, 3) := by decide +kernel
theorem dX6_copyFrom_43 : decode cX6_copyFrom 43 = .ok (.invokestatic 28, 3) := by decide +kernel
theorem dX6_copyFrom_46 : decode cX6_copyFrom 46 = .ok (.aload_n 1, 1) := by decide +kernel
theorem dX6_copyFrom_47 : decode cX6_copyFrom 47 = .ok (.getfield 18, 3) := by decide +kernel
theorem dX6_copyFrom_50 : decode cX6_copyFrom 50 = .ok (.aload_n 0, 1) := by decide +kernel
theorem dX6_copyFrom_51 : decode cX6_copyFrom 51 = .ok (.getfield 18, 3) := by decide +kernel
theorem dX6_copyFrom_54 : decode cX6_copyFrom 54 = .ok (.aload_n 0, 1) := by decide +kernel
theorem dX6_copyFrom_55 : decode cX6_copyFrom 55 = .ok (.getfield 21, 3) := by decide +kernel
theorem dX6_copyFrom_58 : decode cX6_copyFrom 58 = .ok (.invokestatic 28, 3) := by decide +kernel
theorem dX6_copyFrom_61 : decode cX6_copyFrom 61 = .ok (.return_, 1) := by decide +kernel
theorem dX6_append_0 : decode cX6_append 0 = .ok (.aload_n 0, 1) := by decide +kernel
theorem dX6_append_1 : decode cX6_append 1 = .ok (.getfield 21, 3) := by decide +kernel
theorem dX6_append_4 : decode cX6_append 4 = .ok (.sipush 400, 3) := by decide +kernel
theorem dX6_append_7 : decode cX6_append 7 = .ok (.if_icmp .lt 4, 3) := by decide +kernel
theorem dX6_append_10 : decode cX6_append 10 = .ok (.return_, 1) := by decide +kernel
theorem dX6_append_11 : decode cX6_append 11 = .ok (.aload_n 0, 1) := by decide +kernel
theorem dX6_append_12 : decode cX6_append 12 = .ok (.getfield 9, 3) := by decide +kernel
theorem dX6_append_15 : decode cX6_append 15 = .ok (.aload_n 0, 1) := by decide +kernel
theorem dX6_append_16 : decode cX6_append 16 = .ok (.getfield 21, 3) := by decide +kernel
theorem dX6_append_19 : decode cX6_append 19 = .ok (.iload_n 1, 1) := by decide +kernel
theorem dX6_append_20 : decode cX6_append 20 = .ok (.iastore, 1) := by decide +kernel
theorem dX6_append_21 : decode cX6_append 21 = .ok (.aload_n 0, 1) := by decide +kernel
theorem dX6_append_22 : decode cX6_append 22 = .ok (.getfield 15, 3) := by decide +kernel
theorem dX6_append_25 : decode cX6_append 25 = .ok (.aload_n 0, 1) := by decide +kernel
theorem dX6_append_26 : decode cX6_append 26 = .ok (.getfield 21, 3) := by decide +kernel
theorem dX6_append_29 : decode cX6_append 29 = .ok (.iload_n 2, 1) := by decide +kernel
theorem dX6_append_30 : decode cX6_append 30 = .ok (.iastore, 1) := by decide +kernel
theorem dX6_append_31 : decode cX6_append 31 = .ok (.aload_n 0, 1) := by decide +kernel
theorem dX6_append_32 : decode cX6_append 32 = .ok (.getfield 18, 3) := by decide +kernel
theorem dX6_append_35 : decode cX6_append 35 = .ok (.aload_n 0, 1) := by decide +kernel
theorem dX6_append_36 : decode cX6_append 36 = .ok (.getfield 21, 3) := by decide +kernel
theorem dX6_append_39 : decode cX6_append 39 = .ok (.iload_n 3, 1) := by decide +kernel
theorem dX6_append_40 : decode cX6_append 40 = .ok (.iastore, 1) := by decide +kernel
theorem dX6_append_41 : decode cX6_append 41 = .ok (.aload_n 0, 1) := by decide +kernel
theorem dX6_append_42 : decode cX6_append 42 = .ok (.dup, 1) := by decide +kernel
theorem dX6_append_43 : decode cX6_append 43 = .ok (.getfield 21, 3) := by decide +kernel
theorem dX6_append_46 : decode cX6_append 46 = .ok (.iconst 1, 1) := by decide +kernel
theorem dX6_append_47 : decode cX6_append 47 = .ok (.iadd, 1) := by decide +kernel
theorem dX6_append_48 : decode cX6_append 48 = .ok (.putfield 21, 3) := by decide +kernel
theorem dX6_append_51 : decode cX6_append 51 = .ok (.aload_n 0, 1) := by decide +kernel
theorem dX6_append_52 : decode cX6_append 52 = .ok (.dup, 1) := by decide +kernel
theorem dX6_append_53 : decode cX6_append 53 = .ok (.getfield 25, 3) := by decide +kernel
theorem dX6_append_56 : decode cX6_append 56 = .ok (.iload_n 2, 1) := by decide +kernel
theorem dX6_append_57 : decode cX6_append 57 = .ok (.iadd, 1) := by decide +kernel
theorem dX6_append_58 : decode cX6_append 58 = .ok (.putfield 25, 3) := by decide +kernel
theorem dX6_append_61 : decode cX6_append 61 = .ok (.return_, 1) := by decide +kernel
theorem dX6_takeFrom_0 : decode cX6_takeFrom 0 = .ok (.iload_n 1, 1) := by decide +kernel
theorem dX6_takeFrom_1 : decode cX6_takeFrom 1 = .ok (.iconst 0, 1) := by decide +kernel
theorem dX6_takeFrom_2 : decode cX6_takeFrom 2 = .ok (.aload_n 0, 1) := by decide +kernel
theorem dX6_takeFrom_3 : decode cX6_takeFrom 3 = .ok (.getfield 21, 3) := by decide +kernel
theorem dX6_takeFrom_6 : decode cX6_takeFrom 6 = .ok (.iconst 1, 1) := by decide +kernel
theorem dX6_takeFrom_7 : decode cX6_takeFrom 7 = .ok (.isub, 1) := by decide +kernel
theorem dX6_takeFrom_8 : decode cX6_takeFrom 8 = .ok (.invokestatic 32, 3) := by decide +kernel
theorem dX6_takeFrom_11 : decode cX6_takeFrom 11 = .ok (.ifCond .ne 5, 3) := by decide +kernel
theorem dX6_takeFrom_14 : decode cX6_takeFrom 14 = .ok (.iconst 0, 1) := by decide +kernel
theorem dX6_takeFrom_15 : decode cX6_takeFrom 15 = .ok (.ireturn, 1) := by decide +kernel
theorem dX6_takeFrom_16 : decode cX6_takeFrom 16 = .ok (.aload_n 0, 1) := by decide +kernel
theorem dX6_takeFrom_17 : decode cX6_takeFrom 17 = .ok (.getfield 15, 3) := by decide +kernel
theorem dX6_takeFrom_20 : decode cX6_takeFrom 20 = .ok (.iload_n 1, 1) := by decide +kernel
theorem dX6_takeFrom_21 : decode cX6_takeFrom 21 = .ok (.dup2, 1) := by decide +kernel
theorem dX6_takeFrom_22 : decode cX6_takeFrom 22 = .ok (.iaload, 1) := by decide +kernel
theorem dX6_takeFrom_23 : decode cX6_takeFrom 23 = .ok (.iload_n 2, 1) := by decide +kernel
theorem dX6_takeFrom_24 : decode cX6_takeFrom 24 = .ok (.isub, 1) := by decide +kernel
theorem dX6_takeFrom_25 : decode cX6_takeFrom 25 = .ok (.iastore, 1) := by decide +kernel
theorem dX6_takeFrom_26 : decode cX6_takeFrom 26 = .ok (.aload_n 0, 1) := by decide +kernel
theorem dX6_takeFrom_27 : decode cX6_takeFrom 27 = .ok (.dup, 1) := by decide +kernel
theorem dX6_takeFrom_28 : decode cX6_takeFrom 28 = .ok (.getfield 25, 3) := by decide +kernel
theorem dX6_takeFrom_31 : decode cX6_takeFrom 31 = .ok (.iload_n 2, 1) := by decide +kernel
theorem dX6_takeFrom_32 : decode cX6_takeFrom 32 = .ok (.isub, 1) := by decide +kernel
theorem dX6_takeFrom_33 : decode cX6_takeFrom 33 = .ok (.putfield 25, 3) := by decide +kernel
theorem dX6_takeFrom_36 : decode cX6_takeFrom 36 = .ok (.aload_n 0, 1) := by decide +kernel
theorem dX6_takeFrom_37 : decode cX6_takeFrom 37 = .ok (.getfield 15, 3) := by decide +kernel
theorem dX6_takeFrom_40 : decode cX6_takeFrom 40 = .ok (.iload_n 1, 1) := by decide +kernel
theorem dX6_takeFrom_41 : decode cX6_takeFrom 41 = .ok (.iaload, 1) := by decide +kernel
theorem dX6_takeFrom_42 : decode cX6_takeFrom 42 = .ok (.ireturn, 1) := by decide +kernel
theorem dX6_dropFirst_0 : decode cX6_dropFirst 0 = .ok (.iload_n 1, 1) := by decide +kernel
theorem dX6_dropFirst_1 : decode cX6_dropFirst 1 = .ok (.istore_n 2, 1) := by decide +kernel
theorem dX6_dropFirst_2 : decode cX6_dropFirst 2 = .ok (.iload_n 2, 1) := by decide +kernel
theorem dX6_dropFirst_3 : decode cX6_dropFirst 3 = .ok (.aload_n 0, 1) := by decide +kernel
theorem dX6_dropFirst_4 : decode cX6_dropFirst 4 = .ok (.getfield 21, 3) := by decide +kernel
theorem dX6_dropFirst_7 : decode cX6_dropFirst 7 = .ok (.if_icmp .ge 51, 3) := by decide +kernel
theorem dX6_dropFirst_10 : decode cX6_dropFirst 10 = .ok (.aload_n 0, 1) := by decide +kernel
theorem dX6_dropFirst_11 : decode cX6_dropFirst 11 = .ok (.getfield 9, 3) := by decide +kernel
theorem dX6_dropFirst_14 : decode cX6_dropFirst 14 = .ok (.iload_n 2, 1) := by decide +kernel
theorem dX6_dropFirst_15 : decode cX6_dropFirst 15 = .ok (.iload_n 1, 1) := by decide +kernel
theorem dX6_dropFirst_16 : decode cX6_dropFirst 16 = .ok (.isub, 1) := by decide +kernel
theorem dX6_dropFirst_17 : decode cX6_dropFirst 17 = .ok (.aload_n 0, 1) := by decide +kernel
theorem dX6_dropFirst_18 : decode cX6_dropFirst 18 = .ok (.getfield 9, 3) := by decide +kernel
theorem dX6_dropFirst_21 : decode cX6_dropFirst 21 = .ok (.iload_n 2, 1) := by decide +kernel
theorem dX6_dropFirst_22 : decode cX6_dropFirst 22 = .ok (.iaload, 1) := by decide +kernel
theorem dX6_dropFirst_23 : decode cX6_dropFirst 23 = .ok (.iastore, 1) := by decide +kernel
theorem dX6_dropFirst_24 : decode cX6_dropFirst 24 = .ok (.aload_n 0, 1) := by decide +kernel
theorem dX6_dropFirst_25 : decode cX6_dropFirst 25 = .ok (.getfield 15, 3) := by decide +kernel
theorem dX6_dropFirst_28 : decode cX6_dropFirst 28 = .ok (.iload_n 2, 1) := by decide +kernel
theorem dX6_dropFirst_29 : decode cX6_dropFirst 29 = .ok (.iload_n 1, 1) := by decide +kernel
theorem dX6_dropFirst_30 : decode cX6_dropFirst 30 = .ok (.isub, 1) := by decide +kernel
theorem dX6_dropFirst_31 : decode cX6_dropFirst 31 = .ok (.aload_n 0, 1) := by decide +kernel
theorem dX6_dropFirst_32 : decode cX6_dropFirst 32 = .ok (.getfield 15, 3) := by decide +kernel
theorem dX6_dropFirst_35 : decode cX6_dropFirst 35 = .ok (.iload_n 2, 1) := by decide +kernel
theorem dX6_dropFirst_36 : decode cX6_dropFirst 36 = .ok (.iaload, 1) := by decide +kernel
theorem dX6_dropFirst_37 : decode cX6_dropFirst 37 = .ok (.iastore, 1) := by decide +kernel
theorem dX6_dropFirst_38 : decode cX6_dropFirst 38 = .ok (.aload_n 0, 1) := by decide +kernel
theorem dX6_dropFirst_39 : decode cX6_dropFirst 39 = .ok (.getfield 18, 3) := by decide +kernel
theorem dX6_dropFirst_42 : decode cX6_dropFirst 42 = .ok (.iload_n 2, 1) := by decide +kernel
theorem dX6_dropFirst_43 : decode cX6_dropFirst 43 = .ok (.iload_n 1, 1) := by decide +kernel
theorem dX6_dropFirst_44 : decode cX6_dropFirst 44 = .ok (.isub, 1) := by decide +kernel
theorem dX6_dropFirst_45 : decode cX6_dropFirst 45 = .ok (.aload_n 0, 1) := by decide +kernel
theorem dX6_dropFirst_46 : decode cX6_dropFirst 46 = .ok (.getfield 18, 3) := by decide +kernel
theorem dX6_dropFirst_49 : decode cX6_dropFirst 49 = .ok (.iload_n 2, 1) := by decide +kernel
theorem dX6_dropFirst_50 : decode cX6_dropFirst 50 = .ok (.iaload, 1) := by decide +kernel
theorem dX6_dropFirst_51 : decode cX6_dropFirst 51 = .ok (.iastore, 1) := by decide +kernel
theorem dX6_dropFirst_52 : decode cX6_dropFirst 52 = .ok (.iinc 2 1, 3) := by decide +kernel
theorem dX6_dropFirst_55 : decode cX6_dropFirst 55 = .ok (.goto (-53), 3) := by decide +kernel
theorem dX6_dropFirst_58 : decode cX6_dropFirst 58 = .ok (.aload_n 0, 1) := by decide +kernel
theorem dX6_dropFirst_59 : decode cX6_dropFirst 59 = .ok (.dup, 1) := by decide +kernel
theorem dX6_dropFirst_60 : decode cX6_dropFirst 60 = .ok (.getfield 21, 3) := by decide +kernel
theorem dX6_dropFirst_63 : decode cX6_dropFirst 63 = .ok (.iload_n 1, 1) := by decide +kernel
theorem dX6_dropFirst_64 : decode cX6_dropFirst 64 = .ok (.isub, 1) := by decide +kernel
theorem dX6_dropFirst_65 : decode cX6_dropFirst 65 = .ok (.putfield 21, 3) := by decide +kernel
theorem dX6_dropFirst_68 : decode cX6_dropFirst 68 = .ok (.return_, 1) := by decide +kernel
theorem dX6_numberOfLoad_0 : decode cX6_numberOfLoad 0 = .ok (.iload_n 1, 1) := by decide +kernel
theorem dX6_numberOfLoad_1 : decode cX6_numberOfLoad 1 = .ok (.iconst 0, 1) := by decide +kernel
theorem dX6_numberOfLoad_2 : decode cX6_numberOfLoad 2 = .ok (.aload_n 0, 1) := by decide +kernel
theorem dX6_numberOfLoad_3 : decode cX6_numberOfLoad 3 = .ok (.getfield 21, 3) := by decide +kernel
theorem dX6_numberOfLoad_6 : decode cX6_numberOfLoad 6 = .ok (.iconst 1, 1) := by decide +kernel
theorem dX6_numberOfLoad_7 : decode cX6_numberOfLoad 7 = .ok (.isub, 1) := by decide +kernel
theorem dX6_numberOfLoad_8 : decode cX6_numberOfLoad 8 = .ok (.invokestatic 32, 3) := by decide +kernel
theorem dX6_numberOfLoad_11 : decode cX6_numberOfLoad 11 = .ok (.ifCond .ne 5, 3) := by decide +kernel
theorem dX6_numberOfLoad_14 : decode cX6_numberOfLoad 14 = .ok (.iconst (-1), 1) := by decide +kernel
theorem dX6_numberOfLoad_15 : decode cX6_numberOfLoad 15 = .ok (.ireturn, 1) := by decide +kernel
theorem dX6_numberOfLoad_16 : decode cX6_numberOfLoad 16 = .ok (.iload_n 2, 1) := by decide +kernel
theorem dX6_numberOfLoad_17 : decode cX6_numberOfLoad 17 = .ok (.tableswitch 48 0 2 #[27, 34, 41], 27) := by decide +kernel
theorem dX6_numberOfLoad_44 : decode cX6_numberOfLoad 44 = .ok (.aload_n 0, 1) := by decide +kernel
theorem dX6_numberOfLoad_45 : decode cX6_numberOfLoad 45 = .ok (.getfield 9, 3) := by decide +kernel
theorem dX6_numberOfLoad_48 : decode cX6_numberOfLoad 48 = .ok (.iload_n 1, 1) := by decide +kernel
theorem dX6_numberOfLoad_49 : decode cX6_numberOfLoad 49 = .ok (.iaload, 1) := by decide +kernel
theorem dX6_numberOfLoad_50 : decode cX6_numberOfLoad 50 = .ok (.ireturn, 1) := by decide +kernel
theorem dX6_numberOfLoad_51 : decode cX6_numberOfLoad 51 = .ok (.aload_n 0, 1) := by decide +kernel
theorem dX6_numberOfLoad_52 : decode cX6_numberOfLoad 52 = .ok (.getfield 15, 3) := by decide +kernel
theorem dX6_numberOfLoad_55 : decode cX6_numberOfLoad 55 = .ok (.iload_n 1, 1) := by decide +kernel
theorem dX6_numberOfLoad_56 : decode cX6_numberOfLoad 56 = .ok (.iaload, 1) := by decide +kernel
theorem dX6_numberOfLoad_57 : decode cX6_numberOfLoad 57 = .ok (.ireturn, 1) := by decide +kernel
theorem dX6_numberOfLoad_58 : decode cX6_numberOfLoad 58 = .ok (.aload_n 0, 1) := by decide +kernel
theorem dX6_numberOfLoad_59 : decode cX6_numberOfLoad 59 = .ok (.getfield 18, 3) := by decide +kernel
theorem dX6_numberOfLoad_62 : decode cX6_numberOfLoad 62 = .ok (.iload_n 1, 1) := by decide +kernel
theorem dX6_numberOfLoad_63 : decode cX6_numberOfLoad 63 = .ok (.iaload, 1) := by decide +kernel
theorem dX6_numberOfLoad_64 : decode cX6_numberOfLoad 64 = .ok (.ireturn, 1) := by decide +kernel
theorem dX6_numberOfLoad_65 : decode cX6_numberOfLoad 65 = .ok (.bipush (-2), 2) := by decide +kernel
theorem dX6_numberOfLoad_67 : decode cX6_numberOfLoad 67 = .ok (.ireturn, 1) := by decide +kernel
theorem dX7_init_0 : decode cX7_init 0 = .ok (.aload_n 0, 1) := by decide +kernel
theorem dX7_init_1 : decode cX7_init 1 = .ok (.invokespecial 1, 3) := by decide +kernel
theorem dX7_init_4 : decode cX7_init 4 = .ok (.aload_n 0, 1) := by decide +kernel
theorem dX7_init_5 : decode cX7_init 5 = .ok (.new 7, 3) := by decide +kernel
theorem dX7_init_8 : decode cX7_init 8 = .ok (.dup, 1) := by decide +kernel
theorem dX7_init_9 : decode cX7_init 9 = .ok (.invokespecial 9, 3) := by decide +kernel
theorem dX7_init_12 : decode cX7_init 12 = .ok (.putfield 10, 3) := by decide +kernel
theorem dX7_init_15 : decode cX7_init 15 = .ok (.aload_n 0, 1) := by decide +kernel
theorem dX7_init_16 : decode cX7_init 16 = .ok (.new 7, 3) := by decide +kernel
theorem dX7_init_19 : decode cX7_init 19 = .ok (.dup, 1) := by decide +kernel
theorem dX7_init_20 : decode cX7_init 20 = .ok (.invokespecial 9, 3) := by decide +kernel
theorem dX7_init_23 : decode cX7_init 23 = .ok (.putfield 16, 3) := by decide +kernel
theorem dX7_init_26 : decode cX7_init 26 = .ok (.aload_n 0, 1) := by decide +kernel
theorem dX7_init_27 : decode cX7_init 27 = .ok (.new 19, 3) := by decide +kernel
theorem dX7_init_30 : decode cX7_init 30 = .ok (.dup, 1) := by decide +kernel
theorem dX7_init_31 : decode cX7_init 31 = .ok (.invokespecial 21, 3) := by decide +kernel
theorem dX7_init_34 : decode cX7_init 34 = .ok (.putfield 22, 3) := by decide +kernel
theorem dX7_init_37 : decode cX7_init 37 = .ok (.aload_n 0, 1) := by decide +kernel
theorem dX7_init_38 : decode cX7_init 38 = .ok (.iconst 2, 1) := by decide +kernel
theorem dX7_init_39 : decode cX7_init 39 = .ok (.anewarray 7, 3) := by decide +kernel
theorem dX7_init_42 : decode cX7_init 42 = .ok (.putfield 26, 3) := by decide +kernel
theorem dX7_init_45 : decode cX7_init 45 = .ok (.aload_n 0, 1) := by decide +kernel
theorem dX7_init_46 : decode cX7_init 46 = .ok (.new 30, 3) := by decide +kernel
theorem dX7_init_49 : decode cX7_init 49 = .ok (.dup, 1) := by decide +kernel
theorem dX7_init_50 : decode cX7_init 50 = .ok (.invokespecial 32, 3) := by decide +kernel
theorem dX7_init_53 : decode cX7_init 53 = .ok (.putfield 33, 3) := by decide +kernel
theorem dX7_init_56 : decode cX7_init 56 = .ok (.return_, 1) := by decide +kernel
theorem dX7_set_0 : decode cX7_set 0 = .ok (.aload_n 0, 1) := by decide +kernel
theorem dX7_set_1 : decode cX7_set 1 = .ok (.getfield 22, 3) := by decide +kernel
theorem dX7_set_4 : decode cX7_set 4 = .ok (.aload_n 0, 1) := by decide +kernel
theorem dX7_set_5 : decode cX7_set 5 = .ok (.getfield 10, 3) := by decide +kernel
theorem dX7_set_8 : decode cX7_set 8 = .ok (.invokevirtual 37, 3) := by decide +kernel
theorem dX7_set_11 : decode cX7_set 11 = .ok (.aload_n 0, 1) := by decide +kernel
theorem dX7_set_12 : decode cX7_set 12 = .ok (.getfield 22, 3) := by decide +kernel
theorem dX7_set_15 : decode cX7_set 15 = .ok (.aload_n 0, 1) := by decide +kernel
theorem dX7_set_16 : decode cX7_set 16 = .ok (.getfield 10, 3) := by decide +kernel
theorem dX7_set_19 : decode cX7_set 19 = .ok (.iload_n 1, 1) := by decide +kernel
theorem dX7_set_20 : decode cX7_set 20 = .ok (.iload_n 2, 1) := by decide +kernel
theorem dX7_set_21 : decode cX7_set 21 = .ok (.invokevirtual 41, 3) := by decide +kernel
theorem dX7_set_24 : decode cX7_set 24 = .ok (.invokevirtual 45, 3) := by decide +kernel
theorem dX7_set_27 : decode cX7_set 27 = .ok (.ireturn, 1) := by decide +kernel
theorem dX7_quota_0 : decode cX7_quota 0 = .ok (.aload_n 0, 1) := by decide +kernel
theorem dX7_quota_1 : decode cX7_quota 1 = .ok (.getfield 22, 3) := by decide +kernel
theorem dX7_quota_4 : decode cX7_quota 4 = .ok (.aload_n 0, 1) := by decide +kernel
theorem dX7_quota_5 : decode cX7_quota 5 = .ok (.getfield 10, 3) := by decide +kernel
theorem dX7_quota_8 : decode cX7_quota 8 = .ok (.invokevirtual 37, 3) := by decide +kernel
theorem dX7_quota_11 : decode cX7_quota 11 = .ok (.aload_n 0, 1) := by decide +kernel
theorem dX7_quota_12 : decode cX7_quota 12 = .ok (.getfield 22, 3) := by decide +kernel
theorem dX7_quota_15 : decode cX7_quota 15 = .ok (.aload_n 0, 1) := by decide +kernel
theorem dX7_quota_16 : decode cX7_quota 16 = .ok (.getfield 10, 3) := by decide +kernel
theorem dX7_quota_19 : decode cX7_quota 19 = .ok (.iload_n 1, 1) := by decide +kernel
theorem dX7_quota_20 : decode cX7_quota 20 = .ok (.iload_n 2, 1) := by decide +kernel
theorem dX7_quota_21 : decode cX7_quota 21 = .ok (.invokevirtual 49, 3) := by decide +kernel
theorem dX7_quota_24 : decode cX7_quota 24 = .ok (.invokevirtual 45, 3) := by decide +kernel
theorem dX7_quota_27 : decode cX7_quota 27 = .ok (.ireturn, 1) := by decide +kernel
theorem dX7_lend_0 : decode cX7_lend 0 = .ok (.aload_n 0, 1) := by decide +kernel
theorem dX7_lend_1 : decode cX7_lend 1 = .ok (.getfield 22, 3) := by decide +kernel
theorem dX7_lend_4 : decode cX7_lend 4 = .ok (.aload_n 0, 1) := by decide +kernel
theorem dX7_lend_5 : decode cX7_lend 5 = .ok (.getfield 10, 3) := by decide +kernel
theorem dX7_lend_8 : decode cX7_lend 8 = .ok (.invokevirtual 37, 3) := by decide +kernel
theorem dX7_lend_11 : decode cX7_lend 11 = .ok (.aload_n 0, 1) := by decide +kernel
theorem dX7_lend_12 : decode cX7_lend 12 = .ok (.getfield 22, 3) := by decide +kernel
theorem dX7_lend_15 : decode cX7_lend 15 = .ok (.aload_n 0, 1) := by decide +kernel
theorem dX7_lend_16 : decode cX7_lend 16 = .ok (.getfield 10, 3) := by decide +kernel
theorem dX7_lend_19 : decode cX7_lend 19 = .ok (.iload_n 1, 1) := by decide +kernel
theorem dX7_lend_20 : decode cX7_lend 20 = .ok (.iload_n 2, 1) := by decide +kernel
theorem dX7_lend_21 : decode cX7_lend 21 = .ok (.iload_n 3, 1) := by decide +kernel
theorem dX7_lend_22 : decode cX7_lend 22 = .ok (.invokevirtual 52, 3) := by decide +kernel
theorem dX7_lend_25 : decode cX7_lend 25 = .ok (.invokevirtual 45, 3) := by decide +kernel
theorem dX7_lend_28 : decode cX7_lend 28 = .ok (.ireturn, 1) := by decide +kernel
theorem dX7_field_0 : decode cX7_field 0 = .ok (.aload_n 0, 1) := by decide +kernel
theorem dX7_field_1 : decode cX7_field 1 = .ok (.getfield 22, 3) := by decide +kernel
theorem dX7_field_4 : decode cX7_field 4 = .ok (.aload_n 0, 1) := by decide +kernel
theorem dX7_field_5 : decode cX7_field 5 = .ok (.getfield 10, 3) := by decide +kernel
theorem dX7_field_8 : decode cX7_field 8 = .ok (.invokevirtual 37, 3) := by decide +kernel
theorem dX7_field_11 : decode cX7_field 11 = .ok (.aload_n 0, 1) := by decide +kernel
theorem dX7_field_12 : decode cX7_field 12 = .ok (.getfield 22, 3) := by decide +kernel
theorem dX7_field_15 : decode cX7_field 15 = .ok (.aload_n 0, 1) := by decide +kernel
theorem dX7_field_16 : decode cX7_field 16 = .ok (.getfield 10, 3) := by decide +kernel
theorem dX7_field_19 : decode cX7_field 19 = .ok (.iload_n 1, 1) := by decide +kernel
theorem dX7_field_20 : decode cX7_field 20 = .ok (.iload_n 2, 1) := by decide +kernel
theorem dX7_field_21 : decode cX7_field 21 = .ok (.iload_n 3, 1) := by decide +kernel
theorem dX7_field_22 : decode cX7_field 22 = .ok (.iload 4, 2) := by decide +kernel
theorem dX7_field_24 : decode cX7_field 24 = .ok (.invokevirtual 56, 3) := by decide +kernel
theorem dX7_field_27 : decode cX7_field 27 = .ok (.invokevirtual 45, 3) := by decide +kernel
theorem dX7_field_30 : decode cX7_field 30 = .ok (.ireturn, 1) := by decide +kernel
theorem dX7_stop_0 : decode cX7_stop 0 = .ok (.aload_n 0, 1) := by decide +kernel
theorem dX7_stop_1 : decode cX7_stop 1 = .ok (.getfield 22, 3) := by decide +kernel
theorem dX7_stop_4 : decode cX7_stop 4 = .ok (.aload_n 0, 1) := by decide +kernel
theorem dX7_stop_5 : decode cX7_stop 5 = .ok (.getfield 10, 3) := by decide +kernel
theorem dX7_stop_8 : decode cX7_stop 8 = .ok (.invokevirtual 37, 3) := by decide +kernel
theorem dX7_stop_11 : decode cX7_stop 11 = .ok (.aload_n 0, 1) := by decide +kernel
theorem dX7_stop_12 : decode cX7_stop 12 = .ok (.getfield 22, 3) := by decide +kernel
theorem dX7_stop_15 : decode cX7_stop 15 = .ok (.aload_n 0, 1) := by decide +kernel
theorem dX7_stop_16 : decode cX7_stop 16 = .ok (.getfield 10, 3) := by decide +kernel
theorem dX7_stop_19 : decode cX7_stop 19 = .ok (.getfield 60, 3) := by decide +kernel
theorem dX7_stop_22 : decode cX7_stop 22 = .ok (.iload_n 1, 1) := by decide +kernel
theorem dX7_stop_23 : decode cX7_stop 23 = .ok (.iload_n 2, 1) := by decide +kernel
theorem dX7_stop_24 : decode cX7_stop 24 = .ok (.invokevirtual 64, 3) := by decide +kernel
theorem dX7_stop_27 : decode cX7_stop 27 = .ok (.invokevirtual 45, 3) := by decide +kernel
theorem dX7_stop_30 : decode cX7_stop 30 = .ok (.ireturn, 1) := by decide +kernel
theorem dX7_dropStop_0 : decode cX7_dropStop 0 = .ok (.aload_n 0, 1) := by decide +kernel
theorem dX7_dropStop_1 : decode cX7_dropStop 1 = .ok (.getfield 22, 3) := by decide +kernel
theorem dX7_dropStop_4 : decode cX7_dropStop 4 = .ok (.aload_n 0, 1) := by decide +kernel
theorem dX7_dropStop_5 : decode cX7_dropStop 5 = .ok (.getfield 10, 3) := by decide +kernel
theorem dX7_dropStop_8 : decode cX7_dropStop 8 = .ok (.invokevirtual 37, 3) := by decide +kernel
theorem dX7_dropStop_11 : decode cX7_dropStop 11 = .ok (.aload_n 0, 1) := by decide +kernel
theorem dX7_dropStop_12 : decode cX7_dropStop 12 = .ok (.getfield 22, 3) := by decide +kernel
theorem dX7_dropStop_15 : decode cX7_dropStop 15 = .ok (.aload_n 0, 1) := by decide +kernel
theorem dX7_dropStop_16 : decode cX7_dropStop 16 = .ok (.getfield 10, 3) := by decide +kernel
theorem dX7_dropStop_19 : decode cX7_dropStop 19 = .ok (.getfield 60, 3) := by decide +kernel
theorem dX7_dropStop_22 : decode cX7_dropStop 22 = .ok (.iload_n 1, 1) := by decide +kernel
theorem dX7_dropStop_23 : decode cX7_dropStop 23 = .ok (.invokevirtual 69, 3) := by decide +kernel
theorem dX7_dropStop_26 : decode cX7_dropStop 26 = .ok (.invokevirtual 45, 3) := by decide +kernel
theorem dX7_dropStop_29 : decode cX7_dropStop 29 = .ok (.ireturn, 1) := by decide +kernel
theorem dX7_pass_0 : decode cX7_pass 0 = .ok (.aload_n 0, 1) := by decide +kernel
theorem dX7_pass_1 : decode cX7_pass 1 = .ok (.getfield 22, 3) := by decide +kernel
theorem dX7_pass_4 : decode cX7_pass 4 = .ok (.aload_n 0, 1) := by decide +kernel
theorem dX7_pass_5 : decode cX7_pass 5 = .ok (.getfield 10, 3) := by decide +kernel
theorem dX7_pass_8 : decode cX7_pass 8 = .ok (.invokevirtual 37, 3) := by decide +kernel
theorem dX7_pass_11 : decode cX7_pass 11 = .ok (.aload_n 0, 1) := by decide +kernel
theorem dX7_pass_12 : decode cX7_pass 12 = .ok (.getfield 22, 3) := by decide +kernel
theorem dX7_pass_15 : decode cX7_pass 15 = .ok (.aload_n 0, 1) := by decide +kernel
theorem dX7_pass_16 : decode cX7_pass 16 = .ok (.getfield 10, 3) := by decide +kernel
theorem dX7_pass_19 : decode cX7_pass 19 = .ok (.iload_n 1, 1) := by decide +kernel
theorem dX7_pass_20 : decode cX7_pass 20 = .ok (.invokevirtual 72, 3) := by decide +kernel
theorem dX7_pass_23 : decode cX7_pass 23 = .ok (.invokevirtual 45, 3) := by decide +kernel
theorem dX7_pass_26 : decode cX7_pass 26 = .ok (.ireturn, 1) := by decide +kernel
theorem dX7_ofField_0 : decode cX7_ofField 0 = .ok (.aload_n 0, 1) := by decide +kernel
theorem dX7_ofField_1 : decode cX7_ofField 1 = .ok (.getfield 10, 3) := by decide +kernel
theorem dX7_ofField_4 : decode cX7_ofField 4 = .ok (.iload_n 1, 1) := by decide +kernel
theorem dX7_ofField_5 : decode cX7_ofField 5 = .ok (.iload_n 2, 1) := by decide +kernel
theorem dX7_ofField_6 : decode cX7_ofField 6 = .ok (.invokevirtual 75, 3) := by decide +kernel
theorem dX7_ofField_9 : decode cX7_ofField 9 = .ok (.ireturn, 1) := by decide +kernel
theorem dX7_ofGrower_0 : decode cX7_ofGrower 0 = .ok (.aload_n 0, 1) := by decide +kernel
theorem dX7_ofGrower_1 : decode cX7_ofGrower 1 = .ok (.getfield 10, 3) := by decide +kernel
theorem dX7_ofGrower_4 : decode cX7_ofGrower 4 = .ok (.iload_n 1, 1) := by decide +kernel
theorem dX7_ofGrower_5 : decode cX7_ofGrower 5 = .ok (.iload_n 2, 1) := by decide +kernel
theorem dX7_ofGrower_6 : decode cX7_ofGrower 6 = .ok (.invokevirtual 78, 3) := by decide +kernel
theorem dX7_ofGrower_9 : decode cX7_ofGrower 9 = .ok (.ireturn, 1) := by decide +kernel
theorem dX7_load_0 : decode cX7_load 0 = .ok (.aload_n 0, 1) := by decide +kernel
theorem dX7_load_1 : decode cX7_load 1 = .ok (.getfield 10, 3) := by decide +kernel
theorem dX7_load_4 : decode cX7_load 4 = .ok (.getfield 81, 3) := by decide +kernel
theorem dX7_load_7 : decode cX7_load 7 = .ok (.iload_n 1, 1) := by decide +kernel
theorem dX7_load_8 : decode cX7_load 8 = .ok (.iload_n 2, 1) := by decide +kernel
theorem dX7_load_9 : decode cX7_load 9 = .ok (.invokevirtual 85, 3) := by decide +kernel
theorem dX7_load_12 : decode cX7_load 12 = .ok (.ireturn, 1) := by decide +kernel
theorem dX7_count_0 : decode cX7_count 0 = .ok (.iload_n 1, 1) := by decide +kernel
theorem dX7_count_1 : decode cX7_count 1 = .ok (.lookupswitch 43 #[(18, 27), (19, 35)], 27) := by decide +kernel
theorem dX7_count_28 : decode cX7_count 28 = .ok (.aload_n 0, 1) := by decide +kernel
theorem dX7_count_29 : decode cX7_count 29 = .ok (.getfield 33, 3) := by decide +kernel
theorem dX7_count_32 : decode cX7_count 32 = .ok (.getfield 90, 3) := by decide +kernel
theorem dX7_count_35 : decode cX7_count 35 = .ok (.ireturn, 1) := by decide +kernel
theorem dX7_count_36 : decode cX7_count 36 = .ok (.aload_n 0, 1) := by decide +kernel
theorem dX7_count_37 : decode cX7_count 37 = .ok (.getfield 22, 3) := by decide +kernel
theorem dX7_count_40 : decode cX7_count 40 = .ok (.getfield 94, 3) := by decide +kernel
theorem dX7_count_43 : decode cX7_count 43 = .ok (.ireturn, 1) := by decide +kernel
theorem dX7_count_44 : decode cX7_count 44 = .ok (.aload_n 0, 1) := by decide +kernel
end
section
theorem dX7_count_45 : decode cX7_count 45 = .ok (.getfield 10, 3) := by decide +kernel
theorem dX7_count_48 : decode cX7_count 48 = .ok (.iload_n 1, 1) := by decide +kernel
theorem dX7_count_49 : decode cX7_count 49 = .ok (.invokevirtual 97, 3) := by decide +kernel
theorem dX7_count_52 : decode cX7_count 52 = .ok (.ireturn, 1) := by decide +kernel
theorem dX7_fields_0 : decode cX7_fields 0 = .ok (.iload_n 1, 1) := by decide +kernel
theorem dX7_fields_1 : decode cX7_fields 1 = .ok (.iconst 0, 1) := by decide +kernel
theorem dX7_fields_2 : decode cX7_fields 2 = .ok (.iconst 3, 1) := by decide +kernel
theorem dX7_fields_3 : decode cX7_fields 3 = .ok (.invokestatic 100, 3) := by decide +kernel
theorem dX7_fields_6 : decode cX7_fields 6 = .ok (.ifCond .ne 7, 3) := by decide +kernel
theorem dX7_fields_9 : decode cX7_fields 9 = .ok (.ldc2_w 104, 3) := by decide +kernel
theorem dX7_fields_12 : decode cX7_fields 12 = .ok (.lreturn, 1) := by decide +kernel
theorem dX7_fields_13 : decode cX7_fields 13 = .ok (.aload_n 0, 1) := by decide +kernel
theorem dX7_fields_14 : decode cX7_fields 14 = .ok (.getfield 10, 3) := by decide +kernel
theorem dX7_fields_17 : decode cX7_fields 17 = .ok (.getfield 106, 3) := by decide +kernel
theorem dX7_fields_20 : decode cX7_fields 20 = .ok (.iload_n 1, 1) := by decide +kernel
theorem dX7_fields_21 : decode cX7_fields 21 = .ok (.aload_n 0, 1) := by decide +kernel
theorem dX7_fields_22 : decode cX7_fields 22 = .ok (.getfield 10, 3) := by decide +kernel
theorem dX7_fields_25 : decode cX7_fields 25 = .ok (.getfield 110, 3) := by decide +kernel
theorem dX7_fields_28 : decode cX7_fields 28 = .ok (.invokevirtual 113, 3) := by decide +kernel
theorem dX7_fields_31 : decode cX7_fields 31 = .ok (.lreturn, 1) := by decide +kernel
theorem dX7_next_0 : decode cX7_next 0 = .ok (.aload_n 0, 1) := by decide +kernel
theorem dX7_next_1 : decode cX7_next 1 = .ok (.getfield 10, 3) := by decide +kernel
theorem dX7_next_4 : decode cX7_next 4 = .ok (.invokevirtual 119, 3) := by decide +kernel
theorem dX7_next_7 : decode cX7_next 7 = .ok (.ireturn, 1) := by decide +kernel
theorem dX7_then_0 : decode cX7_then 0 = .ok (.iload_n 1, 1) := by decide +kernel
theorem dX7_then_1 : decode cX7_then 1 = .ok (.iconst 1, 1) := by decide +kernel
theorem dX7_then_2 : decode cX7_then 2 = .ok (.sipush 300, 3) := by decide +kernel
theorem dX7_then_5 : decode cX7_then 5 = .ok (.invokestatic 100, 3) := by decide +kernel
theorem dX7_then_8 : decode cX7_then 8 = .ok (.ifCond .eq 12, 3) := by decide +kernel
theorem dX7_then_11 : decode cX7_then 11 = .ok (.iload_n 2, 1) := by decide +kernel
theorem dX7_then_12 : decode cX7_then 12 = .ok (.iconst 0, 1) := by decide +kernel
theorem dX7_then_13 : decode cX7_then 13 = .ok (.iconst 2, 1) := by decide +kernel
theorem dX7_then_14 : decode cX7_then 14 = .ok (.invokestatic 100, 3) := by decide +kernel
theorem dX7_then_17 : decode cX7_then 17 = .ok (.ifCond .ne 6, 3) := by decide +kernel
theorem dX7_then_20 : decode cX7_then 20 = .ok (.bipush (-2), 2) := by decide +kernel
theorem dX7_then_22 : decode cX7_then 22 = .ok (.ireturn, 1) := by decide +kernel
theorem dX7_then_23 : decode cX7_then 23 = .ok (.aload_n 0, 1) := by decide +kernel
theorem dX7_then_24 : decode cX7_then 24 = .ok (.iload_n 1, 1) := by decide +kernel
theorem dX7_then_25 : decode cX7_then 25 = .ok (.iconst 0, 1) := by decide +kernel
theorem dX7_then_26 : decode cX7_then 26 = .ok (.invokevirtual 123, 3) := by decide +kernel
theorem dX7_then_29 : decode cX7_then 29 = .ok (.iload_n 2, 1) := by decide +kernel
theorem dX7_then_30 : decode cX7_then 30 = .ok (.lookupswitch 64 #[(0, 26), (1, 48)], 26) := by decide +kernel
theorem dX7_then_56 : decode cX7_then 56 = .ok (.aload_n 0, 1) := by decide +kernel
theorem dX7_then_57 : decode cX7_then 57 = .ok (.getfield 16, 3) := by decide +kernel
theorem dX7_then_60 : decode cX7_then 60 = .ok (.getfield 127, 3) := by decide +kernel
theorem dX7_then_63 : decode cX7_then 63 = .ok (.invokevirtual 131, 3) := by decide +kernel
theorem dX7_then_66 : decode cX7_then 66 = .ok (.aload_n 0, 1) := by decide +kernel
theorem dX7_then_67 : decode cX7_then 67 = .ok (.getfield 10, 3) := by decide +kernel
theorem dX7_then_70 : decode cX7_then 70 = .ok (.getfield 127, 3) := by decide +kernel
theorem dX7_then_73 : decode cX7_then 73 = .ok (.invokevirtual 131, 3) := by decide +kernel
theorem dX7_then_76 : decode cX7_then 76 = .ok (.isub, 1) := by decide +kernel
theorem dX7_then_77 : decode cX7_then 77 = .ok (.ireturn, 1) := by decide +kernel
theorem dX7_then_78 : decode cX7_then 78 = .ok (.aload_n 0, 1) := by decide +kernel
theorem dX7_then_79 : decode cX7_then 79 = .ok (.getfield 16, 3) := by decide +kernel
theorem dX7_then_82 : decode cX7_then 82 = .ok (.getfield 136, 3) := by decide +kernel
theorem dX7_then_85 : decode cX7_then 85 = .ok (.aload_n 0, 1) := by decide +kernel
theorem dX7_then_86 : decode cX7_then 86 = .ok (.getfield 10, 3) := by decide +kernel
theorem dX7_then_89 : decode cX7_then 89 = .ok (.getfield 136, 3) := by decide +kernel
theorem dX7_then_92 : decode cX7_then 92 = .ok (.isub, 1) := by decide +kernel
theorem dX7_then_93 : decode cX7_then 93 = .ok (.ireturn, 1) := by decide +kernel
theorem dX7_then_94 : decode cX7_then 94 = .ok (.aload_n 0, 1) := by decide +kernel
theorem dX7_then_95 : decode cX7_then 95 = .ok (.getfield 16, 3) := by decide +kernel
theorem dX7_then_98 : decode cX7_then 98 = .ok (.getfield 127, 3) := by decide +kernel
theorem dX7_then_101 : decode cX7_then 101 = .ok (.invokevirtual 139, 3) := by decide +kernel
theorem dX7_then_104 : decode cX7_then 104 = .ok (.aload_n 0, 1) := by decide +kernel
theorem dX7_then_105 : decode cX7_then 105 = .ok (.getfield 10, 3) := by decide +kernel
theorem dX7_then_108 : decode cX7_then 108 = .ok (.getfield 127, 3) := by decide +kernel
theorem dX7_then_111 : decode cX7_then 111 = .ok (.invokevirtual 139, 3) := by decide +kernel
theorem dX7_then_114 : decode cX7_then 114 = .ok (.isub, 1) := by decide +kernel
theorem dX7_then_115 : decode cX7_then 115 = .ok (.ireturn, 1) := by decide +kernel
theorem dX7_stopCosts_0 : decode cX7_stopCosts 0 = .ok (.iload_n 1, 1) := by decide +kernel
theorem dX7_stopCosts_1 : decode cX7_stopCosts 1 = .ok (.iconst 1, 1) := by decide +kernel
theorem dX7_stopCosts_2 : decode cX7_stopCosts 2 = .ok (.sipush 300, 3) := by decide +kernel
theorem dX7_stopCosts_5 : decode cX7_stopCosts 5 = .ok (.invokestatic 100, 3) := by decide +kernel
theorem dX7_stopCosts_8 : decode cX7_stopCosts 8 = .ok (.ifCond .eq 12, 3) := by decide +kernel
theorem dX7_stopCosts_11 : decode cX7_stopCosts 11 = .ok (.iload_n 2, 1) := by decide +kernel
theorem dX7_stopCosts_12 : decode cX7_stopCosts 12 = .ok (.iconst 0, 1) := by decide +kernel
theorem dX7_stopCosts_13 : decode cX7_stopCosts 13 = .ok (.iload_n 1, 1) := by decide +kernel
theorem dX7_stopCosts_14 : decode cX7_stopCosts 14 = .ok (.invokestatic 100, 3) := by decide +kernel
theorem dX7_stopCosts_17 : decode cX7_stopCosts 17 = .ok (.ifCond .ne 6, 3) := by decide +kernel
theorem dX7_stopCosts_20 : decode cX7_stopCosts 20 = .ok (.bipush (-2), 2) := by decide +kernel
theorem dX7_stopCosts_22 : decode cX7_stopCosts 22 = .ok (.ireturn, 1) := by decide +kernel
theorem dX7_stopCosts_23 : decode cX7_stopCosts 23 = .ok (.aload_n 0, 1) := by decide +kernel
theorem dX7_stopCosts_24 : decode cX7_stopCosts 24 = .ok (.iload_n 1, 1) := by decide +kernel
theorem dX7_stopCosts_25 : decode cX7_stopCosts 25 = .ok (.iconst 0, 1) := by decide +kernel
theorem dX7_stopCosts_26 : decode cX7_stopCosts 26 = .ok (.invokevirtual 123, 3) := by decide +kernel
theorem dX7_stopCosts_29 : decode cX7_stopCosts 29 = .ok (.aload_n 0, 1) := by decide +kernel
theorem dX7_stopCosts_30 : decode cX7_stopCosts 30 = .ok (.getfield 16, 3) := by decide +kernel
theorem dX7_stopCosts_33 : decode cX7_stopCosts 33 = .ok (.getfield 136, 3) := by decide +kernel
theorem dX7_stopCosts_36 : decode cX7_stopCosts 36 = .ok (.istore_n 3, 1) := by decide +kernel
theorem dX7_stopCosts_37 : decode cX7_stopCosts 37 = .ok (.aload_n 0, 1) := by decide +kernel
theorem dX7_stopCosts_38 : decode cX7_stopCosts 38 = .ok (.iload_n 1, 1) := by decide +kernel
theorem dX7_stopCosts_39 : decode cX7_stopCosts 39 = .ok (.iload_n 2, 1) := by decide +kernel
theorem dX7_stopCosts_40 : decode cX7_stopCosts 40 = .ok (.invokevirtual 123, 3) := by decide +kernel
theorem dX7_stopCosts_43 : decode cX7_stopCosts 43 = .ok (.iload_n 3, 1) := by decide +kernel
theorem dX7_stopCosts_44 : decode cX7_stopCosts 44 = .ok (.aload_n 0, 1) := by decide +kernel
theorem dX7_stopCosts_45 : decode cX7_stopCosts 45 = .ok (.getfield 16, 3) := by decide +kernel
theorem dX7_stopCosts_48 : decode cX7_stopCosts 48 = .ok (.getfield 136, 3) := by decide +kernel
theorem dX7_stopCosts_51 : decode cX7_stopCosts 51 = .ok (.isub, 1) := by decide +kernel
theorem dX7_stopCosts_52 : decode cX7_stopCosts 52 = .ok (.ldc 146, 2) := by decide +kernel
theorem dX7_stopCosts_54 : decode cX7_stopCosts 54 = .ok (.iadd, 1) := by decide +kernel
theorem dX7_stopCosts_55 : decode cX7_stopCosts 55 = .ok (.ireturn, 1) := by decide +kernel
theorem dX7_tryDays_0 : decode cX7_tryDays 0 = .ok (.aload_n 0, 1) := by decide +kernel
theorem dX7_tryDays_1 : decode cX7_tryDays 1 = .ok (.getfield 16, 3) := by decide +kernel
theorem dX7_tryDays_4 : decode cX7_tryDays 4 = .ok (.aload_n 0, 1) := by decide +kernel
theorem dX7_tryDays_5 : decode cX7_tryDays 5 = .ok (.getfield 10, 3) := by decide +kernel
theorem dX7_tryDays_8 : decode cX7_tryDays 8 = .ok (.invokevirtual 147, 3) := by decide +kernel
theorem dX7_tryDays_11 : decode cX7_tryDays 11 = .ok (.iconst 0, 1) := by decide +kernel
theorem dX7_tryDays_12 : decode cX7_tryDays 12 = .ok (.istore_n 3, 1) := by decide +kernel
theorem dX7_tryDays_13 : decode cX7_tryDays 13 = .ok (.iload_n 3, 1) := by decide +kernel
theorem dX7_tryDays_14 : decode cX7_tryDays 14 = .ok (.iload_n 1, 1) := by decide +kernel
theorem dX7_tryDays_15 : decode cX7_tryDays 15 = .ok (.if_icmp .ge 26, 3) := by decide +kernel
theorem dX7_tryDays_18 : decode cX7_tryDays 18 = .ok (.aload_n 0, 1) := by decide +kernel
theorem dX7_tryDays_19 : decode cX7_tryDays 19 = .ok (.getfield 16, 3) := by decide +kernel
theorem dX7_tryDays_22 : decode cX7_tryDays 22 = .ok (.iload_n 3, 1) := by decide +kernel
theorem dX7_tryDays_23 : decode cX7_tryDays 23 = .ok (.iload_n 2, 1) := by decide +kernel
theorem dX7_tryDays_24 : decode cX7_tryDays 24 = .ok (.if_icmp .ge 7, 3) := by decide +kernel
theorem dX7_tryDays_27 : decode cX7_tryDays 27 = .ok (.iconst 1, 1) := by decide +kernel
theorem dX7_tryDays_28 : decode cX7_tryDays 28 = .ok (.goto 4, 3) := by decide +kernel
theorem dX7_tryDays_31 : decode cX7_tryDays 31 = .ok (.iconst 0, 1) := by decide +kernel
theorem dX7_tryDays_32 : decode cX7_tryDays 32 = .ok (.invokevirtual 150, 3) := by decide +kernel
theorem dX7_tryDays_35 : decode cX7_tryDays 35 = .ok (.iinc 3 1, 3) := by decide +kernel
theorem dX7_tryDays_38 : decode cX7_tryDays 38 = .ok (.goto (-25), 3) := by decide +kernel
theorem dX7_tryDays_41 : decode cX7_tryDays 41 = .ok (.return_, 1) := by decide +kernel
theorem dX7_undo_0 : decode cX7_undo 0 = .ok (.aload_n 0, 1) := by decide +kernel
theorem dX7_undo_1 : decode cX7_undo 1 = .ok (.getfield 22, 3) := by decide +kernel
theorem dX7_undo_4 : decode cX7_undo 4 = .ok (.getfield 94, 3) := by decide +kernel
theorem dX7_undo_7 : decode cX7_undo 7 = .ok (.ifCond .ne 6, 3) := by decide +kernel
theorem dX7_undo_10 : decode cX7_undo 10 = .ok (.bipush (-5), 2) := by decide +kernel
theorem dX7_undo_12 : decode cX7_undo 12 = .ok (.ireturn, 1) := by decide +kernel
theorem dX7_undo_13 : decode cX7_undo 13 = .ok (.aload_n 0, 1) := by decide +kernel
theorem dX7_undo_14 : decode cX7_undo 14 = .ok (.getfield 22, 3) := by decide +kernel
theorem dX7_undo_17 : decode cX7_undo 17 = .ok (.aload_n 0, 1) := by decide +kernel
theorem dX7_undo_18 : decode cX7_undo 18 = .ok (.getfield 10, 3) := by decide +kernel
theorem dX7_undo_21 : decode cX7_undo 21 = .ok (.invokevirtual 189, 3) := by decide +kernel
theorem dX7_undo_24 : decode cX7_undo 24 = .ok (.aload_n 0, 1) := by decide +kernel
theorem dX7_undo_25 : decode cX7_undo 25 = .ok (.getfield 22, 3) := by decide +kernel
theorem dX7_undo_28 : decode cX7_undo 28 = .ok (.getfield 94, 3) := by decide +kernel
theorem dX7_undo_31 : decode cX7_undo 31 = .ok (.ireturn, 1) := by decide +kernel
theorem dX7_isWithin_0 : decode cX7_isWithin 0 = .ok (.iload_n 0, 1) := by decide +kernel
theorem dX7_isWithin_1 : decode cX7_isWithin 1 = .ok (.iload_n 1, 1) := by decide +kernel
theorem dX7_isWithin_2 : decode cX7_isWithin 2 = .ok (.if_icmp .lt 12, 3) := by decide +kernel
theorem dX7_isWithin_5 : decode cX7_isWithin 5 = .ok (.iload_n 0, 1) := by decide +kernel
theorem dX7_isWithin_6 : decode cX7_isWithin 6 = .ok (.iload_n 2, 1) := by decide +kernel
theorem dX7_isWithin_7 : decode cX7_isWithin 7 = .ok (.if_icmp .gt 7, 3) := by decide +kernel
theorem dX7_isWithin_10 : decode cX7_isWithin 10 = .ok (.iconst 1, 1) := by decide +kernel
theorem dX7_isWithin_11 : decode cX7_isWithin 11 = .ok (.goto 4, 3) := by decide +kernel
theorem dX7_isWithin_14 : decode cX7_isWithin 14 = .ok (.iconst 0, 1) := by decide +kernel
theorem dX7_isWithin_15 : decode cX7_isWithin 15 = .ok (.ireturn, 1) := by decide +kernel
theorem dX7_isGrower_0 : decode cX7_isGrower 0 = .ok (.iload_n 0, 1) := by decide +kernel
theorem dX7_isGrower_1 : decode cX7_isGrower 1 = .ok (.iconst 0, 1) := by decide +kernel
theorem dX7_isGrower_2 : decode cX7_isGrower 2 = .ok (.iconst 5, 1) := by decide +kernel
theorem dX7_isGrower_3 : decode cX7_isGrower 3 = .ok (.invokestatic 100, 3) := by decide +kernel
theorem dX7_isGrower_6 : decode cX7_isGrower 6 = .ok (.ireturn, 1) := by decide +kernel
theorem dX7_copyRow_0 : decode cX7_copyRow 0 = .ok (.aload_n 0, 1) := by decide +kernel
theorem dX7_copyRow_1 : decode cX7_copyRow 1 = .ok (.iconst 0, 1) := by decide +kernel
theorem dX7_copyRow_2 : decode cX7_copyRow 2 = .ok (.aload_n 1, 1) := by decide +kernel
theorem dX7_copyRow_3 : decode cX7_copyRow 3 = .ok (.iconst 0, 1) := by decide +kernel
theorem dX7_copyRow_4 : decode cX7_copyRow 4 = .ok (.iload_n 2, 1) := by decide +kernel
theorem dX7_copyRow_5 : decode cX7_copyRow 5 = .ok (.aload_n 0, 1) := by decide +kernel
theorem dX7_copyRow_6 : decode cX7_copyRow 6 = .ok (.arraylength, 1) := by decide +kernel
theorem dX7_copyRow_7 : decode cX7_copyRow 7 = .ok (.aload_n 1, 1) := by decide +kernel
theorem dX7_copyRow_8 : decode cX7_copyRow 8 = .ok (.arraylength, 1) := by decide +kernel
theorem dX7_copyRow_9 : decode cX7_copyRow 9 = .ok (.invokestatic 195, 3) := by decide +kernel
theorem dX7_copyRow_12 : decode cX7_copyRow 12 = .ok (.invokestatic 195, 3) := by decide +kernel
theorem dX7_copyRow_15 : decode cX7_copyRow 15 = .ok (.invokestatic 200, 3) := by decide +kernel
theorem dX7_copyRow_18 : decode cX7_copyRow 18 = .ok (.return_, 1) := by decide +kernel
theorem dX7_sumOf_0 : decode cX7_sumOf 0 = .ok (.iconst 0, 1) := by decide +kernel
theorem dX7_sumOf_1 : decode cX7_sumOf 1 = .ok (.istore_n 1, 1) := by decide +kernel
theorem dX7_sumOf_2 : decode cX7_sumOf 2 = .ok (.aload_n 0, 1) := by decide +kernel
theorem dX7_sumOf_3 : decode cX7_sumOf 3 = .ok (.astore_n 2, 1) := by decide +kernel
theorem dX7_sumOf_4 : decode cX7_sumOf 4 = .ok (.aload_n 2, 1) := by decide +kernel
theorem dX7_sumOf_5 : decode cX7_sumOf 5 = .ok (.arraylength, 1) := by decide +kernel
theorem dX7_sumOf_6 : decode cX7_sumOf 6 = .ok (.istore_n 3, 1) := by decide +kernel
theorem dX7_sumOf_7 : decode cX7_sumOf 7 = .ok (.iconst 0, 1) := by decide +kernel
theorem dX7_sumOf_8 : decode cX7_sumOf 8 = .ok (.istore 4, 2) := by decide +kernel
theorem dX7_sumOf_10 : decode cX7_sumOf 10 = .ok (.iload 4, 2) := by decide +kernel
theorem dX7_sumOf_12 : decode cX7_sumOf 12 = .ok (.iload_n 3, 1) := by decide +kernel
theorem dX7_sumOf_13 : decode cX7_sumOf 13 = .ok (.if_icmp .ge 20, 3) := by decide +kernel
theorem dX7_sumOf_16 : decode cX7_sumOf 16 = .ok (.aload_n 2, 1) := by decide +kernel
theorem dX7_sumOf_17 : decode cX7_sumOf 17 = .ok (.iload 4, 2) := by decide +kernel
theorem dX7_sumOf_19 : decode cX7_sumOf 19 = .ok (.iaload, 1) := by decide +kernel
theorem dX7_sumOf_20 : decode cX7_sumOf 20 = .ok (.istore 5, 2) := by decide +kernel
theorem dX7_sumOf_22 : decode cX7_sumOf 22 = .ok (.iload_n 1, 1) := by decide +kernel
theorem dX7_sumOf_23 : decode cX7_sumOf 23 = .ok (.iload 5, 2) := by decide +kernel
theorem dX7_sumOf_25 : decode cX7_sumOf 25 = .ok (.iadd, 1) := by decide +kernel
theorem dX7_sumOf_26 : decode cX7_sumOf 26 = .ok (.istore_n 1, 1) := by decide +kernel
theorem dX7_sumOf_27 : decode cX7_sumOf 27 = .ok (.iinc 4 1, 3) := by decide +kernel
theorem dX7_sumOf_30 : decode cX7_sumOf 30 = .ok (.goto (-20), 3) := by decide +kernel
theorem dX7_sumOf_33 : decode cX7_sumOf 33 = .ok (.iload_n 1, 1) := by decide +kernel
theorem dX7_sumOf_34 : decode cX7_sumOf 34 = .ok (.ireturn, 1) := by decide +kernel
theorem dJ9_max_7cf53_0 : decode cJ9_max_7cf53 0 = .ok (.iload_n 0, 1) := by decide +kernel
theorem dJ9_max_7cf53_1 : decode cJ9_max_7cf53 1 = .ok (.iload_n 1, 1) := by decide +kernel
theorem dJ9_max_7cf53_2 : decode cJ9_max_7cf53 2 = .ok (.if_icmp .lt 7, 3) := by decide +kernel
theorem dJ9_max_7cf53_5 : decode cJ9_max_7cf53 5 = .ok (.iload_n 0, 1) := by decide +kernel
theorem dJ9_max_7cf53_6 : decode cJ9_max_7cf53 6 = .ok (.goto 4, 3) := by decide +kernel
theorem dJ9_max_7cf53_9 : decode cJ9_max_7cf53 9 = .ok (.iload_n 1, 1) := by decide +kernel
theorem dJ9_max_7cf53_10 : decode cJ9_max_7cf53 10 = .ok (.ireturn, 1) := by decide +kernel
theorem dJ9_min_7cf53_0 : decode cJ9_min_7cf53 0 = .ok (.iload_n 0, 1) := by decide +kernel
theorem dJ9_min_7cf53_1 : decode cJ9_min_7cf53 1 = .ok (.iload_n 1, 1) := by decide +kernel
theorem dJ9_min_7cf53_2 : decode cJ9_min_7cf53 2 = .ok (.if_icmp .gt 7, 3) := by decide +kernel
theorem dJ9_min_7cf53_5 : decode cJ9_min_7cf53 5 = .ok (.iload_n 0, 1) := by decide +kernel
theorem dJ9_min_7cf53_6 : decode cJ9_min_7cf53 6 = .ok (.goto 4, 3) := by decide +kernel
theorem dJ9_min_7cf53_9 : decode cJ9_min_7cf53 9 = .ok (.iload_n 1, 1) := by decide +kernel
theorem dJ9_min_7cf53_10 : decode cJ9_min_7cf53 10 = .ok (.ireturn, 1) := by decide +kernel
theorem dL_low_0 : decode cL_low 0 = .ok (.iload_n 0, 1) := by decide +kernel
theorem dL_low_1 : decode cL_low 1 = .ok (.ldc 7, 2) := by decide +kernel
theorem dL_low_3 : decode cL_low 3 = .ok (.iand, 1) := by decide +kernel
theorem dL_low_4 : decode cL_low 4 = .ok (.iload_n 1, 1) := by decide +kernel
theorem dL_low_5 : decode cL_low 5 = .ok (.irem, 1) := by decide +kernel
theorem dL_low_6 : decode cL_low 6 = .ok (.ireturn, 1) := by decide +kernel
theorem dL_cell_0 : decode cL_cell 0 = .ok (.iload_n 1, 1) := by decide +kernel
theorem dL_cell_1 : decode cL_cell 1 = .ok (.aload_n 0, 1) := by decide +kernel
theorem dL_cell_2 : decode cL_cell 2 = .ok (.arraylength, 1) := by decide +kernel
theorem dL_cell_3 : decode cL_cell 3 = .ok (.if_icmp .ge 9, 3) := by decide +kernel
theorem dL_cell_6 : decode cL_cell 6 = .ok (.aload_n 0, 1) := by decide +kernel
theorem dL_cell_7 : decode cL_cell 7 = .ok (.iload_n 1, 1) := by decide +kernel
theorem dL_cell_8 : decode cL_cell 8 = .ok (.iaload, 1) := by decide +kernel
theorem dL_cell_9 : decode cL_cell 9 = .ok (.goto 11, 3) := by decide +kernel
theorem dL_cell_12 : decode cL_cell 12 = .ok (.ldc 8, 2) := by decide +kernel
theorem dL_cell_14 : decode cL_cell 14 = .ok (.iload_n 1, 1) := by decide +kernel
theorem dL_cell_15 : decode cL_cell 15 = .ok (.imul, 1) := by decide +kernel
theorem dL_cell_16 : decode cL_cell 16 = .ok (.sipush 977, 3) := by decide +kernel
theorem dL_cell_19 : decode cL_cell 19 = .ok (.iadd, 1) := by decide +kernel
theorem dL_cell_20 : decode cL_cell 20 = .ok (.ireturn, 1) := by decide +kernel
theorem dL_tonnes_0 : decode cL_tonnes 0 = .ok (.iconst 0, 1) := by decide +kernel
theorem dL_tonnes_1 : decode cL_tonnes 1 = .ok (.istore_n 1, 1) := by decide +kernel
theorem dL_tonnes_2 : decode cL_tonnes 2 = .ok (.iconst 0, 1) := by decide +kernel
theorem dL_tonnes_3 : decode cL_tonnes 3 = .ok (.istore_n 2, 1) := by decide +kernel
theorem dL_tonnes_4 : decode cL_tonnes 4 = .ok (.iconst 0, 1) := by decide +kernel
theorem dL_tonnes_5 : decode cL_tonnes 5 = .ok (.istore_n 3, 1) := by decide +kernel
theorem dL_tonnes_6 : decode cL_tonnes 6 = .ok (.aload_n 0, 1) := by decide +kernel
theorem dL_tonnes_7 : decode cL_tonnes 7 = .ok (.iconst 1, 1) := by decide +kernel
theorem dL_tonnes_8 : decode cL_tonnes 8 = .ok (.invokevirtual 9, 3) := by decide +kernel
theorem dL_tonnes_11 : decode cL_tonnes 11 = .ok (.bipush 30, 2) := by decide +kernel
theorem dL_tonnes_13 : decode cL_tonnes 13 = .ok (.if_icmp .gt 18, 3) := by decide +kernel
theorem dL_tonnes_16 : decode cL_tonnes 16 = .ok (.aload_n 0, 1) := by decide +kernel
theorem dL_tonnes_17 : decode cL_tonnes 17 = .ok (.iconst 0, 1) := by decide +kernel
theorem dL_tonnes_18 : decode cL_tonnes 18 = .ok (.invokevirtual 9, 3) := by decide +kernel
theorem dL_tonnes_21 : decode cL_tonnes 21 = .ok (.sipush 1000, 3) := by decide +kernel
theorem dL_tonnes_24 : decode cL_tonnes 24 = .ok (.if_icmp .gt 7, 3) := by decide +kernel
theorem dL_tonnes_27 : decode cL_tonnes 27 = .ok (.iconst 1, 1) := by decide +kernel
theorem dL_tonnes_28 : decode cL_tonnes 28 = .ok (.goto 4, 3) := by decide +kernel
theorem dL_tonnes_31 : decode cL_tonnes 31 = .ok (.iconst 0, 1) := by decide +kernel
theorem dL_tonnes_32 : decode cL_tonnes 32 = .ok (.istore 4, 2) := by decide +kernel
theorem dL_tonnes_34 : decode cL_tonnes 34 = .ok (.iconst 0, 1) := by decide +kernel
theorem dL_tonnes_35 : decode cL_tonnes 35 = .ok (.istore 5, 2) := by decide +kernel
theorem dL_tonnes_37 : decode cL_tonnes 37 = .ok (.iload 5, 2) := by decide +kernel
theorem dL_tonnes_39 : decode cL_tonnes 39 = .ok (.aload_n 0, 1) := by decide +kernel
theorem dL_tonnes_40 : decode cL_tonnes 40 = .ok (.iconst 1, 1) := by decide +kernel
theorem dL_tonnes_41 : decode cL_tonnes 41 = .ok (.invokevirtual 9, 3) := by decide +kernel
theorem dL_tonnes_44 : decode cL_tonnes 44 = .ok (.if_icmp .ge 232, 3) := by decide +kernel
theorem dL_tonnes_47 : decode cL_tonnes 47 = .ok (.iload 4, 2) := by decide +kernel
theorem dL_tonnes_49 : decode cL_tonnes 49 = .ok (.ifCond .eq 227, 3) := by decide +kernel
theorem dL_tonnes_52 : decode cL_tonnes 52 = .ok (.aload_n 0, 1) := by decide +kernel
theorem dL_tonnes_53 : decode cL_tonnes 53 = .ok (.iload 5, 2) := by decide +kernel
theorem dL_tonnes_55 : decode cL_tonnes 55 = .ok (.iconst 4, 1) := by decide +kernel
theorem dL_tonnes_56 : decode cL_tonnes 56 = .ok (.invokevirtual 15, 3) := by decide +kernel
theorem dL_tonnes_59 : decode cL_tonnes 59 = .ok (.istore 6, 2) := by decide +kernel
theorem dL_tonnes_61 : decode cL_tonnes 61 = .ok (.aload_n 0, 1) := by decide +kernel
theorem dL_tonnes_62 : decode cL_tonnes 62 = .ok (.iload 5, 2) := by decide +kernel
theorem dL_tonnes_64 : decode cL_tonnes 64 = .ok (.iconst 5, 1) := by decide +kernel
theorem dL_tonnes_65 : decode cL_tonnes 65 = .ok (.invokevirtual 15, 3) := by decide +kernel
theorem dL_tonnes_68 : decode cL_tonnes 68 = .ok (.istore 7, 2) := by decide +kernel
theorem dL_tonnes_70 : decode cL_tonnes 70 = .ok (.aload_n 0, 1) := by decide +kernel
theorem dL_tonnes_71 : decode cL_tonnes 71 = .ok (.iload 5, 2) := by decide +kernel
theorem dL_tonnes_73 : decode cL_tonnes 73 = .ok (.iconst 1, 1) := by decide +kernel
theorem dL_tonnes_74 : decode cL_tonnes 74 = .ok (.invokevirtual 15, 3) := by decide +kernel
theorem dL_tonnes_77 : decode cL_tonnes 77 = .ok (.iload 7, 2) := by decide +kernel
theorem dL_tonnes_79 : decode cL_tonnes 79 = .ok (.aload_n 0, 1) := by decide +kernel
theorem dL_tonnes_80 : decode cL_tonnes 80 = .ok (.iload 5, 2) := by decide +kernel
theorem dL_tonnes_82 : decode cL_tonnes 82 = .ok (.bipush 6, 2) := by decide +kernel
theorem dL_tonnes_84 : decode cL_tonnes 84 = .ok (.invokevirtual 15, 3) := by decide +kernel
theorem dL_tonnes_87 : decode cL_tonnes 87 = .ok (.iadd, 1) := by decide +kernel
theorem dL_tonnes_88 : decode cL_tonnes 88 = .ok (.aload_n 0, 1) := by decide +kernel
theorem dL_tonnes_89 : decode cL_tonnes 89 = .ok (.iload 5, 2) := by decide +kernel
theorem dL_tonnes_91 : decode cL_tonnes 91 = .ok (.bipush 7, 2) := by decide +kernel
theorem dL_tonnes_93 : decode cL_tonnes 93 = .ok (.invokevirtual 15, 3) := by decide +kernel
theorem dL_tonnes_96 : decode cL_tonnes 96 = .ok (.iadd, 1) := by decide +kernel
theorem dL_tonnes_97 : decode cL_tonnes 97 = .ok (.aload_n 0, 1) := by decide +kernel
theorem dL_tonnes_98 : decode cL_tonnes 98 = .ok (.iload 5, 2) := by decide +kernel
theorem dL_tonnes_100 : decode cL_tonnes 100 = .ok (.bipush 8, 2) := by decide +kernel
theorem dL_tonnes_102 : decode cL_tonnes 102 = .ok (.invokevirtual 15, 3) := by decide +kernel
theorem dL_tonnes_105 : decode cL_tonnes 105 = .ok (.iadd, 1) := by decide +kernel
theorem dL_tonnes_106 : decode cL_tonnes 106 = .ok (.if_icmp .ne 128, 3) := by decide +kernel
theorem dL_tonnes_109 : decode cL_tonnes 109 = .ok (.iload 7, 2) := by decide +kernel
theorem dL_tonnes_111 : decode cL_tonnes 111 = .ok (.ifCond .lt 123, 3) := by decide +kernel
theorem dL_tonnes_114 : decode cL_tonnes 114 = .ok (.aload_n 0, 1) := by decide +kernel
theorem dL_tonnes_115 : decode cL_tonnes 115 = .ok (.iload 5, 2) := by decide +kernel
theorem dL_tonnes_117 : decode cL_tonnes 117 = .ok (.bipush 6, 2) := by decide +kernel
theorem dL_tonnes_119 : decode cL_tonnes 119 = .ok (.invokevirtual 15, 3) := by decide +kernel
theorem dL_tonnes_122 : decode cL_tonnes 122 = .ok (.ifCond .lt 112, 3) := by decide +kernel
theorem dL_tonnes_125 : decode cL_tonnes 125 = .ok (.aload_n 0, 1) := by decide +kernel
theorem dL_tonnes_126 : decode cL_tonnes 126 = .ok (.iload 5, 2) := by decide +kernel
theorem dL_tonnes_128 : decode cL_tonnes 128 = .ok (.bipush 9, 2) := by decide +kernel
theorem dL_tonnes_130 : decode cL_tonnes 130 = .ok (.invokevirtual 15, 3) := by decide +kernel
theorem dL_tonnes_133 : decode cL_tonnes 133 = .ok (.ifCond .lt 101, 3) := by decide +kernel
theorem dL_tonnes_136 : decode cL_tonnes 136 = .ok (.aload_n 0, 1) := by decide +kernel
theorem dL_tonnes_137 : decode cL_tonnes 137 = .ok (.iload 5, 2) := by decide +kernel
theorem dL_tonnes_139 : decode cL_tonnes 139 = .ok (.bipush 9, 2) := by decide +kernel
theorem dL_tonnes_141 : decode cL_tonnes 141 = .ok (.invokevirtual 15, 3) := by decide +kernel
theorem dL_tonnes_144 : decode cL_tonnes 144 = .ok (.aload_n 0, 1) := by decide +kernel
theorem dL_tonnes_145 : decode cL_tonnes 145 = .ok (.iload 5, 2) := by decide +kernel
theorem dL_tonnes_147 : decode cL_tonnes 147 = .ok (.iconst 2, 1) := by decide +kernel
theorem dL_tonnes_148 : decode cL_tonnes 148 = .ok (.invokevirtual 15, 3) := by decide +kernel
theorem dL_tonnes_151 : decode cL_tonnes 151 = .ok (.if_icmp .gt 83, 3) := by decide +kernel
theorem dL_tonnes_154 : decode cL_tonnes 154 = .ok (.iload 6, 2) := by decide +kernel
theorem dL_tonnes_156 : decode cL_tonnes 156 = .ok (.ifCond .gt 33, 3) := by decide +kernel
theorem dL_tonnes_159 : decode cL_tonnes 159 = .ok (.iload 7, 2) := by decide +kernel
theorem dL_tonnes_161 : decode cL_tonnes 161 = .ok (.aload_n 0, 1) := by decide +kernel
theorem dL_tonnes_162 : decode cL_tonnes 162 = .ok (.iload 5, 2) := by decide +kernel
theorem dL_tonnes_164 : decode cL_tonnes 164 = .ok (.iconst 1, 1) := by decide +kernel
theorem dL_tonnes_165 : decode cL_tonnes 165 = .ok (.invokevirtual 15, 3) := by decide +kernel
theorem dL_tonnes_168 : decode cL_tonnes 168 = .ok (.if_icmp .ne 66, 3) := by decide +kernel
theorem dL_tonnes_171 : decode cL_tonnes 171 = .ok (.aload_n 0, 1) := by decide +kernel
theorem dL_tonnes_172 : decode cL_tonnes 172 = .ok (.iload 5, 2) := by decide +kernel
theorem dL_tonnes_174 : decode cL_tonnes 174 = .ok (.bipush 9, 2) := by decide +kernel
theorem dL_tonnes_176 : decode cL_tonnes 176 = .ok (.invokevirtual 15, 3) := by decide +kernel
theorem dL_tonnes_179 : decode cL_tonnes 179 = .ok (.aload_n 0, 1) := by decide +kernel
theorem dL_tonnes_180 : decode cL_tonnes 180 = .ok (.iload 5, 2) := by decide +kernel
theorem dL_tonnes_182 : decode cL_tonnes 182 = .ok (.iconst 2, 1) := by decide +kernel
theorem dL_tonnes_183 : decode cL_tonnes 183 = .ok (.invokevirtual 15, 3) := by decide +kernel
theorem dL_tonnes_186 : decode cL_tonnes 186 = .ok (.if_icmp .ne 48, 3) := by decide +kernel
theorem dL_tonnes_189 : decode cL_tonnes 189 = .ok (.iload 6, 2) := by decide +kernel
theorem dL_tonnes_191 : decode cL_tonnes 191 = .ok (.iconst 2, 1) := by decide +kernel
theorem dL_tonnes_192 : decode cL_tonnes 192 = .ok (.if_icmp .lt 8, 3) := by decide +kernel
theorem dL_tonnes_195 : decode cL_tonnes 195 = .ok (.iload 7, 2) := by decide +kernel
theorem dL_tonnes_197 : decode cL_tonnes 197 = .ok (.ifCond .ne 37, 3) := by decide +kernel
theorem dL_tonnes_200 : decode cL_tonnes 200 = .ok (.iload 6, 2) := by decide +kernel
theorem dL_tonnes_202 : decode cL_tonnes 202 = .ok (.iconst 3, 1) := by decide +kernel
theorem dL_tonnes_203 : decode cL_tonnes 203 = .ok (.if_icmp .ne 7, 3) := by decide +kernel
theorem dL_tonnes_206 : decode cL_tonnes 206 = .ok (.iconst 1, 1) := by decide +kernel
theorem dL_tonnes_207 : decode cL_tonnes 207 = .ok (.goto 4, 3) := by decide +kernel
theorem dL_tonnes_210 : decode cL_tonnes 210 = .ok (.iconst 0, 1) := by decide +kernel
theorem dL_tonnes_211 : decode cL_tonnes 211 = .ok (.aload_n 0, 1) := by decide +kernel
theorem dL_tonnes_212 : decode cL_tonnes 212 = .ok (.iload 5, 2) := by decide +kernel
theorem dL_tonnes_214 : decode cL_tonnes 214 = .ok (.bipush 8, 2) := by decide +kernel
theorem dL_tonnes_216 : decode cL_tonnes 216 = .ok (.invokevirtual 15, 3) := by decide +kernel
theorem dL_tonnes_219 : decode cL_tonnes 219 = .ok (.ifCond .le 7, 3) := by decide +kernel
theorem dL_tonnes_222 : decode cL_tonnes 222 = .ok (.iconst 1, 1) := by decide +kernel
theorem dL_tonnes_223 : decode cL_tonnes 223 = .ok (.goto 4, 3) := by decide +kernel
theorem dL_tonnes_226 : decode cL_tonnes 226 = .ok (.iconst 0, 1) := by decide +kernel
theorem dL_tonnes_227 : decode cL_tonnes 227 = .ok (.if_icmp .ne 7, 3) := by decide +kernel
theorem dL_tonnes_230 : decode cL_tonnes 230 = .ok (.iconst 1, 1) := by decide +kernel
theorem dL_tonnes_231 : decode cL_tonnes 231 = .ok (.goto 4, 3) := by decide +kernel
theorem dL_tonnes_234 : decode cL_tonnes 234 = .ok (.iconst 0, 1) := by decide +kernel
theorem dL_tonnes_235 : decode cL_tonnes 235 = .ok (.istore 4, 2) := by decide +kernel
theorem dL_tonnes_237 : decode cL_tonnes 237 = .ok (.iload_n 1, 1) := by decide +kernel
theorem dL_tonnes_238 : decode cL_tonnes 238 = .ok (.aload_n 0, 1) := by decide +kernel
theorem dL_tonnes_239 : decode cL_tonnes 239 = .ok (.iload 5, 2) := by decide +kernel
theorem dL_tonnes_241 : decode cL_tonnes 241 = .ok (.bipush 6, 2) := by decide +kernel
theorem dL_tonnes_243 : decode cL_tonnes 243 = .ok (.invokevirtual 15, 3) := by decide +kernel
theorem dL_tonnes_246 : decode cL_tonnes 246 = .ok (.iadd, 1) := by decide +kernel
theorem dL_tonnes_247 : decode cL_tonnes 247 = .ok (.istore_n 1, 1) := by decide +kernel
theorem dL_tonnes_248 : decode cL_tonnes 248 = .ok (.iload_n 2, 1) := by decide +kernel
theorem dL_tonnes_249 : decode cL_tonnes 249 = .ok (.aload_n 0, 1) := by decide +kernel
theorem dL_tonnes_250 : decode cL_tonnes 250 = .ok (.iload 5, 2) := by decide +kernel
theorem dL_tonnes_252 : decode cL_tonnes 252 = .ok (.bipush 7, 2) := by decide +kernel
theorem dL_tonnes_254 : decode cL_tonnes 254 = .ok (.invokevirtual 15, 3) := by decide +kernel
theorem dL_tonnes_257 : decode cL_tonnes 257 = .ok (.iadd, 1) := by decide +kernel
theorem dL_tonnes_258 : decode cL_tonnes 258 = .ok (.istore_n 2, 1) := by decide +kernel
theorem dL_tonnes_259 : decode cL_tonnes 259 = .ok (.iload_n 3, 1) := by decide +kernel
theorem dL_tonnes_260 : decode cL_tonnes 260 = .ok (.aload_n 0, 1) := by decide +kernel
theorem dL_tonnes_261 : decode cL_tonnes 261 = .ok (.iload 5, 2) := by decide +kernel
theorem dL_tonnes_263 : decode cL_tonnes 263 = .ok (.bipush 8, 2) := by decide +kernel
theorem dL_tonnes_265 : decode cL_tonnes 265 = .ok (.invokevirtual 15, 3) := by decide +kernel
theorem dL_tonnes_268 : decode cL_tonnes 268 = .ok (.iadd, 1) := by decide +kernel
theorem dL_tonnes_269 : decode cL_tonnes 269 = .ok (.istore_n 3, 1) := by decide +kernel
theorem dL_tonnes_270 : decode cL_tonnes 270 = .ok (.iinc 5 1, 3) := by decide +kernel
theorem dL_tonnes_273 : decode cL_tonnes 273 = .ok (.goto (-236), 3) := by decide +kernel
theorem dL_tonnes_276 : decode cL_tonnes 276 = .ok (.iconst 0, 1) := by decide +kernel
theorem dL_tonnes_277 : decode cL_tonnes 277 = .ok (.istore 5, 2) := by decide +kernel
theorem dL_tonnes_279 : decode cL_tonnes 279 = .ok (.iconst 0, 1) := by decide +kernel
theorem dL_tonnes_280 : decode cL_tonnes 280 = .ok (.istore 6, 2) := by decide +kernel
theorem dL_tonnes_282 : decode cL_tonnes 282 = .ok (.iload 6, 2) := by decide +kernel
theorem dL_tonnes_284 : decode cL_tonnes 284 = .ok (.aload_n 0, 1) := by decide +kernel
theorem dL_tonnes_285 : decode cL_tonnes 285 = .ok (.iconst 4, 1) := by decide +kernel
theorem dL_tonnes_286 : decode cL_tonnes 286 = .ok (.invokevirtual 9, 3) := by decide +kernel
theorem dL_tonnes_289 : decode cL_tonnes 289 = .ok (.if_icmp .ge 109, 3) := by decide +kernel
theorem dL_tonnes_292 : decode cL_tonnes 292 = .ok (.iload 4, 2) := by decide +kernel
theorem dL_tonnes_294 : decode cL_tonnes 294 = .ok (.ifCond .eq 104, 3) := by decide +kernel
theorem dL_tonnes_297 : decode cL_tonnes 297 = .ok (.aload_n 0, 1) := by decide +kernel
theorem dL_tonnes_298 : decode cL_tonnes 298 = .ok (.iload 6, 2) := by decide +kernel
theorem dL_tonnes_300 : decode cL_tonnes 300 = .ok (.iconst 1, 1) := by decide +kernel
theorem dL_tonnes_301 : decode cL_tonnes 301 = .ok (.invokevirtual 19, 3) := by decide +kernel
theorem dL_tonnes_304 : decode cL_tonnes 304 = .ok (.ifCond .le 73, 3) := by decide +kernel
theorem dL_tonnes_307 : decode cL_tonnes 307 = .ok (.aload_n 0, 1) := by decide +kernel
theorem dL_tonnes_308 : decode cL_tonnes 308 = .ok (.iload 6, 2) := by decide +kernel
theorem dL_tonnes_310 : decode cL_tonnes 310 = .ok (.iconst 1, 1) := by decide +kernel
theorem dL_tonnes_311 : decode cL_tonnes 311 = .ok (.invokevirtual 19, 3) := by decide +kernel
theorem dL_tonnes_314 : decode cL_tonnes 314 = .ok (.bipush 30, 2) := by decide +kernel
theorem dL_tonnes_316 : decode cL_tonnes 316 = .ok (.if_icmp .gt 61, 3) := by decide +kernel
theorem dL_tonnes_319 : decode cL_tonnes 319 = .ok (.aload_n 0, 1) := by decide +kernel
theorem dL_tonnes_320 : decode cL_tonnes 320 = .ok (.iload 6, 2) := by decide +kernel
theorem dL_tonnes_322 : decode cL_tonnes 322 = .ok (.iconst 2, 1) := by decide +kernel
theorem dL_tonnes_323 : decode cL_tonnes 323 = .ok (.invokevirtual 19, 3) := by decide +kernel
theorem dL_tonnes_326 : decode cL_tonnes 326 = .ok (.aload_n 0, 1) := by decide +kernel
theorem dL_tonnes_327 : decode cL_tonnes 327 = .ok (.iconst 0, 1) := by decide +kernel
theorem dL_tonnes_328 : decode cL_tonnes 328 = .ok (.invokevirtual 9, 3) := by decide +kernel
theorem dL_tonnes_331 : decode cL_tonnes 331 = .ok (.if_icmp .ge 46, 3) := by decide +kernel
theorem dL_tonnes_334 : decode cL_tonnes 334 = .ok (.iload 6, 2) := by decide +kernel
theorem dL_tonnes_336 : decode cL_tonnes 336 = .ok (.ifCond .eq 22, 3) := by decide +kernel
theorem dL_tonnes_339 : decode cL_tonnes 339 = .ok (.aload_n 0, 1) := by decide +kernel
theorem dL_tonnes_340 : decode cL_tonnes 340 = .ok (.iload 6, 2) := by decide +kernel
theorem dL_tonnes_342 : decode cL_tonnes 342 = .ok (.iconst 2, 1) := by decide +kernel
theorem dL_tonnes_343 : decode cL_tonnes 343 = .ok (.invokevirtual 19, 3) := by decide +kernel
theorem dL_tonnes_346 : decode cL_tonnes 346 = .ok (.aload_n 0, 1) := by decide +kernel
theorem dL_tonnes_347 : decode cL_tonnes 347 = .ok (.iload 6, 2) := by decide +kernel
theorem dL_tonnes_349 : decode cL_tonnes 349 = .ok (.iconst 1, 1) := by decide +kernel
theorem dL_tonnes_350 : decode cL_tonnes 350 = .ok (.isub, 1) := by decide +kernel
theorem dL_tonnes_351 : decode cL_tonnes 351 = .ok (.iconst 2, 1) := by decide +kernel
theorem dL_tonnes_352 : decode cL_tonnes 352 = .ok (.invokevirtual 19, 3) := by decide +kernel
theorem dL_tonnes_355 : decode cL_tonnes 355 = .ok (.if_icmp .lt 22, 3) := by decide +kernel
theorem dL_tonnes_358 : decode cL_tonnes 358 = .ok (.aload_n 0, 1) := by decide +kernel
theorem dL_tonnes_359 : decode cL_tonnes 359 = .ok (.iload 6, 2) := by decide +kernel
theorem dL_tonnes_361 : decode cL_tonnes 361 = .ok (.iconst 0, 1) := by decide +kernel
theorem dL_tonnes_362 : decode cL_tonnes 362 = .ok (.invokevirtual 19, 3) := by decide +kernel
theorem dL_tonnes_365 : decode cL_tonnes 365 = .ok (.aload_n 0, 1) := by decide +kernel
theorem dL_tonnes_366 : decode cL_tonnes 366 = .ok (.iconst 1, 1) := by decide +kernel
theorem dL_tonnes_367 : decode cL_tonnes 367 = .ok (.invokevirtual 9, 3) := by decide +kernel
theorem dL_tonnes_370 : decode cL_tonnes 370 = .ok (.if_icmp .ge 7, 3) := by decide +kernel
theorem dL_tonnes_373 : decode cL_tonnes 373 = .ok (.iconst 1, 1) := by decide +kernel
theorem dL_tonnes_374 : decode cL_tonnes 374 = .ok (.goto 4, 3) := by decide +kernel
theorem dL_tonnes_377 : decode cL_tonnes 377 = .ok (.iconst 0, 1) := by decide +kernel
theorem dL_tonnes_378 : decode cL_tonnes 378 = .ok (.istore 4, 2) := by decide +kernel
theorem dL_tonnes_380 : decode cL_tonnes 380 = .ok (.iload 5, 2) := by decide +kernel
theorem dL_tonnes_382 : decode cL_tonnes 382 = .ok (.aload_n 0, 1) := by decide +kernel
theorem dL_tonnes_383 : decode cL_tonnes 383 = .ok (.iload 6, 2) := by decide +kernel
theorem dL_tonnes_385 : decode cL_tonnes 385 = .ok (.iconst 1, 1) := by decide +kernel
theorem dL_tonnes_386 : decode cL_tonnes 386 = .ok (.invokevirtual 19, 3) := by decide +kernel
theorem dL_tonnes_389 : decode cL_tonnes 389 = .ok (.iadd, 1) := by decide +kernel
theorem dL_tonnes_390 : decode cL_tonnes 390 = .ok (.istore 5, 2) := by decide +kernel
theorem dL_tonnes_392 : decode cL_tonnes 392 = .ok (.iinc 6 1, 3) := by decide +kernel
theorem dL_tonnes_395 : decode cL_tonnes 395 = .ok (.goto (-113), 3) := by decide +kernel
theorem dL_tonnes_398 : decode cL_tonnes 398 = .ok (.iload 4, 2) := by decide +kernel
theorem dL_tonnes_400 : decode cL_tonnes 400 = .ok (.ifCond .eq 62, 3) := by decide +kernel
theorem dL_tonnes_403 : decode cL_tonnes 403 = .ok (.iload_n 1, 1) := by decide +kernel
theorem dL_tonnes_404 : decode cL_tonnes 404 = .ok (.aload_n 0, 1) := by decide +kernel
theorem dL_tonnes_405 : decode cL_tonnes 405 = .ok (.iconst 3, 1) := by decide +kernel
theorem dL_tonnes_406 : decode cL_tonnes 406 = .ok (.invokevirtual 9, 3) := by decide +kernel
theorem dL_tonnes_409 : decode cL_tonnes 409 = .ok (.if_icmp .ne 53, 3) := by decide +kernel
theorem dL_tonnes_412 : decode cL_tonnes 412 = .ok (.iload 5, 2) := by decide +kernel
theorem dL_tonnes_414 : decode cL_tonnes 414 = .ok (.iload_n 1, 1) := by decide +kernel
theorem dL_tonnes_415 : decode cL_tonnes 415 = .ok (.if_icmp .ne 47, 3) := by decide +kernel
theorem dL_tonnes_418 : decode cL_tonnes 418 = .ok (.iload_n 2, 1) := by decide +kernel
theorem dL_tonnes_419 : decode cL_tonnes 419 = .ok (.aload_n 0, 1) := by decide +kernel
theorem dL_tonnes_420 : decode cL_tonnes 420 = .ok (.iconst 5, 1) := by decide +kernel
theorem dL_tonnes_421 : decode cL_tonnes 421 = .ok (.invokevirtual 9, 3) := by decide +kernel
theorem dL_tonnes_424 : decode cL_tonnes 424 = .ok (.if_icmp .ne 38, 3) := by decide +kernel
theorem dL_tonnes_427 : decode cL_tonnes 427 = .ok (.iload_n 3, 1) := by decide +kernel
theorem dL_tonnes_428 : decode cL_tonnes 428 = .ok (.aload_n 0, 1) := by decide +kernel
theorem dL_tonnes_429 : decode cL_tonnes 429 = .ok (.bipush 7, 2) := by decide +kernel
theorem dL_tonnes_431 : decode cL_tonnes 431 = .ok (.invokevirtual 9, 3) := by decide +kernel
theorem dL_tonnes_434 : decode cL_tonnes 434 = .ok (.if_icmp .ne 28, 3) := by decide +kernel
theorem dL_tonnes_437 : decode cL_tonnes 437 = .ok (.aload_n 0, 1) := by decide +kernel
theorem dL_tonnes_438 : decode cL_tonnes 438 = .ok (.aload_n 0, 1) := by decide +kernel
theorem dL_tonnes_439 : decode cL_tonnes 439 = .ok (.iconst 4, 1) := by decide +kernel
theorem dL_tonnes_440 : decode cL_tonnes 440 = .ok (.invokevirtual 9, 3) := by decide +kernel
theorem dL_tonnes_443 : decode cL_tonnes 443 = .ok (.iconst 0, 1) := by decide +kernel
theorem dL_tonnes_444 : decode cL_tonnes 444 = .ok (.invokevirtual 19, 3) := by decide +kernel
theorem dL_tonnes_447 : decode cL_tonnes 447 = .ok (.iconst (-1), 1) := by decide +kernel
theorem dL_tonnes_448 : decode cL_tonnes 448 = .ok (.if_icmp .ne 14, 3) := by decide +kernel
theorem dL_tonnes_451 : decode cL_tonnes 451 = .ok (.iload_n 1, 1) := by decide +kernel
theorem dL_tonnes_452 : decode cL_tonnes 452 = .ok (.sipush 400, 3) := by decide +kernel
theorem dL_tonnes_455 : decode cL_tonnes 455 = .ok (.if_icmp .gt 7, 3) := by decide +kernel
theorem dL_tonnes_458 : decode cL_tonnes 458 = .ok (.iconst 1, 1) := by decide +kernel
theorem dL_tonnes_459 : decode cL_tonnes 459 = .ok (.goto 4, 3) := by decide +kernel
theorem dL_tonnes_462 : decode cL_tonnes 462 = .ok (.iconst 0, 1) := by decide +kernel
theorem dL_tonnes_463 : decode cL_tonnes 463 = .ok (.istore 4, 2) := by decide +kernel
theorem dL_tonnes_465 : decode cL_tonnes 465 = .ok (.iconst 0, 1) := by decide +kernel
theorem dL_tonnes_466 : decode cL_tonnes 466 = .ok (.istore 6, 2) := by decide +kernel
theorem dL_tonnes_468 : decode cL_tonnes 468 = .ok (.iconst 0, 1) := by decide +kernel
theorem dL_tonnes_469 : decode cL_tonnes 469 = .ok (.istore 7, 2) := by decide +kernel
theorem dL_tonnes_471 : decode cL_tonnes 471 = .ok (.iload 7, 2) := by decide +kernel
theorem dL_tonnes_473 : decode cL_tonnes 473 = .ok (.bipush 6, 2) := by decide +kernel
theorem dL_tonnes_475 : decode cL_tonnes 475 = .ok (.if_icmp .ge 206, 3) := by decide +kernel
theorem dL_tonnes_478 : decode cL_tonnes 478 = .ok (.iload 4, 2) := by decide +kernel
theorem dL_tonnes_480 : decode cL_tonnes 480 = .ok (.ifCond .eq 201, 3) := by decide +kernel
theorem dL_tonnes_483 : decode cL_tonnes 483 = .ok (.iconst 0, 1) := by decide +kernel
theorem dL_tonnes_484 : decode cL_tonnes 484 = .ok (.istore 8, 2) := by decide +kernel
theorem dL_tonnes_486 : decode cL_tonnes 486 = .ok (.iconst 0, 1) := by decide +kernel
theorem dL_tonnes_487 : decode cL_tonnes 487 = .ok (.istore 9, 2) := by decide +kernel
theorem dL_tonnes_489 : decode cL_tonnes 489 = .ok (.iconst 0, 1) := by decide +kernel
theorem dL_tonnes_490 : decode cL_tonnes 490 = .ok (.istore 10, 2) := by decide +kernel
theorem dL_tonnes_492 : decode cL_tonnes 492 = .ok (.iload 10, 2) := by decide +kernel
theorem dL_tonnes_494 : decode cL_tonnes 494 = .ok (.aload_n 0, 1) := by decide +kernel
theorem dL_tonnes_495 : decode cL_tonnes 495 = .ok (.iconst 1, 1) := by decide +kernel
theorem dL_tonnes_496 : decode cL_tonnes 496 = .ok (.invokevirtual 9, 3) := by decide +kernel
theorem dL_tonnes_499 : decode cL_tonnes 499 = .ok (.if_icmp .ge 82, 3) := by decide +kernel
theorem dL_tonnes_502 : decode cL_tonnes 502 = .ok (.aload_n 0, 1) := by decide +kernel
theorem dL_tonnes_503 : decode cL_tonnes 503 = .ok (.iload 10, 2) := by decide +kernel
theorem dL_tonnes_505 : decode cL_tonnes 505 = .ok (.iconst 0, 1) := by decide +kernel
theorem dL_tonnes_506 : decode cL_tonnes 506 = .ok (.invokevirtual 15, 3) := by decide +kernel
theorem dL_tonnes_509 : decode cL_tonnes 509 = .ok (.iload 7, 2) := by decide +kernel
theorem dL_tonnes_511 : decode cL_tonnes 511 = .ok (.if_icmp .ne 7, 3) := by decide +kernel
theorem dL_tonnes_514 : decode cL_tonnes 514 = .ok (.iconst 1, 1) := by decide +kernel
theorem dL_tonnes_515 : decode cL_tonnes 515 = .ok (.goto 4, 3) := by decide +kernel
theorem dL_tonnes_518 : decode cL_tonnes 518 = .ok (.iconst 0, 1) := by decide +kernel
theorem dL_tonnes_519 : decode cL_tonnes 519 = .ok (.istore 11, 2) := by decide +kernel
theorem dL_tonnes_521 : decode cL_tonnes 521 = .ok (.iload 8, 2) := by decide +kernel
theorem dL_tonnes_523 : decode cL_tonnes 523 = .ok (.iload 11, 2) := by decide +kernel
theorem dL_tonnes_525 : decode cL_tonnes 525 = .ok (.ifCond .eq 24, 3) := by decide +kernel
theorem dL_tonnes_528 : decode cL_tonnes 528 = .ok (.aload_n 0, 1) := by decide +kernel
theorem dL_tonnes_529 : decode cL_tonnes 529 = .ok (.iload 10, 2) := by decide +kernel
theorem dL_tonnes_531 : decode cL_tonnes 531 = .ok (.iconst 4, 1) := by decide +kernel
theorem dL_tonnes_532 : decode cL_tonnes 532 = .ok (.invokevirtual 15, 3) := by decide +kernel
theorem dL_tonnes_535 : decode cL_tonnes 535 = .ok (.iconst 1, 1) := by decide +kernel
theorem dL_tonnes_536 : decode cL_tonnes 536 = .ok (.if_icmp .ne 13, 3) := by decide +kernel
theorem dL_tonnes_539 : decode cL_tonnes 539 = .ok (.aload_n 0, 1) := by decide +kernel
theorem dL_tonnes_540 : decode cL_tonnes 540 = .ok (.iload 10, 2) := by decide +kernel
theorem dL_tonnes_542 : decode cL_tonnes 542 = .ok (.iconst 5, 1) := by decide +kernel
theorem dL_tonnes_543 : decode cL_tonnes 543 = .ok (.invokevirtual 15, 3) := by decide +kernel
theorem dL_tonnes_546 : decode cL_tonnes 546 = .ok (.goto 4, 3) := by decide +kernel
theorem dL_tonnes_549 : decode cL_tonnes 549 = .ok (.iconst 0, 1) := by decide +kernel
theorem dL_tonnes_550 : decode cL_tonnes 550 = .ok (.iadd, 1) := by decide +kernel
theorem dL_tonnes_551 : decode cL_tonnes 551 = .ok (.istore 8, 2) := by decide +kernel
theorem dL_tonnes_553 : decode cL_tonnes 553 = .ok (.iload 9, 2) := by decide +kernel
theorem dL_tonnes_555 : decode cL_tonnes 555 = .ok (.iload 11, 2) := by decide +kernel
theorem dL_tonnes_557 : decode cL_tonnes 557 = .ok (.ifCond .eq 14, 3) := by decide +kernel
theorem dL_tonnes_560 : decode cL_tonnes 560 = .ok (.aload_n 0, 1) := by decide +kernel
theorem dL_tonnes_561 : decode cL_tonnes 561 = .ok (.iload 10, 2) := by decide +kernel
theorem dL_tonnes_563 : decode cL_tonnes 563 = .ok (.bipush 6, 2) := by decide +kernel
theorem dL_tonnes_565 : decode cL_tonnes 565 = .ok (.invokevirtual 15, 3) := by decide +kernel
theorem dL_tonnes_568 : decode cL_tonnes 568 = .ok (.goto 4, 3) := by decide +kernel
theorem dL_tonnes_571 : decode cL_tonnes 571 = .ok (.iconst 0, 1) := by decide +kernel
theorem dL_tonnes_572 : decode cL_tonnes 572 = .ok (.iadd, 1) := by decide +kernel
theorem dL_tonnes_573 : decode cL_tonnes 573 = .ok (.istore 9, 2) := by decide +kernel
theorem dL_tonnes_575 : decode cL_tonnes 575 = .ok (.iinc 10 1, 3) := by decide +kernel
theorem dL_tonnes_578 : decode cL_tonnes 578 = .ok (.goto (-86), 3) := by decide +kernel
theorem dL_tonnes_581 : decode cL_tonnes 581 = .ok (.aload_n 0, 1) := by decide +kernel
theorem dL_tonnes_582 : decode cL_tonnes 582 = .ok (.iload 7, 2) := by decide +kernel
theorem dL_tonnes_584 : decode cL_tonnes 584 = .ok (.iconst 5, 1) := by decide +kernel
theorem dL_tonnes_585 : decode cL_tonnes 585 = .ok (.invokevirtual 22, 3) := by decide +kernel
theorem dL_tonnes_588 : decode cL_tonnes 588 = .ok (.iload 8, 2) := by decide +kernel
theorem dL_tonnes_590 : decode cL_tonnes 590 = .ok (.if_icmp .ne 50, 3) := by decide +kernel
theorem dL_tonnes_593 : decode cL_tonnes 593 = .ok (.aload_n 0, 1) := by decide +kernel
theorem dL_tonnes_594 : decode cL_tonnes 594 = .ok (.iload 7, 2) := by decide +kernel
theorem dL_tonnes_596 : decode cL_tonnes 596 = .ok (.iconst 1, 1) := by decide +kernel
theorem dL_tonnes_597 : decode cL_tonnes 597 = .ok (.invokevirtual 22, 3) := by decide +kernel
theorem dL_tonnes_600 : decode cL_tonnes 600 = .ok (.aload_n 0, 1) := by decide +kernel
theorem dL_tonnes_601 : decode cL_tonnes 601 = .ok (.iload 7, 2) := by decide +kernel
theorem dL_tonnes_603 : decode cL_tonnes 603 = .ok (.iconst 2, 1) := by decide +kernel
theorem dL_tonnes_604 : decode cL_tonnes 604 = .ok (.invokevirtual 22, 3) := by decide +kernel
theorem dL_tonnes_607 : decode cL_tonnes 607 = .ok (.iload 9, 2) := by decide +kernel
theorem dL_tonnes_609 : decode cL_tonnes 609 = .ok (.iadd, 1) := by decide +kernel
theorem dL_tonnes_610 : decode cL_tonnes 610 = .ok (.if_icmp .ne 30, 3) := by decide +kernel
theorem dL_tonnes_613 : decode cL_tonnes 613 = .ok (.aload_n 0, 1) := by decide +kernel
theorem dL_tonnes_614 : decode cL_tonnes 614 = .ok (.iload 7, 2) := by decide +kernel
theorem dL_tonnes_616 : decode cL_tonnes 616 = .ok (.iconst 0, 1) := by decide +kernel
theorem dL_tonnes_617 : decode cL_tonnes 617 = .ok (.invokevirtual 22, 3) := by decide +kernel
theorem dL_tonnes_620 : decode cL_tonnes 620 = .ok (.ifCond .lt 20, 3) := by decide +kernel
theorem dL_tonnes_623 : decode cL_tonnes 623 = .ok (.aload_n 0, 1) := by decide +kernel
theorem dL_tonnes_624 : decode cL_tonnes 624 = .ok (.iload 7, 2) := by decide +kernel
theorem dL_tonnes_626 : decode cL_tonnes 626 = .ok (.iconst 0, 1) := by decide +kernel
theorem dL_tonnes_627 : decode cL_tonnes 627 = .ok (.invokevirtual 22, 3) := by decide +kernel
theorem dL_tonnes_630 : decode cL_tonnes 630 = .ok (.sipush 9999, 3) := by decide +kernel
theorem dL_tonnes_633 : decode cL_tonnes 633 = .ok (.if_icmp .gt 7, 3) := by decide +kernel
theorem dL_tonnes_636 : decode cL_tonnes 636 = .ok (.iconst 1, 1) := by decide +kernel
theorem dL_tonnes_637 : decode cL_tonnes 637 = .ok (.goto 4, 3) := by decide +kernel
theorem dL_tonnes_640 : decode cL_tonnes 640 = .ok (.iconst 0, 1) := by decide +kernel
theorem dL_tonnes_641 : decode cL_tonnes 641 = .ok (.istore 4, 2) := by decide +kernel
theorem dL_tonnes_643 : decode cL_tonnes 643 = .ok (.iload 6, 2) := by decide +kernel
theorem dL_tonnes_645 : decode cL_tonnes 645 = .ok (.aload_n 0, 1) := by decide +kernel
theorem dL_tonnes_646 : decode cL_tonnes 646 = .ok (.iload 7, 2) := by decide +kernel
theorem dL_tonnes_648 : decode cL_tonnes 648 = .ok (.iconst 4, 1) := by decide +kernel
theorem dL_tonnes_649 : decode cL_tonnes 649 = .ok (.invokevirtual 22, 3) := by decide +kernel
theorem dL_tonnes_652 : decode cL_tonnes 652 = .ok (.iadd, 1) := by decide +kernel
theorem dL_tonnes_653 : decode cL_tonnes 653 = .ok (.istore 6, 2) := by decide +kernel
theorem dL_tonnes_655 : decode cL_tonnes 655 = .ok (.iload_n 2, 1) := by decide +kernel
theorem dL_tonnes_656 : decode cL_tonnes 656 = .ok (.aload_n 0, 1) := by decide +kernel
theorem dL_tonnes_657 : decode cL_tonnes 657 = .ok (.iload 7, 2) := by decide +kernel
theorem dL_tonnes_659 : decode cL_tonnes 659 = .ok (.iconst 2, 1) := by decide +kernel
theorem dL_tonnes_660 : decode cL_tonnes 660 = .ok (.invokevirtual 22, 3) := by decide +kernel
theorem dL_tonnes_663 : decode cL_tonnes 663 = .ok (.isub, 1) := by decide +kernel
theorem dL_tonnes_664 : decode cL_tonnes 664 = .ok (.istore_n 2, 1) := by decide +kernel
theorem dL_tonnes_665 : decode cL_tonnes 665 = .ok (.iload_n 3, 1) := by decide +kernel
theorem dL_tonnes_666 : decode cL_tonnes 666 = .ok (.aload_n 0, 1) := by decide +kernel
theorem dL_tonnes_667 : decode cL_tonnes 667 = .ok (.iload 7, 2) := by decide +kernel
theorem dL_tonnes_669 : decode cL_tonnes 669 = .ok (.iconst 3, 1) := by decide +kernel
theorem dL_tonnes_670 : decode cL_tonnes 670 = .ok (.invokevirtual 22, 3) := by decide +kernel
theorem dL_tonnes_673 : decode cL_tonnes 673 = .ok (.isub, 1) := by decide +kernel
theorem dL_tonnes_674 : decode cL_tonnes 674 = .ok (.istore_n 3, 1) := by decide +kernel
theorem dL_tonnes_675 : decode cL_tonnes 675 = .ok (.iinc 7 1, 3) := by decide +kernel
theorem dL_tonnes_678 : decode cL_tonnes 678 = .ok (.goto (-207), 3) := by decide +kernel
theorem dL_tonnes_681 : decode cL_tonnes 681 = .ok (.iload 4, 2) := by decide +kernel
theorem dL_tonnes_683 : decode cL_tonnes 683 = .ok (.ifCond .eq 40, 3) := by decide +kernel
theorem dL_tonnes_686 : decode cL_tonnes 686 = .ok (.iload 6, 2) := by decide +kernel
theorem dL_tonnes_688 : decode cL_tonnes 688 = .ok (.aload_n 0, 1) := by decide +kernel
theorem dL_tonnes_689 : decode cL_tonnes 689 = .ok (.bipush 8, 2) := by decide +kernel
theorem dL_tonnes_691 : decode cL_tonnes 691 = .ok (.invokevirtual 9, 3) := by decide +kernel
theorem dL_tonnes_694 : decode cL_tonnes 694 = .ok (.if_icmp .ne 29, 3) := by decide +kernel
theorem dL_tonnes_697 : decode cL_tonnes 697 = .ok (.iload_n 2, 1) := by decide +kernel
theorem dL_tonnes_698 : decode cL_tonnes 698 = .ok (.ifCond .ne 25, 3) := by decide +kernel
theorem dL_tonnes_701 : decode cL_tonnes 701 = .ok (.iload_n 3, 1) := by decide +kernel
theorem dL_tonnes_702 : decode cL_tonnes 702 = .ok (.ifCond .ne 21, 3) := by decide +kernel
theorem dL_tonnes_705 : decode cL_tonnes 705 = .ok (.aload_n 0, 1) := by decide +kernel
theorem dL_tonnes_706 : decode cL_tonnes 706 = .ok (.bipush 6, 2) := by decide +kernel
theorem dL_tonnes_708 : decode cL_tonnes 708 = .ok (.invokevirtual 9, 3) := by decide +kernel
theorem dL_tonnes_711 : decode cL_tonnes 711 = .ok (.aload_n 0, 1) := by decide +kernel
theorem dL_tonnes_712 : decode cL_tonnes 712 = .ok (.iconst 5, 1) := by decide +kernel
theorem dL_tonnes_713 : decode cL_tonnes 713 = .ok (.invokevirtual 9, 3) := by decide +kernel
theorem dL_tonnes_716 : decode cL_tonnes 716 = .ok (.if_icmp .gt 7, 3) := by decide +kernel
theorem dL_tonnes_719 : decode cL_tonnes 719 = .ok (.iconst 1, 1) := by decide +kernel
theorem dL_tonnes_720 : decode cL_tonnes 720 = .ok (.goto 4, 3) := by decide +kernel
theorem dL_tonnes_723 : decode cL_tonnes 723 = .ok (.iconst 0, 1) := by decide +kernel
theorem dL_tonnes_724 : decode cL_tonnes 724 = .ok (.ireturn, 1) := by decide +kernel
theorem dL_looks_0 : decode cL_looks 0 = .ok (.lconst 0, 1) := by decide +kernel
theorem dL_looks_1 : decode cL_looks 1 = .ok (.lstore_n 1, 1) := by decide +kernel
theorem dL_looks_2 : decode cL_looks 2 = .ok (.iconst 1, 1) := by decide +kernel
theorem dL_looks_3 : decode cL_looks 3 = .ok (.istore_n 3, 1) := by decide +kernel
theorem dL_looks_4 : decode cL_looks 4 = .ok (.iconst 0, 1) := by decide +kernel
theorem dL_looks_5 : decode cL_looks 5 = .ok (.istore 4, 2) := by decide +kernel
theorem dL_looks_7 : decode cL_looks 7 = .ok (.iload 4, 2) := by decide +kernel
theorem dL_looks_9 : decode cL_looks 9 = .ok (.iconst 4, 1) := by decide +kernel
theorem dL_looks_10 : decode cL_looks 10 = .ok (.if_icmp .ge 41, 3) := by decide +kernel
theorem dL_looks_13 : decode cL_looks 13 = .ok (.iload_n 3, 1) := by decide +kernel
theorem dL_looks_14 : decode cL_looks 14 = .ok (.ifCond .eq 37, 3) := by decide +kernel
theorem dL_looks_17 : decode cL_looks 17 = .ok (.lload_n 1, 1) := by decide +kernel
theorem dL_looks_18 : decode cL_looks 18 = .ok (.aload_n 0, 1) := by decide +kernel
theorem dL_looks_19 : decode cL_looks 19 = .ok (.iload 4, 2) := by decide +kernel
theorem dL_looks_21 : decode cL_looks 21 = .ok (.invokevirtual 25, 3) := by decide +kernel
theorem dL_looks_24 : decode cL_looks 24 = .ok (.land, 1) := by decide +kernel
theorem dL_looks_25 : decode cL_looks 25 = .ok (.lconst 0, 1) := by decide +kernel
theorem dL_looks_26 : decode cL_looks 26 = .ok (.lcmp, 1) := by decide +kernel
theorem dL_looks_27 : decode cL_looks 27 = .ok (.ifCond .ne 7, 3) := by decide +kernel
theorem dL_looks_30 : decode cL_looks 30 = .ok (.iconst 1, 1) := by decide +kernel
theorem dL_looks_31 : decode cL_looks 31 = .ok (.goto 4, 3) := by decide +kernel
theorem dL_looks_34 : decode cL_looks 34 = .ok (.iconst 0, 1) := by decide +kernel
theorem dL_looks_35 : decode cL_looks 35 = .ok (.istore_n 3, 1) := by decide +kernel
theorem dL_looks_36 : decode cL_looks 36 = .ok (.lload_n 1, 1) := by decide +kernel
theorem dL_looks_37 : decode cL_looks 37 = .ok (.aload_n 0, 1) := by decide +kernel
theorem dL_looks_38 : decode cL_looks 38 = .ok (.iload 4, 2) := by decide +kernel
theorem dL_looks_40 : decode cL_looks 40 = .ok (.invokevirtual 25, 3) := by decide +kernel
theorem dL_looks_43 : decode cL_looks 43 = .ok (.lor, 1) := by decide +kernel
theorem dL_looks_44 : decode cL_looks 44 = .ok (.lstore_n 1, 1) := by decide +kernel
theorem dL_looks_45 : decode cL_looks 45 = .ok (.iinc 4 1, 3) := by decide +kernel
theorem dL_looks_48 : decode cL_looks 48 = .ok (.goto (-41), 3) := by decide +kernel
theorem dL_looks_51 : decode cL_looks 51 = .ok (.aload_n 0, 1) := by decide +kernel
theorem dL_looks_52 : decode cL_looks 52 = .ok (.invokevirtual 29, 3) := by decide +kernel
theorem dL_looks_55 : decode cL_looks 55 = .ok (.istore 4, 2) := by decide +kernel
theorem dL_looks_57 : decode cL_looks 57 = .ok (.iload_n 3, 1) := by decide +kernel
theorem dL_looks_58 : decode cL_looks 58 = .ok (.ifCond .eq 68, 3) := by decide +kernel
theorem dL_looks_61 : decode cL_looks 61 = .ok (.lload_n 1, 1) := by decide +kernel
theorem dL_looks_62 : decode cL_looks 62 = .ok (.lconst 1, 1) := by decide +kernel
theorem dL_looks_63 : decode cL_looks 63 = .ok (.aload_n 0, 1) := by decide +kernel
theorem dL_looks_64 : decode cL_looks 64 = .ok (.iconst 1, 1) := by decide +kernel
theorem dL_looks_65 : decode cL_looks 65 = .ok (.invokevirtual 9, 3) := by decide +kernel
theorem dL_looks_68 : decode cL_looks 68 = .ok (.lshl, 1) := by decide +kernel
theorem dL_looks_69 : decode cL_looks 69 = .ok (.lconst 1, 1) := by decide +kernel
theorem dL_looks_70 : decode cL_looks 70 = .ok (.lsub, 1) := by decide +kernel
theorem dL_looks_71 : decode cL_looks 71 = .ok (.lcmp, 1) := by decide +kernel
theorem dL_looks_72 : decode cL_looks 72 = .ok (.ifCond .ne 54, 3) := by decide +kernel
theorem dL_looks_75 : decode cL_looks 75 = .ok (.iload 4, 2) := by decide +kernel
theorem dL_looks_77 : decode cL_looks 77 = .ok (.bipush (-6), 2) := by decide +kernel
theorem dL_looks_79 : decode cL_looks 79 = .ok (.if_icmp .eq 43, 3) := by decide +kernel
theorem dL_looks_82 : decode cL_looks 82 = .ok (.aload_n 0, 1) := by decide +kernel
theorem dL_looks_83 : decode cL_looks 83 = .ok (.iload 4, 2) := by decide +kernel
theorem dL_looks_85 : decode cL_looks 85 = .ok (.iconst 4, 1) := by decide +kernel
theorem dL_looks_86 : decode cL_looks 86 = .ok (.invokevirtual 15, 3) := by decide +kernel
theorem dL_looks_89 : decode cL_looks 89 = .ok (.iconst 1, 1) := by decide +kernel
theorem dL_looks_90 : decode cL_looks 90 = .ok (.if_icmp .ne 36, 3) := by decide +kernel
theorem dL_looks_93 : decode cL_looks 93 = .ok (.aload_n 0, 1) := by decide +kernel
theorem dL_looks_94 : decode cL_looks 94 = .ok (.aload_n 0, 1) := by decide +kernel
theorem dL_looks_95 : decode cL_looks 95 = .ok (.iload 4, 2) := by decide +kernel
theorem dL_looks_97 : decode cL_looks 97 = .ok (.iconst 0, 1) := by decide +kernel
theorem dL_looks_98 : decode cL_looks 98 = .ok (.invokevirtual 15, 3) := by decide +kernel
theorem dL_looks_101 : decode cL_looks 101 = .ok (.iconst 0, 1) := by decide +kernel
theorem dL_looks_102 : decode cL_looks 102 = .ok (.invokevirtual 22, 3) := by decide +kernel
theorem dL_looks_105 : decode cL_looks 105 = .ok (.ifCond .le 21, 3) := by decide +kernel
theorem dL_looks_108 : decode cL_looks 108 = .ok (.aload_n 0, 1) := by decide +kernel
theorem dL_looks_109 : decode cL_looks 109 = .ok (.iconst 3, 1) := by decide +kernel
theorem dL_looks_110 : decode cL_looks 110 = .ok (.invokevirtual 9, 3) := by decide +kernel
theorem dL_looks_113 : decode cL_looks 113 = .ok (.aload_n 0, 1) := by decide +kernel
theorem dL_looks_114 : decode cL_looks 114 = .ok (.bipush 14, 2) := by decide +kernel
theorem dL_looks_116 : decode cL_looks 116 = .ok (.invokevirtual 9, 3) := by decide +kernel
theorem dL_looks_119 : decode cL_looks 119 = .ok (.if_icmp .ge 7, 3) := by decide +kernel
theorem dL_looks_122 : decode cL_looks 122 = .ok (.iconst 1, 1) := by decide +kernel
theorem dL_looks_123 : decode cL_looks 123 = .ok (.goto 4, 3) := by decide +kernel
theorem dL_looks_126 : decode cL_looks 126 = .ok (.iconst 0, 1) := by decide +kernel
theorem dL_looks_127 : decode cL_looks 127 = .ok (.istore_n 3, 1) := by decide +kernel
theorem dL_looks_128 : decode cL_looks 128 = .ok (.iload_n 3, 1) := by decide +kernel
theorem dL_looks_129 : decode cL_looks 129 = .ok (.ifCond .eq 59, 3) := by decide +kernel
theorem dL_looks_132 : decode cL_looks 132 = .ok (.aload_n 0, 1) := by decide +kernel
theorem dL_looks_133 : decode cL_looks 133 = .ok (.iconst 3, 1) := by decide +kernel
theorem dL_looks_134 : decode cL_looks 134 = .ok (.iconst 0, 1) := by decide +kernel
theorem dL_looks_135 : decode cL_looks 135 = .ok (.invokevirtual 33, 3) := by decide +kernel
theorem dL_looks_138 : decode cL_looks 138 = .ok (.ifCond .lt 50, 3) := by decide +kernel
theorem dL_looks_141 : decode cL_looks 141 = .ok (.aload_n 0, 1) := by decide +kernel
theorem dL_looks_142 : decode cL_looks 142 = .ok (.iconst 3, 1) := by decide +kernel
theorem dL_looks_143 : decode cL_looks 143 = .ok (.iconst 1, 1) := by decide +kernel
theorem dL_looks_144 : decode cL_looks 144 = .ok (.invokevirtual 33, 3) := by decide +kernel
theorem dL_looks_147 : decode cL_looks 147 = .ok (.iconst 3, 1) := by decide +kernel
theorem dL_looks_148 : decode cL_looks 148 = .ok (.aload_n 0, 1) := by decide +kernel
theorem dL_looks_149 : decode cL_looks 149 = .ok (.bipush 13, 2) := by decide +kernel
theorem dL_looks_151 : decode cL_looks 151 = .ok (.invokevirtual 9, 3) := by decide +kernel
theorem dL_looks_154 : decode cL_looks 154 = .ok (.imul, 1) := by decide +kernel
theorem dL_looks_155 : decode cL_looks 155 = .ok (.if_icmp .gt 33, 3) := by decide +kernel
theorem dL_looks_158 : decode cL_looks 158 = .ok (.aload_n 0, 1) := by decide +kernel
theorem dL_looks_159 : decode cL_looks 159 = .ok (.iconst 4, 1) := by decide +kernel
theorem dL_looks_160 : decode cL_looks 160 = .ok (.iconst 2, 1) := by decide +kernel
theorem dL_looks_161 : decode cL_looks 161 = .ok (.invokevirtual 33, 3) := by decide +kernel
theorem dL_looks_164 : decode cL_looks 164 = .ok (.aload_n 0, 1) := by decide +kernel
theorem dL_looks_165 : decode cL_looks 165 = .ok (.iconst 3, 1) := by decide +kernel
theorem dL_looks_166 : decode cL_looks 166 = .ok (.iconst 2, 1) := by decide +kernel
theorem dL_looks_167 : decode cL_looks 167 = .ok (.invokevirtual 33, 3) := by decide +kernel
theorem dL_looks_170 : decode cL_looks 170 = .ok (.if_icmp .lt 18, 3) := by decide +kernel
theorem dL_looks_173 : decode cL_looks 173 = .ok (.aload_n 0, 1) := by decide +kernel
theorem dL_looks_174 : decode cL_looks 174 = .ok (.iconst 3, 1) := by decide +kernel
theorem dL_looks_175 : decode cL_looks 175 = .ok (.iconst 0, 1) := by decide +kernel
theorem dL_looks_176 : decode cL_looks 176 = .ok (.invokevirtual 36, 3) := by decide +kernel
theorem dL_looks_179 : decode cL_looks 179 = .ok (.ldc 39, 2) := by decide +kernel
theorem dL_looks_181 : decode cL_looks 181 = .ok (.if_icmp .ne 7, 3) := by decide +kernel
theorem dL_looks_184 : decode cL_looks 184 = .ok (.iconst 1, 1) := by decide +kernel
theorem dL_looks_185 : decode cL_looks 185 = .ok (.goto 4, 3) := by decide +kernel
theorem dL_looks_188 : decode cL_looks 188 = .ok (.iconst 0, 1) := by decide +kernel
theorem dL_looks_189 : decode cL_looks 189 = .ok (.ireturn, 1) := by decide +kernel
theorem dL_act_0 : decode cL_act 0 = .ok (.aload_n 1, 1) := by decide +kernel
theorem dL_act_1 : decode cL_act 1 = .ok (.iload_n 2, 1) := by decide +kernel
theorem dL_act_2 : decode cL_act 2 = .ok (.iconst 1, 1) := by decide +kernel
theorem dL_act_3 : decode cL_act 3 = .ok (.iadd, 1) := by decide +kernel
theorem dL_act_4 : decode cL_act 4 = .ok (.invokestatic 40, 3) := by decide +kernel
theorem dL_act_7 : decode cL_act 7 = .ok (.istore_n 3, 1) := by decide +kernel
theorem dL_act_8 : decode cL_act 8 = .ok (.aload_n 1, 1) := by decide +kernel
theorem dL_act_9 : decode cL_act 9 = .ok (.iload_n 2, 1) := by decide +kernel
theorem dL_act_10 : decode cL_act 10 = .ok (.iconst 2, 1) := by decide +kernel
theorem dL_act_11 : decode cL_act 11 = .ok (.iadd, 1) := by decide +kernel
theorem dL_act_12 : decode cL_act 12 = .ok (.invokestatic 40, 3) := by decide +kernel
theorem dL_act_15 : decode cL_act 15 = .ok (.istore 4, 2) := by decide +kernel
theorem dL_act_17 : decode cL_act 17 = .ok (.aload_n 1, 1) := by decide +kernel
theorem dL_act_18 : decode cL_act 18 = .ok (.iload_n 2, 1) := by decide +kernel
theorem dL_act_19 : decode cL_act 19 = .ok (.iconst 3, 1) := by decide +kernel
theorem dL_act_20 : decode cL_act 20 = .ok (.iadd, 1) := by decide +kernel
theorem dL_act_21 : decode cL_act 21 = .ok (.invokestatic 40, 3) := by decide +kernel
theorem dL_act_24 : decode cL_act 24 = .ok (.istore 5, 2) := by decide +kernel
theorem dL_act_26 : decode cL_act 26 = .ok (.aload_n 0, 1) := by decide +kernel
theorem dL_act_27 : decode cL_act 27 = .ok (.iconst 0, 1) := by decide +kernel
theorem dL_act_28 : decode cL_act 28 = .ok (.invokevirtual 9, 3) := by decide +kernel
theorem dL_act_31 : decode cL_act 31 = .ok (.istore 6, 2) := by decide +kernel
theorem dL_act_33 : decode cL_act 33 = .ok (.aload_n 1, 1) := by decide +kernel
theorem dL_act_34 : decode cL_act 34 = .ok (.iload_n 2, 1) := by decide +kernel
theorem dL_act_35 : decode cL_act 35 = .ok (.invokestatic 40, 3) := by decide +kernel
theorem dL_act_38 : decode cL_act 38 = .ok (.bipush 18, 2) := by decide +kernel
theorem dL_act_40 : decode cL_act 40 = .ok (.invokestatic 46, 3) := by decide +kernel
theorem dL_act_43 : decode cL_act 43 = .ok (.tableswitch 276 0 14 #[73, 73, 73, 73, 73, 110, 129, 154, 177, 187, 200, 221, 235, 256, 271], 73) := by decide +kernel
theorem dL_act_116 : decode cL_act 116 = .ok (.aload_n 0, 1) := by decide +kernel
theorem dL_act_117 : decode cL_act 117 = .ok (.iload_n 3, 1) := by decide +kernel
theorem dL_act_118 : decode cL_act 118 = .ok (.bipush 6, 2) := by decide +kernel
theorem dL_act_120 : decode cL_act 120 = .ok (.invokestatic 46, 3) := by decide +kernel
theorem dL_act_123 : decode cL_act 123 = .ok (.iconst 1, 1) := by decide +kernel
theorem dL_act_124 : decode cL_act 124 = .ok (.iload 4, 2) := by decide +kernel
theorem dL_act_126 : decode cL_act 126 = .ok (.bipush 90, 2) := by decide +kernel
theorem dL_act_128 : decode cL_act 128 = .ok (.invokestatic 46, 3) := by decide +kernel
theorem dL_act_131 : decode cL_act 131 = .ok (.iadd, 1) := by decide +kernel
theorem dL_act_132 : decode cL_act 132 = .ok (.iconst 1, 1) := by decide +kernel
theorem dL_act_133 : decode cL_act 133 = .ok (.iload 5, 2) := by decide +kernel
theorem dL_act_135 : decode cL_act 135 = .ok (.bipush 100, 2) := by decide +kernel
theorem dL_act_137 : decode cL_act 137 = .ok (.invokestatic 46, 3) := by decide +kernel
theorem dL_act_140 : decode cL_act 140 = .ok (.iadd, 1) := by decide +kernel
theorem dL_act_141 : decode cL_act 141 = .ok (.iload 6, 2) := by decide +kernel
theorem dL_act_143 : decode cL_act 143 = .ok (.iload_n 3, 1) := by decide +kernel
theorem dL_act_144 : decode cL_act 144 = .ok (.iconst 5, 1) := by decide +kernel
theorem dL_act_145 : decode cL_act 145 = .ok (.invokestatic 46, 3) := by decide +kernel
theorem dL_act_148 : decode cL_act 148 = .ok (.iadd, 1) := by decide +kernel
theorem dL_act_149 : decode cL_act 149 = .ok (.invokevirtual 49, 3) := by decide +kernel
theorem dL_act_152 : decode cL_act 152 = .ok (.ireturn, 1) := by decide +kernel
theorem dL_act_153 : decode cL_act 153 = .ok (.aload_n 0, 1) := by decide +kernel
theorem dL_act_154 : decode cL_act 154 = .ok (.iload_n 3, 1) := by decide +kernel
theorem dL_act_155 : decode cL_act 155 = .ok (.bipush 6, 2) := by decide +kernel
theorem dL_act_157 : decode cL_act 157 = .ok (.invokestatic 46, 3) := by decide +kernel
theorem dL_act_160 : decode cL_act 160 = .ok (.iload 4, 2) := by decide +kernel
theorem dL_act_162 : decode cL_act 162 = .ok (.sipush 300, 3) := by decide +kernel
theorem dL_act_165 : decode cL_act 165 = .ok (.invokestatic 46, 3) := by decide +kernel
theorem dL_act_168 : decode cL_act 168 = .ok (.invokevirtual 53, 3) := by decide +kernel
theorem dL_act_171 : decode cL_act 171 = .ok (.ireturn, 1) := by decide +kernel
theorem dL_act_172 : decode cL_act 172 = .ok (.aload_n 0, 1) := by decide +kernel
theorem dL_act_173 : decode cL_act 173 = .ok (.iload_n 3, 1) := by decide +kernel
theorem dL_act_174 : decode cL_act 174 = .ok (.bipush 6, 2) := by decide +kernel
theorem dL_act_176 : decode cL_act 176 = .ok (.invokestatic 46, 3) := by decide +kernel
theorem dL_act_179 : decode cL_act 179 = .ok (.iload 4, 2) := by decide +kernel
theorem dL_act_181 : decode cL_act 181 = .ok (.bipush 6, 2) := by decide +kernel
theorem dL_act_183 : decode cL_act 183 = .ok (.invokestatic 46, 3) := by decide +kernel
theorem dL_act_186 : decode cL_act 186 = .ok (.iload 5, 2) := by decide +kernel
theorem dL_act_188 : decode cL_act 188 = .ok (.bipush 60, 2) := by decide +kernel
theorem dL_act_190 : decode cL_act 190 = .ok (.invokestatic 46, 3) := by decide +kernel
theorem dL_act_193 : decode cL_act 193 = .ok (.invokevirtual 56, 3) := by decide +kernel
theorem dL_act_196 : decode cL_act 196 = .ok (.ireturn, 1) := by decide +kernel
theorem dL_act_197 : decode cL_act 197 = .ok (.aload_n 0, 1) := by decide +kernel
theorem dL_act_198 : decode cL_act 198 = .ok (.iload 6, 2) := by decide +kernel
theorem dL_act_200 : decode cL_act 200 = .ok (.iload_n 3, 1) := by decide +kernel
theorem dL_act_201 : decode cL_act 201 = .ok (.iconst 4, 1) := by decide +kernel
theorem dL_act_202 : decode cL_act 202 = .ok (.invokestatic 46, 3) := by decide +kernel
theorem dL_act_205 : decode cL_act 205 = .ok (.iadd, 1) := by decide +kernel
theorem dL_act_206 : decode cL_act 206 = .ok (.iload 6, 2) := by decide +kernel
theorem dL_act_208 : decode cL_act 208 = .ok (.iload 4, 2) := by decide +kernel
theorem dL_act_210 : decode cL_act 210 = .ok (.bipush 6, 2) := by decide +kernel
theorem dL_act_212 : decode cL_act 212 = .ok (.invokestatic 46, 3) := by decide +kernel
theorem dL_act_215 : decode cL_act 215 = .ok (.iadd, 1) := by decide +kernel
theorem dL_act_216 : decode cL_act 216 = .ok (.invokevirtual 60, 3) := by decide +kernel
theorem dL_act_219 : decode cL_act 219 = .ok (.ireturn, 1) := by decide +kernel
theorem dL_act_220 : decode cL_act 220 = .ok (.aload_n 0, 1) := by decide +kernel
theorem dL_act_221 : decode cL_act 221 = .ok (.iload_n 3, 1) := by decide +kernel
theorem dL_act_222 : decode cL_act 222 = .ok (.iconst 3, 1) := by decide +kernel
theorem dL_act_223 : decode cL_act 223 = .ok (.invokestatic 46, 3) := by decide +kernel
theorem dL_act_226 : decode cL_act 226 = .ok (.invokevirtual 63, 3) := by decide +kernel
theorem dL_act_229 : decode cL_act 229 = .ok (.ireturn, 1) := by decide +kernel
theorem dL_act_230 : decode cL_act 230 = .ok (.aload_n 0, 1) := by decide +kernel
theorem dL_act_231 : decode cL_act 231 = .ok (.iconst 0, 1) := by decide +kernel
theorem dL_act_232 : decode cL_act 232 = .ok (.iload 4, 2) := by decide +kernel
theorem dL_act_234 : decode cL_act 234 = .ok (.bipush 21, 2) := by decide +kernel
theorem dL_act_236 : decode cL_act 236 = .ok (.invokestatic 46, 3) := by decide +kernel
theorem dL_act_239 : decode cL_act 239 = .ok (.invokevirtual 66, 3) := by decide +kernel
theorem dL_act_242 : decode cL_act 242 = .ok (.ireturn, 1) := by decide +kernel
theorem dL_act_243 : decode cL_act 243 = .ok (.aload_n 0, 1) := by decide +kernel
theorem dL_act_244 : decode cL_act 244 = .ok (.iconst 1, 1) := by decide +kernel
theorem dL_act_245 : decode cL_act 245 = .ok (.iload_n 3, 1) := by decide +kernel
theorem dL_act_246 : decode cL_act 246 = .ok (.iconst 2, 1) := by decide +kernel
theorem dL_act_247 : decode cL_act 247 = .ok (.invokestatic 46, 3) := by decide +kernel
theorem dL_act_250 : decode cL_act 250 = .ok (.iadd, 1) := by decide +kernel
theorem dL_act_251 : decode cL_act 251 = .ok (.iconst 1, 1) := by decide +kernel
theorem dL_act_252 : decode cL_act 252 = .ok (.iload 4, 2) := by decide +kernel
theorem dL_act_254 : decode cL_act 254 = .ok (.bipush 30, 2) := by decide +kernel
theorem dL_act_256 : decode cL_act 256 = .ok (.invokestatic 46, 3) := by decide +kernel
theorem dL_act_259 : decode cL_act 259 = .ok (.iadd, 1) := by decide +kernel
theorem dL_act_260 : decode cL_act 260 = .ok (.invokevirtual 66, 3) := by decide +kernel
theorem dL_act_263 : decode cL_act 263 = .ok (.ireturn, 1) := by decide +kernel
theorem dL_act_264 : decode cL_act 264 = .ok (.aload_n 0, 1) := by decide +kernel
theorem dL_act_265 : decode cL_act 265 = .ok (.iconst 3, 1) := by decide +kernel
theorem dL_act_266 : decode cL_act 266 = .ok (.iload 4, 2) := by decide +kernel
theorem dL_act_268 : decode cL_act 268 = .ok (.sipush 200, 3) := by decide +kernel
theorem dL_act_271 : decode cL_act 271 = .ok (.invokestatic 46, 3) := by decide +kernel
theorem dL_act_274 : decode cL_act 274 = .ok (.invokevirtual 66, 3) := by decide +kernel
theorem dL_act_277 : decode cL_act 277 = .ok (.ireturn, 1) := by decide +kernel
theorem dL_act_278 : decode cL_act 278 = .ok (.aload_n 0, 1) := by decide +kernel
theorem dL_act_279 : decode cL_act 279 = .ok (.iconst 4, 1) := by decide +kernel
theorem dL_act_280 : decode cL_act 280 = .ok (.iconst 2, 1) := by decide +kernel
theorem dL_act_281 : decode cL_act 281 = .ok (.iload_n 3, 1) := by decide +kernel
theorem dL_act_282 : decode cL_act 282 = .ok (.iconst 2, 1) := by decide +kernel
theorem dL_act_283 : decode cL_act 283 = .ok (.invokestatic 46, 3) := by decide +kernel
theorem dL_act_286 : decode cL_act 286 = .ok (.imul, 1) := by decide +kernel
theorem dL_act_287 : decode cL_act 287 = .ok (.iadd, 1) := by decide +kernel
theorem dL_act_288 : decode cL_act 288 = .ok (.iload 4, 2) := by decide +kernel
theorem dL_act_290 : decode cL_act 290 = .ok (.bipush 40, 2) := by decide +kernel
theorem dL_act_292 : decode cL_act 292 = .ok (.invokestatic 46, 3) := by decide +kernel
theorem dL_act_295 : decode cL_act 295 = .ok (.invokevirtual 66, 3) := by decide +kernel
theorem dL_act_298 : decode cL_act 298 = .ok (.ireturn, 1) := by decide +kernel
theorem dL_act_299 : decode cL_act 299 = .ok (.aload_n 0, 1) := by decide +kernel
theorem dL_act_300 : decode cL_act 300 = .ok (.iconst 5, 1) := by decide +kernel
theorem dL_act_301 : decode cL_act 301 = .ok (.iconst 1, 1) := by decide +kernel
theorem dL_act_302 : decode cL_act 302 = .ok (.iload 4, 2) := by decide +kernel
theorem dL_act_304 : decode cL_act 304 = .ok (.bipush 8, 2) := by decide +kernel
theorem dL_act_306 : decode cL_act 306 = .ok (.invokestatic 46, 3) := by decide +kernel
theorem dL_act_309 : decode cL_act 309 = .ok (.iadd, 1) := by decide +kernel
theorem dL_act_310 : decode cL_act 310 = .ok (.invokevirtual 66, 3) := by decide +kernel
theorem dL_act_313 : decode cL_act 313 = .ok (.ireturn, 1) := by decide +kernel
theorem dL_act_314 : decode cL_act 314 = .ok (.aload_n 0, 1) := by decide +kernel
theorem dL_act_315 : decode cL_act 315 = .ok (.invokevirtual 69, 3) := by decide +kernel
theorem dL_act_318 : decode cL_act 318 = .ok (.ireturn, 1) := by decide +kernel
theorem dL_act_319 : decode cL_act 319 = .ok (.aload_n 0, 1) := by decide +kernel
theorem dL_act_320 : decode cL_act 320 = .ok (.iconst 1, 1) := by decide +kernel
theorem dL_act_321 : decode cL_act 321 = .ok (.iload 4, 2) := by decide +kernel
theorem dL_act_323 : decode cL_act 323 = .ok (.iconst 4, 1) := by decide +kernel
theorem dL_act_324 : decode cL_act 324 = .ok (.invokestatic 46, 3) := by decide +kernel
theorem dL_act_327 : decode cL_act 327 = .ok (.iadd, 1) := by decide +kernel
theorem dL_act_328 : decode cL_act 328 = .ok (.invokevirtual 72, 3) := by decide +kernel
theorem dL_act_331 : decode cL_act 331 = .ok (.ireturn, 1) := by decide +kernel
theorem dL_law_0 : decode cL_law 0 = .ok (.new 10, 3) := by decide +kernel
theorem dL_law_3 : decode cL_law 3 = .ok (.dup, 1) := by decide +kernel
theorem dL_law_4 : decode cL_law 4 = .ok (.invokespecial 75, 3) := by decide +kernel
theorem dL_law_7 : decode cL_law 7 = .ok (.astore_n 1, 1) := by decide +kernel
theorem dL_law_8 : decode cL_law 8 = .ok (.iconst 1, 1) := by decide +kernel
theorem dL_law_9 : decode cL_law 9 = .ok (.istore_n 2, 1) := by decide +kernel
theorem dL_law_10 : decode cL_law 10 = .ok (.aload_n 0, 1) := by decide +kernel
theorem dL_law_11 : decode cL_law 11 = .ok (.arraylength, 1) := by decide +kernel
theorem dL_law_12 : decode cL_law 12 = .ok (.iconst 4, 1) := by decide +kernel
theorem dL_law_13 : decode cL_law 13 = .ok (.idiv, 1) := by decide +kernel
theorem dL_law_14 : decode cL_law 14 = .ok (.bipush 40, 2) := by decide +kernel
theorem dL_law_16 : decode cL_law 16 = .ok (.if_icmp .le 8, 3) := by decide +kernel
theorem dL_law_19 : decode cL_law 19 = .ok (.bipush 40, 2) := by decide +kernel
theorem dL_law_21 : decode cL_law 21 = .ok (.goto 7, 3) := by decide +kernel
theorem dL_law_24 : decode cL_law 24 = .ok (.aload_n 0, 1) := by decide +kernel
theorem dL_law_25 : decode cL_law 25 = .ok (.arraylength, 1) := by decide +kernel
theorem dL_law_26 : decode cL_law 26 = .ok (.iconst 4, 1) := by decide +kernel
theorem dL_law_27 : decode cL_law 27 = .ok (.idiv, 1) := by decide +kernel
theorem dL_law_28 : decode cL_law 28 = .ok (.istore_n 3, 1) := by decide +kernel
theorem dL_law_29 : decode cL_law 29 = .ok (.iconst 0, 1) := by decide +kernel
theorem dL_law_30 : decode cL_law 30 = .ok (.istore 4, 2) := by decide +kernel
theorem dL_law_32 : decode cL_law 32 = .ok (.iload 4, 2) := by decide +kernel
theorem dL_law_34 : decode cL_law 34 = .ok (.iload_n 3, 1) := by decide +kernel
theorem dL_law_35 : decode cL_law 35 = .ok (.if_icmp .ge 112, 3) := by decide +kernel
theorem dL_law_38 : decode cL_law 38 = .ok (.iload_n 2, 1) := by decide +kernel
theorem dL_law_39 : decode cL_law 39 = .ok (.ifCond .eq 108, 3) := by decide +kernel
theorem dL_law_42 : decode cL_law 42 = .ok (.aload_n 1, 1) := by decide +kernel
theorem dL_law_43 : decode cL_law 43 = .ok (.bipush 19, 2) := by decide +kernel
theorem dL_law_45 : decode cL_law 45 = .ok (.invokevirtual 9, 3) := by decide +kernel
theorem dL_law_48 : decode cL_law 48 = .ok (.istore 5, 2) := by decide +kernel
theorem dL_law_50 : decode cL_law 50 = .ok (.aload_n 1, 1) := by decide +kernel
theorem dL_law_51 : decode cL_law 51 = .ok (.iconst 1, 1) := by decide +kernel
theorem dL_law_52 : decode cL_law 52 = .ok (.invokevirtual 9, 3) := by decide +kernel
theorem dL_law_55 : decode cL_law 55 = .ok (.istore 6, 2) := by decide +kernel
theorem dL_law_57 : decode cL_law 57 = .ok (.aload_n 1, 1) := by decide +kernel
end
section
theorem dL_law_58 : decode cL_law 58 = .ok (.iconst 0, 1) := by decide +kernel
theorem dL_law_59 : decode cL_law 59 = .ok (.invokevirtual 9, 3) := by decide +kernel
theorem dL_law_62 : decode cL_law 62 = .ok (.istore 7, 2) := by decide +kernel
theorem dL_law_64 : decode cL_law 64 = .ok (.aload_n 1, 1) := by decide +kernel
theorem dL_law_65 : decode cL_law 65 = .ok (.iconst 3, 1) := by decide +kernel
theorem dL_law_66 : decode cL_law 66 = .ok (.invokevirtual 9, 3) := by decide +kernel
theorem dL_law_69 : decode cL_law 69 = .ok (.istore 8, 2) := by decide +kernel
theorem dL_law_71 : decode cL_law 71 = .ok (.aload_n 1, 1) := by decide +kernel
theorem dL_law_72 : decode cL_law 72 = .ok (.aload_n 0, 1) := by decide +kernel
theorem dL_law_73 : decode cL_law 73 = .ok (.iconst 4, 1) := by decide +kernel
theorem dL_law_74 : decode cL_law 74 = .ok (.iload 4, 2) := by decide +kernel
theorem dL_law_76 : decode cL_law 76 = .ok (.imul, 1) := by decide +kernel
theorem dL_law_77 : decode cL_law 77 = .ok (.invokestatic 76, 3) := by decide +kernel
theorem dL_law_80 : decode cL_law 80 = .ok (.istore 9, 2) := by decide +kernel
theorem dL_law_82 : decode cL_law 82 = .ok (.iload 9, 2) := by decide +kernel
theorem dL_law_84 : decode cL_law 84 = .ok (.ifCond .ge 44, 3) := by decide +kernel
theorem dL_law_87 : decode cL_law 87 = .ok (.aload_n 1, 1) := by decide +kernel
theorem dL_law_88 : decode cL_law 88 = .ok (.bipush 19, 2) := by decide +kernel
theorem dL_law_90 : decode cL_law 90 = .ok (.invokevirtual 9, 3) := by decide +kernel
theorem dL_law_93 : decode cL_law 93 = .ok (.iload 5, 2) := by decide +kernel
theorem dL_law_95 : decode cL_law 95 = .ok (.if_icmp .ne 44, 3) := by decide +kernel
theorem dL_law_98 : decode cL_law 98 = .ok (.aload_n 1, 1) := by decide +kernel
theorem dL_law_99 : decode cL_law 99 = .ok (.iconst 1, 1) := by decide +kernel
theorem dL_law_100 : decode cL_law 100 = .ok (.invokevirtual 9, 3) := by decide +kernel
theorem dL_law_103 : decode cL_law 103 = .ok (.iload 6, 2) := by decide +kernel
theorem dL_law_105 : decode cL_law 105 = .ok (.if_icmp .ne 34, 3) := by decide +kernel
theorem dL_law_108 : decode cL_law 108 = .ok (.aload_n 1, 1) := by decide +kernel
theorem dL_law_109 : decode cL_law 109 = .ok (.iconst 0, 1) := by decide +kernel
theorem dL_law_110 : decode cL_law 110 = .ok (.invokevirtual 9, 3) := by decide +kernel
theorem dL_law_113 : decode cL_law 113 = .ok (.iload 7, 2) := by decide +kernel
theorem dL_law_115 : decode cL_law 115 = .ok (.if_icmp .ne 24, 3) := by decide +kernel
theorem dL_law_118 : decode cL_law 118 = .ok (.aload_n 1, 1) := by decide +kernel
theorem dL_law_119 : decode cL_law 119 = .ok (.iconst 3, 1) := by decide +kernel
theorem dL_law_120 : decode cL_law 120 = .ok (.invokevirtual 9, 3) := by decide +kernel
theorem dL_law_123 : decode cL_law 123 = .ok (.iload 8, 2) := by decide +kernel
theorem dL_law_125 : decode cL_law 125 = .ok (.if_icmp .ne 14, 3) := by decide +kernel
theorem dL_law_128 : decode cL_law 128 = .ok (.aload_n 1, 1) := by decide +kernel
theorem dL_law_129 : decode cL_law 129 = .ok (.invokestatic 80, 3) := by decide +kernel
theorem dL_law_132 : decode cL_law 132 = .ok (.ifCond .eq 7, 3) := by decide +kernel
theorem dL_law_135 : decode cL_law 135 = .ok (.iconst 1, 1) := by decide +kernel
theorem dL_law_136 : decode cL_law 136 = .ok (.goto 4, 3) := by decide +kernel
theorem dL_law_139 : decode cL_law 139 = .ok (.iconst 0, 1) := by decide +kernel
theorem dL_law_140 : decode cL_law 140 = .ok (.istore_n 2, 1) := by decide +kernel
theorem dL_law_141 : decode cL_law 141 = .ok (.iinc 4 1, 3) := by decide +kernel
theorem dL_law_144 : decode cL_law 144 = .ok (.goto (-112), 3) := by decide +kernel
theorem dL_law_147 : decode cL_law 147 = .ok (.iload_n 2, 1) := by decide +kernel
theorem dL_law_148 : decode cL_law 148 = .ok (.ifCond .eq 14, 3) := by decide +kernel
theorem dL_law_151 : decode cL_law 151 = .ok (.aload_n 1, 1) := by decide +kernel
theorem dL_law_152 : decode cL_law 152 = .ok (.invokestatic 84, 3) := by decide +kernel
theorem dL_law_155 : decode cL_law 155 = .ok (.ifCond .eq 7, 3) := by decide +kernel
theorem dL_law_158 : decode cL_law 158 = .ok (.iconst 1, 1) := by decide +kernel
theorem dL_law_159 : decode cL_law 159 = .ok (.goto 4, 3) := by decide +kernel
theorem dL_law_162 : decode cL_law 162 = .ok (.iconst 0, 1) := by decide +kernel
theorem dL_law_163 : decode cL_law 163 = .ok (.ireturn, 1) := by decide +kernel
end
section
/-- the words of the tables that a call hands on -/
def kAL : List Cond := lw_tbl.filter goodWord
theorem al_in {w : Cond} (h : w ∈ lw_tbl) (g : goodWord w = true) : w ∈ kAL := List.mem_filter.mpr ⟨h, g⟩
theorem al_tbl : ∀ w ∈ kAL, w ∈ lw_tbl := fun w h => (List.mem_filter.mp h).1
theorem al_good : ∀ w ∈ kAL, goodWord w = true := fun w h => (List.mem_filter.mp h).2
theorem al_1 {w : Cond} {ws : List Cond} (h : w ∈ kAL) (g : GoodIn kAL ws) : GoodIn kAL (w :: ws) := by
  intro v hv
  rcases List.mem_cons.mp hv with rfl | hv
  · exact ⟨h, good_of_word (al_good _ h)⟩
  · exact g v hv
theorem al_0 : GoodIn kAL kAL := fun v hv => ⟨hv, good_of_word (al_good _ hv)⟩
theorem inT0 : ∀ w ∈ wsX00, w ∈ lw_tbl := by decide +kernel
theorem inA0 : ∀ w ∈ wsX00, w ∈ kAL := fun w h => al_in (inT0 w h) (List.all_eq_true.mp (by decide +kernel : wsX00.all goodWord = true) w h)
theorem inT1 : ∀ w ∈ wsX10, w ∈ lw_tbl := by decide +kernel
theorem inA1 : ∀ w ∈ wsX10, w ∈ kAL := fun w h => al_in (inT1 w h) (List.all_eq_true.mp (by decide +kernel : wsX10.all goodWord = true) w h)
theorem inT2 : ∀ w ∈ wsX20, w ∈ lw_tbl := by decide +kernel
theorem inA2 : ∀ w ∈ wsX20, w ∈ kAL := fun w h => al_in (inT2 w h) (List.all_eq_true.mp (by decide +kernel : wsX20.all goodWord = true) w h)
theorem inT3 : ∀ w ∈ wsX30, w ∈ lw_tbl := by decide +kernel
theorem inA3 : ∀ w ∈ wsX30, w ∈ kAL := fun w h => al_in (inT3 w h) (List.all_eq_true.mp (by decide +kernel : wsX30.all goodWord = true) w h)
theorem inT4 : ∀ w ∈ wsX40, w ∈ lw_tbl := by decide +kernel
theorem inA4 : ∀ w ∈ wsX40, w ∈ kAL := fun w h => al_in (inT4 w h) (List.all_eq_true.mp (by decide +kernel : wsX40.all goodWord = true) w h)
theorem inT5 : ∀ w ∈ wsX50, w ∈ lw_tbl := by decide +kernel
theorem inA5 : ∀ w ∈ wsX50, w ∈ kAL := fun w h => al_in (inT5 w h) (List.all_eq_true.mp (by decide +kernel : wsX50.all goodWord = true) w h)
theorem inT6 : ∀ w ∈ wsX60, w ∈ lw_tbl := by decide +kernel
theorem inA6 : ∀ w ∈ wsX60, w ∈ kAL := fun w h => al_in (inT6 w h) (List.all_eq_true.mp (by decide +kernel : wsX60.all goodWord = true) w h)
theorem inT7 : ∀ w ∈ wsX70, w ∈ lw_tbl := by decide +kernel
theorem inA7 : ∀ w ∈ wsX70, w ∈ kAL := fun w h => al_in (inT7 w h) (List.all_eq_true.mp (by decide +kernel : wsX70.all goodWord = true) w h)
end
section
theorem al_11 : Cond.instantiable RX7 5 ∈ kAL := al_in (List.mem_of_getElem? (i := 21) (by decide +kernel)) rfl
theorem al_12 : Cond.initialized RX7 ∈ kAL := al_in (List.mem_of_getElem? (i := 10) (by decide +kernel)) rfl
theorem al_18 : Cond.instanceMethod yX7_init ∈ kAL := al_in (List.mem_of_getElem? (i := 23) (by decide +kernel)) rfl
theorem al_19 : Cond.code yX7_init cX7_init 1 none ∈ kAL := al_in (List.mem_of_getElem? (i := 24) (by decide +kernel)) rfl
theorem al_20 : Cond.methodLink RX7 1 objectInit ∈ kAL := al_in (List.mem_of_getElem? (i := 25) (by decide +kernel)) rfl
theorem al_21 : Cond.instanceMethod objectInit ∈ kAL := al_in (List.mem_of_getElem? (i := 26) (by decide +kernel)) rfl
theorem al_22 : Cond.code objectInit ⟨#[0xb1]⟩ 1 none ∈ kAL := al_in (List.mem_of_getElem? (i := 27) (by decide +kernel)) rfl
theorem al_23 : Cond.classLink RX7 7 RX3 ∈ kAL := al_in (List.mem_of_getElem? (i := 28) (by decide +kernel)) rfl
theorem al_24 : Cond.instantiable RX3 9 ∈ kAL := al_in (List.mem_of_getElem? (i := 29) (by decide +kernel)) rfl
theorem al_25 : Cond.initialized RX3 ∈ kAL := al_in (List.mem_of_getElem? (i := 11) (by decide +kernel)) rfl
theorem al_26 : Cond.fieldLink RX7 10 "CaneQuotas" "mill" "LCaneQuotas$Mill;" ∈ kAL := al_in (List.mem_of_getElem? (i := 224) (by decide +kernel)) rfl
theorem al_27 : Cond.fieldLink RX7 16 "CaneQuotas" "trial" "LCaneQuotas$Mill;" ∈ kAL := al_in (List.mem_of_getElem? (i := 225) (by decide +kernel)) rfl
theorem al_28 : Cond.classLink RX7 19 RX2 ∈ kAL := al_in (List.mem_of_getElem? (i := 182) (by decide +kernel)) rfl
theorem al_29 : Cond.instantiable RX2 3 ∈ kAL := al_in (List.mem_of_getElem? (i := 183) (by decide +kernel)) rfl
theorem al_30 : Cond.initialized RX2 ∈ kAL := al_in (List.mem_of_getElem? (i := 16) (by decide +kernel)) rfl
theorem al_31 : Cond.fieldLink RX7 22 "CaneQuotas" "history" "LCaneQuotas$History;" ∈ kAL := al_in (List.mem_of_getElem? (i := 226) (by decide +kernel)) rfl
theorem al_32 : Cond.fieldLink RX7 26 "CaneQuotas" "slots" "[LCaneQuotas$Mill;" ∈ kAL := al_in (List.mem_of_getElem? (i := 227) (by decide +kernel)) rfl
theorem al_33 : Cond.classLink RX7 30 RX4 ∈ kAL := al_in (List.mem_of_getElem? (i := 201) (by decide +kernel)) rfl
theorem al_34 : Cond.instantiable RX4 6 ∈ kAL := al_in (List.mem_of_getElem? (i := 202) (by decide +kernel)) rfl
theorem al_35 : Cond.initialized RX4 ∈ kAL := al_in (List.mem_of_getElem? (i := 17) (by decide +kernel)) rfl
theorem al_36 : Cond.fieldLink RX7 33 "CaneQuotas" "pad" "LCaneQuotas$Pad;" ∈ kAL := al_in (List.mem_of_getElem? (i := 228) (by decide +kernel)) rfl
theorem al_37 : Cond.instanceMethod yX3_init ∈ kAL := al_in (List.mem_of_getElem? (i := 31) (by decide +kernel)) rfl
theorem al_38 : Cond.code yX3_init cX3_init 1 none ∈ kAL := al_in (List.mem_of_getElem? (i := 32) (by decide +kernel)) rfl
theorem al_39 : Cond.methodLink RX3 3 objectInit ∈ kAL := al_in (List.mem_of_getElem? (i := 33) (by decide +kernel)) rfl
theorem al_40 : Cond.arrayClass .int ∈ kAL := al_in (List.mem_of_getElem? (i := 61) (by decide +kernel)) rfl
theorem al_41 : Cond.fieldLink RX3 9 "CaneQuotas$Mill" "settings" "[I" ∈ kAL := al_in (List.mem_of_getElem? (i := 148) (by decide +kernel)) rfl
theorem al_42 : Cond.classLink RX3 15 RX1 ∈ kAL := al_in (List.mem_of_getElem? (i := 34) (by decide +kernel)) rfl
theorem al_43 : Cond.instantiable RX1 5 ∈ kAL := al_in (List.mem_of_getElem? (i := 35) (by decide +kernel)) rfl
theorem al_44 : Cond.initialized RX1 ∈ kAL := al_in (List.mem_of_getElem? (i := 12) (by decide +kernel)) rfl
theorem al_45 : Cond.fieldLink RX3 18 "CaneQuotas$Mill" "growers" "LCaneQuotas$Growers;" ∈ kAL := al_in (List.mem_of_getElem? (i := 149) (by decide +kernel)) rfl
theorem al_46 : Cond.classLink RX3 22 RX0 ∈ kAL := al_in (List.mem_of_getElem? (i := 62) (by decide +kernel)) rfl
theorem al_47 : Cond.instantiable RX0 9 ∈ kAL := al_in (List.mem_of_getElem? (i := 63) (by decide +kernel)) rfl
theorem al_48 : Cond.initialized RX0 ∈ kAL := al_in (List.mem_of_getElem? (i := 13) (by decide +kernel)) rfl
theorem al_49 : Cond.fieldLink RX3 25 "CaneQuotas$Mill" "fields" "LCaneQuotas$Fields;" ∈ kAL := al_in (List.mem_of_getElem? (i := 151) (by decide +kernel)) rfl
theorem al_50 : Cond.classLink RX3 29 RX5 ∈ kAL := al_in (List.mem_of_getElem? (i := 105) (by decide +kernel)) rfl
theorem al_51 : Cond.instantiable RX5 3 ∈ kAL := al_in (List.mem_of_getElem? (i := 106) (by decide +kernel)) rfl
theorem al_52 : Cond.initialized RX5 ∈ kAL := al_in (List.mem_of_getElem? (i := 14) (by decide +kernel)) rfl
theorem al_53 : Cond.fieldLink RX3 32 "CaneQuotas$Mill" "stops" "LCaneQuotas$Stops;" ∈ kAL := al_in (List.mem_of_getElem? (i := 153) (by decide +kernel)) rfl
theorem al_54 : Cond.classLink RX3 36 RX6 ∈ kAL := al_in (List.mem_of_getElem? (i := 122) (by decide +kernel)) rfl
theorem al_55 : Cond.instantiable RX6 5 ∈ kAL := al_in (List.mem_of_getElem? (i := 123) (by decide +kernel)) rfl
theorem al_56 : Cond.initialized RX6 ∈ kAL := al_in (List.mem_of_getElem? (i := 15) (by decide +kernel)) rfl
theorem al_57 : Cond.fieldLink RX3 39 "CaneQuotas$Mill" "yard" "LCaneQuotas$Yard;" ∈ kAL := al_in (List.mem_of_getElem? (i := 155) (by decide +kernel)) rfl
theorem al_58 : Cond.instanceMethod yX1_init ∈ kAL := al_in (List.mem_of_getElem? (i := 37) (by decide +kernel)) rfl
theorem al_59 : Cond.code yX1_init cX1_init 1 none ∈ kAL := al_in (List.mem_of_getElem? (i := 38) (by decide +kernel)) rfl
theorem al_60 : Cond.methodLink RX1 3 objectInit ∈ kAL := al_in (List.mem_of_getElem? (i := 39) (by decide +kernel)) rfl
theorem al_61 : Cond.fieldLink RX1 9 "CaneQuotas$Growers" "quota" "[I" ∈ kAL := al_in (List.mem_of_getElem? (i := 40) (by decide +kernel)) rfl
theorem al_62 : Cond.fieldLink RX1 15 "CaneQuotas$Growers" "brought" "[I" ∈ kAL := al_in (List.mem_of_getElem? (i := 42) (by decide +kernel)) rfl
theorem al_63 : Cond.fieldLink RX1 18 "CaneQuotas$Growers" "crushed" "[I" ∈ kAL := al_in (List.mem_of_getElem? (i := 44) (by decide +kernel)) rfl
theorem al_64 : Cond.fieldLink RX1 21 "CaneQuotas$Growers" "lost" "[I" ∈ kAL := al_in (List.mem_of_getElem? (i := 46) (by decide +kernel)) rfl
theorem al_65 : Cond.fieldLink RX1 24 "CaneQuotas$Growers" "paid" "[I" ∈ kAL := al_in (List.mem_of_getElem? (i := 48) (by decide +kernel)) rfl
theorem al_66 : Cond.instanceMethod yX0_init ∈ kAL := al_in (List.mem_of_getElem? (i := 65) (by decide +kernel)) rfl
theorem al_67 : Cond.code yX0_init cX0_init 1 none ∈ kAL := al_in (List.mem_of_getElem? (i := 66) (by decide +kernel)) rfl
theorem al_68 : Cond.methodLink RX0 3 objectInit ∈ kAL := al_in (List.mem_of_getElem? (i := 67) (by decide +kernel)) rfl
theorem al_69 : Cond.fieldLink RX0 9 "CaneQuotas$Fields" "grower" "[I" ∈ kAL := al_in (List.mem_of_getElem? (i := 68) (by decide +kernel)) rfl
theorem al_70 : Cond.fieldLink RX0 15 "CaneQuotas$Fields" "tonnes" "[I" ∈ kAL := al_in (List.mem_of_getElem? (i := 70) (by decide +kernel)) rfl
theorem al_71 : Cond.fieldLink RX0 18 "CaneQuotas$Fields" "purity" "[I" ∈ kAL := al_in (List.mem_of_getElem? (i := 72) (by decide +kernel)) rfl
theorem al_72 : Cond.fieldLink RX0 21 "CaneQuotas$Fields" "burnt" "[I" ∈ kAL := al_in (List.mem_of_getElem? (i := 74) (by decide +kernel)) rfl
theorem al_73 : Cond.fieldLink RX0 24 "CaneQuotas$Fields" "left" "[I" ∈ kAL := al_in (List.mem_of_getElem? (i := 76) (by decide +kernel)) rfl
theorem al_74 : Cond.fieldLink RX0 27 "CaneQuotas$Fields" "inYard" "[I" ∈ kAL := al_in (List.mem_of_getElem? (i := 78) (by decide +kernel)) rfl
theorem al_75 : Cond.fieldLink RX0 30 "CaneQuotas$Fields" "crushed" "[I" ∈ kAL := al_in (List.mem_of_getElem? (i := 80) (by decide +kernel)) rfl
theorem al_76 : Cond.fieldLink RX0 33 "CaneQuotas$Fields" "lost" "[I" ∈ kAL := al_in (List.mem_of_getElem? (i := 82) (by decide +kernel)) rfl
theorem al_77 : Cond.instanceMethod yX5_init ∈ kAL := al_in (List.mem_of_getElem? (i := 108) (by decide +kernel)) rfl
theorem al_78 : Cond.code yX5_init cX5_init 1 none ∈ kAL := al_in (List.mem_of_getElem? (i := 109) (by decide +kernel)) rfl
theorem al_79 : Cond.methodLink RX5 3 objectInit ∈ kAL := al_in (List.mem_of_getElem? (i := 110) (by decide +kernel)) rfl
theorem al_80 : Cond.fieldLink RX5 9 "CaneQuotas$Stops" "first" "[I" ∈ kAL := al_in (List.mem_of_getElem? (i := 111) (by decide +kernel)) rfl
theorem al_81 : Cond.fieldLink RX5 15 "CaneQuotas$Stops" "last" "[I" ∈ kAL := al_in (List.mem_of_getElem? (i := 112) (by decide +kernel)) rfl
theorem al_82 : Cond.instanceMethod yX6_init ∈ kAL := al_in (List.mem_of_getElem? (i := 125) (by decide +kernel)) rfl
theorem al_83 : Cond.code yX6_init cX6_init 1 none ∈ kAL := al_in (List.mem_of_getElem? (i := 126) (by decide +kernel)) rfl
theorem al_84 : Cond.methodLink RX6 3 objectInit ∈ kAL := al_in (List.mem_of_getElem? (i := 127) (by decide +kernel)) rfl
theorem al_85 : Cond.fieldLink RX6 9 "CaneQuotas$Yard" "field" "[I" ∈ kAL := al_in (List.mem_of_getElem? (i := 128) (by decide +kernel)) rfl
theorem al_86 : Cond.fieldLink RX6 15 "CaneQuotas$Yard" "tonnes" "[I" ∈ kAL := al_in (List.mem_of_getElem? (i := 130) (by decide +kernel)) rfl
theorem al_87 : Cond.fieldLink RX6 18 "CaneQuotas$Yard" "day" "[I" ∈ kAL := al_in (List.mem_of_getElem? (i := 132) (by decide +kernel)) rfl
theorem al_88 : Cond.instanceMethod yX2_init ∈ kAL := al_in (List.mem_of_getElem? (i := 185) (by decide +kernel)) rfl
theorem al_89 : Cond.code yX2_init cX2_init 1 none ∈ kAL := al_in (List.mem_of_getElem? (i := 186) (by decide +kernel)) rfl
theorem al_90 : Cond.methodLink RX2 3 objectInit ∈ kAL := al_in (List.mem_of_getElem? (i := 187) (by decide +kernel)) rfl
theorem al_91 : Cond.classLink RX2 11 RX3 ∈ kAL := al_in (List.mem_of_getElem? (i := 188) (by decide +kernel)) rfl
theorem al_92 : Cond.fieldLink RX2 13 "CaneQuotas$History" "states" "[LCaneQuotas$Mill;" ∈ kAL := al_in (List.mem_of_getElem? (i := 190) (by decide +kernel)) rfl
theorem al_93 : Cond.instanceMethod yX4_init ∈ kAL := al_in (List.mem_of_getElem? (i := 204) (by decide +kernel)) rfl
theorem al_94 : Cond.code yX4_init cX4_init 1 none ∈ kAL := al_in (List.mem_of_getElem? (i := 205) (by decide +kernel)) rfl
theorem al_95 : Cond.methodLink RX4 3 objectInit ∈ kAL := al_in (List.mem_of_getElem? (i := 206) (by decide +kernel)) rfl
theorem al_96 : Cond.arrayClass .char ∈ kAL := al_in (List.mem_of_getElem? (i := 223) (by decide +kernel)) rfl
theorem al_97 : Cond.fieldLink RX4 9 "CaneQuotas$Pad" "signs" "[C" ∈ kAL := al_in (List.mem_of_getElem? (i := 207) (by decide +kernel)) rfl
theorem al_98 : Cond.fieldLink RX4 15 "CaneQuotas$Pad" "values" "[I" ∈ kAL := al_in (List.mem_of_getElem? (i := 209) (by decide +kernel)) rfl
theorem al_112 : Cond.instanceMethod yX7_set ∈ kAL := al_in (List.mem_of_getElem? (i := 508) (by decide +kernel)) rfl
theorem al_113 : Cond.selects RX7 yX7_set yX7_set ∈ kAL := al_in (List.mem_of_getElem? (i := 509) (by decide +kernel)) rfl
theorem al_114 : Cond.code yX7_set cX7_set 3 (some .int) ∈ kAL := al_in (List.mem_of_getElem? (i := 510) (by decide +kernel)) rfl
theorem al_115 : Cond.methodLink RX7 37 yX2_prepare ∈ kAL := al_in (List.mem_of_getElem? (i := 457) (by decide +kernel)) rfl
theorem al_116 : Cond.instanceMethod yX2_prepare ∈ kAL := al_in (List.mem_of_getElem? (i := 458) (by decide +kernel)) rfl
theorem al_117 : Cond.selects RX2 yX2_prepare yX2_prepare ∈ kAL := al_in (List.mem_of_getElem? (i := 459) (by decide +kernel)) rfl
theorem al_118 : Cond.code yX2_prepare cX2_prepare 4 none ∈ kAL := al_in (List.mem_of_getElem? (i := 460) (by decide +kernel)) rfl
theorem al_119 : Cond.fieldLink RX2 17 "CaneQuotas$History" "oldest" "I" ∈ kAL := al_in (List.mem_of_getElem? (i := 191) (by decide +kernel)) rfl
theorem al_120 : Cond.fieldLink RX2 21 "CaneQuotas$History" "size" "I" ∈ kAL := al_in (List.mem_of_getElem? (i := 192) (by decide +kernel)) rfl
theorem al_121 : Cond.methodLink RX2 25 yX3_copyFrom ∈ kAL := al_in (List.mem_of_getElem? (i := 462) (by decide +kernel)) rfl
theorem al_122 : Cond.instanceMethod yX3_copyFrom ∈ kAL := al_in (List.mem_of_getElem? (i := 355) (by decide +kernel)) rfl
theorem al_123 : Cond.selects RX3 yX3_copyFrom yX3_copyFrom ∈ kAL := al_in (List.mem_of_getElem? (i := 356) (by decide +kernel)) rfl
theorem al_124 : Cond.code yX3_copyFrom cX3_copyFrom 2 none ∈ kAL := al_in (List.mem_of_getElem? (i := 357) (by decide +kernel)) rfl
theorem al_125 : Cond.fieldLink RX3 60 "CaneQuotas$Mill" "now" "I" ∈ kAL := al_in (List.mem_of_getElem? (i := 157) (by decide +kernel)) rfl
theorem al_126 : Cond.fieldLink RX3 64 "CaneQuotas$Mill" "sugar" "I" ∈ kAL := al_in (List.mem_of_getElem? (i := 159) (by decide +kernel)) rfl
theorem al_127 : Cond.fieldLink RX3 67 "CaneQuotas$Mill" "loadsBrought" "I" ∈ kAL := al_in (List.mem_of_getElem? (i := 161) (by decide +kernel)) rfl
theorem al_128 : Cond.fieldLink RX3 70 "CaneQuotas$Mill" "stoppedDays" "I" ∈ kAL := al_in (List.mem_of_getElem? (i := 162) (by decide +kernel)) rfl
theorem al_129 : Cond.static yX7_copyRow ∈ kAL := al_in (List.mem_of_getElem? (i := 359) (by decide +kernel)) rfl
theorem al_130 : Cond.code yX7_copyRow cX7_copyRow 3 none ∈ kAL := al_in (List.mem_of_getElem? (i := 360) (by decide +kernel)) rfl
theorem al_131 : Cond.methodLink RX7 195 Lib.Math.min.name ∈ kAL := al_in (List.mem_of_getElem? (i := 361) (by decide +kernel)) rfl
theorem al_132 : Cond.static Lib.Math.min.name ∈ kAL := al_in (List.mem_of_getElem? (i := 362) (by decide +kernel)) rfl
theorem al_133 : Cond.initialized "java/lang/Math" ∈ kAL := al_in (List.mem_of_getElem? (i := 18) (by decide +kernel)) rfl
theorem al_134 : Cond.code Lib.Math.min.name Lib.Math.min.code 2 (some .int) ∈ kAL := al_in (List.mem_of_getElem? (i := 363) (by decide +kernel)) rfl
theorem al_135 : Cond.methodLink RX7 200 arraycopyName ∈ kAL := al_in (List.mem_of_getElem? (i := 364) (by decide +kernel)) rfl
theorem al_136 : Cond.native arraycopyName ∈ kAL := al_in (List.mem_of_getElem? (i := 366) (by decide +kernel)) rfl
theorem al_137 : Cond.static arraycopyName ∈ kAL := al_in (List.mem_of_getElem? (i := 365) (by decide +kernel)) rfl
theorem al_138 : Cond.initialized "java/lang/System" ∈ kAL := al_in (List.mem_of_getElem? (i := 19) (by decide +kernel)) rfl
theorem al_139 : Cond.methodLink RX3 47 yX1_copyFrom ∈ kAL := al_in (List.mem_of_getElem? (i := 367) (by decide +kernel)) rfl
theorem al_140 : Cond.instanceMethod yX1_copyFrom ∈ kAL := al_in (List.mem_of_getElem? (i := 368) (by decide +kernel)) rfl
theorem al_141 : Cond.selects RX1 yX1_copyFrom yX1_copyFrom ∈ kAL := al_in (List.mem_of_getElem? (i := 369) (by decide +kernel)) rfl
theorem al_142 : Cond.code yX1_copyFrom cX1_copyFrom 2 none ∈ kAL := al_in (List.mem_of_getElem? (i := 370) (by decide +kernel)) rfl
theorem al_143 : Cond.methodLink RX3 51 yX0_copyFrom ∈ kAL := al_in (List.mem_of_getElem? (i := 372) (by decide +kernel)) rfl
theorem al_144 : Cond.instanceMethod yX0_copyFrom ∈ kAL := al_in (List.mem_of_getElem? (i := 373) (by decide +kernel)) rfl
theorem al_145 : Cond.selects RX0 yX0_copyFrom yX0_copyFrom ∈ kAL := al_in (List.mem_of_getElem? (i := 374) (by decide +kernel)) rfl
theorem al_146 : Cond.code yX0_copyFrom cX0_copyFrom 2 none ∈ kAL := al_in (List.mem_of_getElem? (i := 375) (by decide +kernel)) rfl
theorem al_147 : Cond.fieldLink RX0 36 "CaneQuotas$Fields" "count" "I" ∈ kAL := al_in (List.mem_of_getElem? (i := 84) (by decide +kernel)) rfl
theorem al_148 : Cond.methodLink RX3 54 yX5_copyFrom ∈ kAL := al_in (List.mem_of_getElem? (i := 377) (by decide +kernel)) rfl
theorem al_149 : Cond.instanceMethod yX5_copyFrom ∈ kAL := al_in (List.mem_of_getElem? (i := 378) (by decide +kernel)) rfl
theorem al_150 : Cond.selects RX5 yX5_copyFrom yX5_copyFrom ∈ kAL := al_in (List.mem_of_getElem? (i := 379) (by decide +kernel)) rfl
theorem al_151 : Cond.code yX5_copyFrom cX5_copyFrom 2 none ∈ kAL := al_in (List.mem_of_getElem? (i := 380) (by decide +kernel)) rfl
theorem al_152 : Cond.fieldLink RX5 18 "CaneQuotas$Stops" "count" "I" ∈ kAL := al_in (List.mem_of_getElem? (i := 113) (by decide +kernel)) rfl
theorem al_153 : Cond.methodLink RX3 57 yX6_copyFrom ∈ kAL := al_in (List.mem_of_getElem? (i := 382) (by decide +kernel)) rfl
theorem al_154 : Cond.instanceMethod yX6_copyFrom ∈ kAL := al_in (List.mem_of_getElem? (i := 383) (by decide +kernel)) rfl
theorem al_155 : Cond.selects RX6 yX6_copyFrom yX6_copyFrom ∈ kAL := al_in (List.mem_of_getElem? (i := 384) (by decide +kernel)) rfl
theorem al_156 : Cond.code yX6_copyFrom cX6_copyFrom 2 none ∈ kAL := al_in (List.mem_of_getElem? (i := 385) (by decide +kernel)) rfl
theorem al_157 : Cond.fieldLink RX6 21 "CaneQuotas$Yard" "loads" "I" ∈ kAL := al_in (List.mem_of_getElem? (i := 133) (by decide +kernel)) rfl
theorem al_158 : Cond.fieldLink RX6 25 "CaneQuotas$Yard" "total" "I" ∈ kAL := al_in (List.mem_of_getElem? (i := 135) (by decide +kernel)) rfl
theorem al_159 : Cond.methodLink RX7 41 yX3_changeSetting ∈ kAL := al_in (List.mem_of_getElem? (i := 511) (by decide +kernel)) rfl
theorem al_160 : Cond.instanceMethod yX3_changeSetting ∈ kAL := al_in (List.mem_of_getElem? (i := 512) (by decide +kernel)) rfl
theorem al_161 : Cond.selects RX3 yX3_changeSetting yX3_changeSetting ∈ kAL := al_in (List.mem_of_getElem? (i := 513) (by decide +kernel)) rfl
theorem al_162 : Cond.code yX3_changeSetting cX3_changeSetting 4 (some .int) ∈ kAL := al_in (List.mem_of_getElem? (i := 514) (by decide +kernel)) rfl
theorem al_163 : Cond.fieldLink RX3 77 "CaneQuotas$Mill" "LEAST" "[I" ∈ kAL := al_in (List.mem_of_getElem? (i := 515) (by decide +kernel)) rfl
end
section
theorem al_164 : Cond.fieldLink RX3 80 "CaneQuotas$Mill" "MOST" "[I" ∈ kAL := al_in (List.mem_of_getElem? (i := 517) (by decide +kernel)) rfl
theorem al_165 : Cond.static yX7_isWithin ∈ kAL := al_in (List.mem_of_getElem? (i := 249) (by decide +kernel)) rfl
theorem al_166 : Cond.code yX7_isWithin cX7_isWithin 3 (some .boolean) ∈ kAL := al_in (List.mem_of_getElem? (i := 250) (by decide +kernel)) rfl
theorem al_167 : Cond.methodLink RX7 45 yX2_recordUnlessError ∈ kAL := al_in (List.mem_of_getElem? (i := 471) (by decide +kernel)) rfl
theorem al_168 : Cond.instanceMethod yX2_recordUnlessError ∈ kAL := al_in (List.mem_of_getElem? (i := 472) (by decide +kernel)) rfl
theorem al_169 : Cond.selects RX2 yX2_recordUnlessError yX2_recordUnlessError ∈ kAL := al_in (List.mem_of_getElem? (i := 473) (by decide +kernel)) rfl
theorem al_170 : Cond.code yX2_recordUnlessError cX2_recordUnlessError 2 (some .int) ∈ kAL := al_in (List.mem_of_getElem? (i := 474) (by decide +kernel)) rfl
theorem al_194 : Cond.instanceMethod yX7_quota ∈ kAL := al_in (List.mem_of_getElem? (i := 476) (by decide +kernel)) rfl
theorem al_195 : Cond.selects RX7 yX7_quota yX7_quota ∈ kAL := al_in (List.mem_of_getElem? (i := 477) (by decide +kernel)) rfl
theorem al_196 : Cond.code yX7_quota cX7_quota 3 (some .int) ∈ kAL := al_in (List.mem_of_getElem? (i := 478) (by decide +kernel)) rfl
theorem al_197 : Cond.methodLink RX7 49 yX3_changeQuota ∈ kAL := al_in (List.mem_of_getElem? (i := 479) (by decide +kernel)) rfl
theorem al_198 : Cond.instanceMethod yX3_changeQuota ∈ kAL := al_in (List.mem_of_getElem? (i := 480) (by decide +kernel)) rfl
theorem al_199 : Cond.selects RX3 yX3_changeQuota yX3_changeQuota ∈ kAL := al_in (List.mem_of_getElem? (i := 481) (by decide +kernel)) rfl
theorem al_200 : Cond.code yX3_changeQuota cX3_changeQuota 4 (some .int) ∈ kAL := al_in (List.mem_of_getElem? (i := 482) (by decide +kernel)) rfl
theorem al_201 : Cond.fieldLink RX3 87 "CaneQuotas$Growers" "quota" "[I" ∈ kAL := al_in (List.mem_of_getElem? (i := 41) (by decide +kernel)) rfl
theorem al_202 : Cond.static yX7_isGrower ∈ kAL := al_in (List.mem_of_getElem? (i := 306) (by decide +kernel)) rfl
theorem al_203 : Cond.code yX7_isGrower cX7_isGrower 1 (some .boolean) ∈ kAL := al_in (List.mem_of_getElem? (i := 307) (by decide +kernel)) rfl
theorem al_204 : Cond.methodLink RX7 100 yX7_isWithin ∈ kAL := al_in (List.mem_of_getElem? (i := 308) (by decide +kernel)) rfl
theorem al_216 : Cond.instanceMethod yX7_lend ∈ kAL := al_in (List.mem_of_getElem? (i := 484) (by decide +kernel)) rfl
theorem al_217 : Cond.selects RX7 yX7_lend yX7_lend ∈ kAL := al_in (List.mem_of_getElem? (i := 485) (by decide +kernel)) rfl
theorem al_218 : Cond.code yX7_lend cX7_lend 4 (some .int) ∈ kAL := al_in (List.mem_of_getElem? (i := 486) (by decide +kernel)) rfl
theorem al_219 : Cond.methodLink RX7 52 yX3_lendQuota ∈ kAL := al_in (List.mem_of_getElem? (i := 487) (by decide +kernel)) rfl
theorem al_220 : Cond.instanceMethod yX3_lendQuota ∈ kAL := al_in (List.mem_of_getElem? (i := 488) (by decide +kernel)) rfl
theorem al_221 : Cond.selects RX3 yX3_lendQuota yX3_lendQuota ∈ kAL := al_in (List.mem_of_getElem? (i := 489) (by decide +kernel)) rfl
theorem al_222 : Cond.code yX3_lendQuota cX3_lendQuota 4 (some .int) ∈ kAL := al_in (List.mem_of_getElem? (i := 490) (by decide +kernel)) rfl
theorem al_236 : Cond.instanceMethod yX7_field ∈ kAL := al_in (List.mem_of_getElem? (i := 454) (by decide +kernel)) rfl
theorem al_237 : Cond.selects RX7 yX7_field yX7_field ∈ kAL := al_in (List.mem_of_getElem? (i := 455) (by decide +kernel)) rfl
theorem al_238 : Cond.code yX7_field cX7_field 5 (some .int) ∈ kAL := al_in (List.mem_of_getElem? (i := 456) (by decide +kernel)) rfl
theorem al_239 : Cond.methodLink RX7 56 yX3_addField ∈ kAL := al_in (List.mem_of_getElem? (i := 463) (by decide +kernel)) rfl
theorem al_240 : Cond.instanceMethod yX3_addField ∈ kAL := al_in (List.mem_of_getElem? (i := 464) (by decide +kernel)) rfl
theorem al_241 : Cond.selects RX3 yX3_addField yX3_addField ∈ kAL := al_in (List.mem_of_getElem? (i := 465) (by decide +kernel)) rfl
theorem al_242 : Cond.code yX3_addField cX3_addField 5 (some .int) ∈ kAL := al_in (List.mem_of_getElem? (i := 466) (by decide +kernel)) rfl
theorem al_243 : Cond.methodLink RX3 90 yX0_append ∈ kAL := al_in (List.mem_of_getElem? (i := 467) (by decide +kernel)) rfl
theorem al_244 : Cond.instanceMethod yX0_append ∈ kAL := al_in (List.mem_of_getElem? (i := 468) (by decide +kernel)) rfl
theorem al_245 : Cond.selects RX0 yX0_append yX0_append ∈ kAL := al_in (List.mem_of_getElem? (i := 469) (by decide +kernel)) rfl
theorem al_246 : Cond.code yX0_append cX0_append 6 (some .int) ∈ kAL := al_in (List.mem_of_getElem? (i := 470) (by decide +kernel)) rfl
theorem al_260 : Cond.instanceMethod yX7_stop ∈ kAL := al_in (List.mem_of_getElem? (i := 492) (by decide +kernel)) rfl
theorem al_261 : Cond.selects RX7 yX7_stop yX7_stop ∈ kAL := al_in (List.mem_of_getElem? (i := 493) (by decide +kernel)) rfl
theorem al_262 : Cond.code yX7_stop cX7_stop 3 (some .int) ∈ kAL := al_in (List.mem_of_getElem? (i := 494) (by decide +kernel)) rfl
theorem al_263 : Cond.fieldLink RX7 60 "CaneQuotas$Mill" "stops" "LCaneQuotas$Stops;" ∈ kAL := al_in (List.mem_of_getElem? (i := 154) (by decide +kernel)) rfl
theorem al_264 : Cond.methodLink RX7 64 yX5_addStop ∈ kAL := al_in (List.mem_of_getElem? (i := 495) (by decide +kernel)) rfl
theorem al_265 : Cond.instanceMethod yX5_addStop ∈ kAL := al_in (List.mem_of_getElem? (i := 496) (by decide +kernel)) rfl
theorem al_266 : Cond.selects RX5 yX5_addStop yX5_addStop ∈ kAL := al_in (List.mem_of_getElem? (i := 497) (by decide +kernel)) rfl
theorem al_267 : Cond.code yX5_addStop cX5_addStop 3 (some .int) ∈ kAL := al_in (List.mem_of_getElem? (i := 498) (by decide +kernel)) rfl
theorem al_284 : Cond.instanceMethod yX7_dropStop ∈ kAL := al_in (List.mem_of_getElem? (i := 500) (by decide +kernel)) rfl
theorem al_285 : Cond.selects RX7 yX7_dropStop yX7_dropStop ∈ kAL := al_in (List.mem_of_getElem? (i := 501) (by decide +kernel)) rfl
theorem al_286 : Cond.code yX7_dropStop cX7_dropStop 2 (some .int) ∈ kAL := al_in (List.mem_of_getElem? (i := 502) (by decide +kernel)) rfl
theorem al_287 : Cond.methodLink RX7 69 yX5_removeStop ∈ kAL := al_in (List.mem_of_getElem? (i := 503) (by decide +kernel)) rfl
theorem al_288 : Cond.instanceMethod yX5_removeStop ∈ kAL := al_in (List.mem_of_getElem? (i := 504) (by decide +kernel)) rfl
theorem al_289 : Cond.selects RX5 yX5_removeStop yX5_removeStop ∈ kAL := al_in (List.mem_of_getElem? (i := 505) (by decide +kernel)) rfl
theorem al_290 : Cond.code yX5_removeStop cX5_removeStop 3 (some .int) ∈ kAL := al_in (List.mem_of_getElem? (i := 506) (by decide +kernel)) rfl
theorem al_296 : Cond.instanceMethod yX7_pass ∈ kAL := al_in (List.mem_of_getElem? (i := 528) (by decide +kernel)) rfl
theorem al_297 : Cond.selects RX7 yX7_pass yX7_pass ∈ kAL := al_in (List.mem_of_getElem? (i := 529) (by decide +kernel)) rfl
theorem al_298 : Cond.code yX7_pass cX7_pass 2 (some .int) ∈ kAL := al_in (List.mem_of_getElem? (i := 530) (by decide +kernel)) rfl
theorem al_299 : Cond.methodLink RX7 72 yX3_passDays ∈ kAL := al_in (List.mem_of_getElem? (i := 531) (by decide +kernel)) rfl
theorem al_300 : Cond.instanceMethod yX3_passDays ∈ kAL := al_in (List.mem_of_getElem? (i := 532) (by decide +kernel)) rfl
theorem al_301 : Cond.selects RX3 yX3_passDays yX3_passDays ∈ kAL := al_in (List.mem_of_getElem? (i := 533) (by decide +kernel)) rfl
theorem al_302 : Cond.code yX3_passDays cX3_passDays 3 (some .int) ∈ kAL := al_in (List.mem_of_getElem? (i := 534) (by decide +kernel)) rfl
theorem al_303 : Cond.methodLink RX3 94 yX3_passDay ∈ kAL := al_in (List.mem_of_getElem? (i := 535) (by decide +kernel)) rfl
theorem al_304 : Cond.instanceMethod yX3_passDay ∈ kAL := al_in (List.mem_of_getElem? (i := 388) (by decide +kernel)) rfl
theorem al_305 : Cond.selects RX3 yX3_passDay yX3_passDay ∈ kAL := al_in (List.mem_of_getElem? (i := 389) (by decide +kernel)) rfl
theorem al_306 : Cond.code yX3_passDay cX3_passDay 2 none ∈ kAL := al_in (List.mem_of_getElem? (i := 390) (by decide +kernel)) rfl
theorem al_307 : Cond.methodLink RX3 98 yX3_loseOldCane ∈ kAL := al_in (List.mem_of_getElem? (i := 391) (by decide +kernel)) rfl
theorem al_308 : Cond.instanceMethod yX3_loseOldCane ∈ kAL := al_in (List.mem_of_getElem? (i := 393) (by decide +kernel)) rfl
theorem al_309 : Cond.selects RX3 yX3_loseOldCane yX3_loseOldCane ∈ kAL := al_in (List.mem_of_getElem? (i := 4) (by decide +kernel)) rfl
theorem al_310 : Cond.code yX3_loseOldCane cX3_loseOldCane 2 none ∈ kAL := al_in (List.mem_of_getElem? (i := 394) (by decide +kernel)) rfl
theorem al_311 : Cond.fieldLink RX3 110 "CaneQuotas$Fields" "count" "I" ∈ kAL := al_in (List.mem_of_getElem? (i := 85) (by decide +kernel)) rfl
theorem al_312 : Cond.fieldLink RX3 113 "CaneQuotas$Fields" "burnt" "[I" ∈ kAL := al_in (List.mem_of_getElem? (i := 75) (by decide +kernel)) rfl
theorem al_313 : Cond.fieldLink RX3 116 "CaneQuotas$Growers" "lost" "[I" ∈ kAL := al_in (List.mem_of_getElem? (i := 47) (by decide +kernel)) rfl
theorem al_314 : Cond.fieldLink RX3 119 "CaneQuotas$Fields" "grower" "[I" ∈ kAL := al_in (List.mem_of_getElem? (i := 69) (by decide +kernel)) rfl
theorem al_315 : Cond.methodLink RX3 122 yX0_loseCane ∈ kAL := al_in (List.mem_of_getElem? (i := 395) (by decide +kernel)) rfl
theorem al_316 : Cond.instanceMethod yX0_loseCane ∈ kAL := al_in (List.mem_of_getElem? (i := 396) (by decide +kernel)) rfl
theorem al_317 : Cond.selects RX0 yX0_loseCane yX0_loseCane ∈ kAL := al_in (List.mem_of_getElem? (i := 397) (by decide +kernel)) rfl
theorem al_318 : Cond.code yX0_loseCane cX0_loseCane 3 (some .int) ∈ kAL := al_in (List.mem_of_getElem? (i := 398) (by decide +kernel)) rfl
theorem al_319 : Cond.methodLink RX3 101 yX3_bringLoads ∈ kAL := al_in (List.mem_of_getElem? (i := 399) (by decide +kernel)) rfl
theorem al_320 : Cond.instanceMethod yX3_bringLoads ∈ kAL := al_in (List.mem_of_getElem? (i := 401) (by decide +kernel)) rfl
theorem al_321 : Cond.selects RX3 yX3_bringLoads yX3_bringLoads ∈ kAL := al_in (List.mem_of_getElem? (i := 5) (by decide +kernel)) rfl
theorem al_322 : Cond.code yX3_bringLoads cX3_bringLoads 3 none ∈ kAL := al_in (List.mem_of_getElem? (i := 402) (by decide +kernel)) rfl
theorem al_323 : Cond.methodLink RX3 126 yX3_nextField ∈ kAL := al_in (List.mem_of_getElem? (i := 403) (by decide +kernel)) rfl
theorem al_324 : Cond.instanceMethod yX3_nextField ∈ kAL := al_in (List.mem_of_getElem? (i := 331) (by decide +kernel)) rfl
theorem al_325 : Cond.selects RX3 yX3_nextField yX3_nextField ∈ kAL := al_in (List.mem_of_getElem? (i := 332) (by decide +kernel)) rfl
theorem al_326 : Cond.code yX3_nextField cX3_nextField 3 (some .int) ∈ kAL := al_in (List.mem_of_getElem? (i := 333) (by decide +kernel)) rfl
theorem al_327 : Cond.methodLink RX3 134 yX3_room ∈ kAL := al_in (List.mem_of_getElem? (i := 334) (by decide +kernel)) rfl
theorem al_328 : Cond.instanceMethod yX3_room ∈ kAL := al_in (List.mem_of_getElem? (i := 336) (by decide +kernel)) rfl
theorem al_329 : Cond.selects RX3 yX3_room yX3_room ∈ kAL := al_in (List.mem_of_getElem? (i := 0) (by decide +kernel)) rfl
theorem al_330 : Cond.code yX3_room cX3_room 1 (some .int) ∈ kAL := al_in (List.mem_of_getElem? (i := 337) (by decide +kernel)) rfl
theorem al_331 : Cond.fieldLink RX3 148 "CaneQuotas$Yard" "loads" "I" ∈ kAL := al_in (List.mem_of_getElem? (i := 134) (by decide +kernel)) rfl
theorem al_332 : Cond.fieldLink RX3 151 "CaneQuotas$Yard" "total" "I" ∈ kAL := al_in (List.mem_of_getElem? (i := 136) (by decide +kernel)) rfl
theorem al_333 : Cond.methodLink RX3 137 yX0_howItIs ∈ kAL := al_in (List.mem_of_getElem? (i := 277) (by decide +kernel)) rfl
theorem al_334 : Cond.instanceMethod yX0_howItIs ∈ kAL := al_in (List.mem_of_getElem? (i := 278) (by decide +kernel)) rfl
theorem al_335 : Cond.selects RX0 yX0_howItIs yX0_howItIs ∈ kAL := al_in (List.mem_of_getElem? (i := 279) (by decide +kernel)) rfl
theorem al_336 : Cond.code yX0_howItIs cX0_howItIs 3 (some .int) ∈ kAL := al_in (List.mem_of_getElem? (i := 280) (by decide +kernel)) rfl
theorem al_337 : Cond.methodLink RX3 141 yX3_quotaOf ∈ kAL := al_in (List.mem_of_getElem? (i := 338) (by decide +kernel)) rfl
theorem al_338 : Cond.instanceMethod yX3_quotaOf ∈ kAL := al_in (List.mem_of_getElem? (i := 340) (by decide +kernel)) rfl
theorem al_339 : Cond.selects RX3 yX3_quotaOf yX3_quotaOf ∈ kAL := al_in (List.mem_of_getElem? (i := 1) (by decide +kernel)) rfl
theorem al_340 : Cond.code yX3_quotaOf cX3_quotaOf 2 (some .int) ∈ kAL := al_in (List.mem_of_getElem? (i := 341) (by decide +kernel)) rfl
theorem al_341 : Cond.methodLink RX3 144 yX3_goesAhead ∈ kAL := al_in (List.mem_of_getElem? (i := 342) (by decide +kernel)) rfl
theorem al_342 : Cond.instanceMethod yX3_goesAhead ∈ kAL := al_in (List.mem_of_getElem? (i := 344) (by decide +kernel)) rfl
theorem al_343 : Cond.selects RX3 yX3_goesAhead yX3_goesAhead ∈ kAL := al_in (List.mem_of_getElem? (i := 2) (by decide +kernel)) rfl
theorem al_344 : Cond.code yX3_goesAhead cX3_goesAhead 5 (some .boolean) ∈ kAL := al_in (List.mem_of_getElem? (i := 345) (by decide +kernel)) rfl
theorem al_345 : Cond.methodLink RX3 130 yX3_bringLoad ∈ kAL := al_in (List.mem_of_getElem? (i := 404) (by decide +kernel)) rfl
theorem al_346 : Cond.instanceMethod yX3_bringLoad ∈ kAL := al_in (List.mem_of_getElem? (i := 406) (by decide +kernel)) rfl
theorem al_347 : Cond.selects RX3 yX3_bringLoad yX3_bringLoad ∈ kAL := al_in (List.mem_of_getElem? (i := 6) (by decide +kernel)) rfl
theorem al_348 : Cond.code yX3_bringLoad cX3_bringLoad 5 none ∈ kAL := al_in (List.mem_of_getElem? (i := 407) (by decide +kernel)) rfl
theorem al_349 : Cond.fieldLink RX3 154 "CaneQuotas$Fields" "left" "[I" ∈ kAL := al_in (List.mem_of_getElem? (i := 77) (by decide +kernel)) rfl
theorem al_350 : Cond.methodLink RX3 157 Lib.Math.min.name ∈ kAL := al_in (List.mem_of_getElem? (i := 408) (by decide +kernel)) rfl
theorem al_351 : Cond.fieldLink RX3 162 "CaneQuotas$Growers" "brought" "[I" ∈ kAL := al_in (List.mem_of_getElem? (i := 43) (by decide +kernel)) rfl
theorem al_352 : Cond.fieldLink RX3 165 "CaneQuotas$Fields" "inYard" "[I" ∈ kAL := al_in (List.mem_of_getElem? (i := 79) (by decide +kernel)) rfl
theorem al_353 : Cond.methodLink RX3 168 yX6_append ∈ kAL := al_in (List.mem_of_getElem? (i := 409) (by decide +kernel)) rfl
theorem al_354 : Cond.instanceMethod yX6_append ∈ kAL := al_in (List.mem_of_getElem? (i := 410) (by decide +kernel)) rfl
theorem al_355 : Cond.selects RX6 yX6_append yX6_append ∈ kAL := al_in (List.mem_of_getElem? (i := 411) (by decide +kernel)) rfl
theorem al_356 : Cond.code yX6_append cX6_append 4 none ∈ kAL := al_in (List.mem_of_getElem? (i := 412) (by decide +kernel)) rfl
theorem al_357 : Cond.methodLink RX3 104 yX5_isStopped ∈ kAL := al_in (List.mem_of_getElem? (i := 413) (by decide +kernel)) rfl
theorem al_358 : Cond.instanceMethod yX5_isStopped ∈ kAL := al_in (List.mem_of_getElem? (i := 414) (by decide +kernel)) rfl
theorem al_359 : Cond.selects RX5 yX5_isStopped yX5_isStopped ∈ kAL := al_in (List.mem_of_getElem? (i := 415) (by decide +kernel)) rfl
theorem al_360 : Cond.code yX5_isStopped cX5_isStopped 3 (some .boolean) ∈ kAL := al_in (List.mem_of_getElem? (i := 416) (by decide +kernel)) rfl
theorem al_361 : Cond.methodLink RX3 107 yX3_crush ∈ kAL := al_in (List.mem_of_getElem? (i := 418) (by decide +kernel)) rfl
theorem al_362 : Cond.instanceMethod yX3_crush ∈ kAL := al_in (List.mem_of_getElem? (i := 420) (by decide +kernel)) rfl
theorem al_363 : Cond.selects RX3 yX3_crush yX3_crush ∈ kAL := al_in (List.mem_of_getElem? (i := 7) (by decide +kernel)) rfl
theorem al_364 : Cond.code yX3_crush cX3_crush 5 none ∈ kAL := al_in (List.mem_of_getElem? (i := 421) (by decide +kernel)) rfl
theorem al_365 : Cond.fieldLink RX3 171 "CaneQuotas$Yard" "tonnes" "[I" ∈ kAL := al_in (List.mem_of_getElem? (i := 131) (by decide +kernel)) rfl
theorem al_366 : Cond.fieldLink RX3 174 "CaneQuotas$Yard" "field" "[I" ∈ kAL := al_in (List.mem_of_getElem? (i := 129) (by decide +kernel)) rfl
theorem al_367 : Cond.methodLink RX3 177 yX3_crushPart ∈ kAL := al_in (List.mem_of_getElem? (i := 422) (by decide +kernel)) rfl
theorem al_368 : Cond.instanceMethod yX3_crushPart ∈ kAL := al_in (List.mem_of_getElem? (i := 424) (by decide +kernel)) rfl
theorem al_369 : Cond.selects RX3 yX3_crushPart yX3_crushPart ∈ kAL := al_in (List.mem_of_getElem? (i := 8) (by decide +kernel)) rfl
theorem al_370 : Cond.code yX3_crushPart cX3_crushPart 5 none ∈ kAL := al_in (List.mem_of_getElem? (i := 425) (by decide +kernel)) rfl
theorem al_371 : Cond.fieldLink RX3 191 "CaneQuotas$Growers" "paid" "[I" ∈ kAL := al_in (List.mem_of_getElem? (i := 49) (by decide +kernel)) rfl
theorem al_372 : Cond.fieldLink RX3 194 "CaneQuotas$Growers" "crushed" "[I" ∈ kAL := al_in (List.mem_of_getElem? (i := 45) (by decide +kernel)) rfl
theorem al_373 : Cond.fieldLink RX3 197 "CaneQuotas$Fields" "crushed" "[I" ∈ kAL := al_in (List.mem_of_getElem? (i := 81) (by decide +kernel)) rfl
theorem al_374 : Cond.methodLink RX3 187 yX0_purityOn ∈ kAL := al_in (List.mem_of_getElem? (i := 281) (by decide +kernel)) rfl
theorem al_375 : Cond.instanceMethod yX0_purityOn ∈ kAL := al_in (List.mem_of_getElem? (i := 282) (by decide +kernel)) rfl
theorem al_376 : Cond.selects RX0 yX0_purityOn yX0_purityOn ∈ kAL := al_in (List.mem_of_getElem? (i := 283) (by decide +kernel)) rfl
theorem al_377 : Cond.code yX0_purityOn cX0_purityOn 5 (some .int) ∈ kAL := al_in (List.mem_of_getElem? (i := 284) (by decide +kernel)) rfl
theorem al_378 : Cond.methodLink RX0 44 Lib.Math.max.name ∈ kAL := al_in (List.mem_of_getElem? (i := 285) (by decide +kernel)) rfl
theorem al_379 : Cond.static Lib.Math.max.name ∈ kAL := al_in (List.mem_of_getElem? (i := 286) (by decide +kernel)) rfl
end
section
theorem al_380 : Cond.code Lib.Math.max.name Lib.Math.max.code 2 (some .int) ∈ kAL := al_in (List.mem_of_getElem? (i := 287) (by decide +kernel)) rfl
theorem al_381 : Cond.methodLink RX3 181 yX6_takeFrom ∈ kAL := al_in (List.mem_of_getElem? (i := 426) (by decide +kernel)) rfl
theorem al_382 : Cond.instanceMethod yX6_takeFrom ∈ kAL := al_in (List.mem_of_getElem? (i := 427) (by decide +kernel)) rfl
theorem al_383 : Cond.selects RX6 yX6_takeFrom yX6_takeFrom ∈ kAL := al_in (List.mem_of_getElem? (i := 428) (by decide +kernel)) rfl
theorem al_384 : Cond.code yX6_takeFrom cX6_takeFrom 3 (some .int) ∈ kAL := al_in (List.mem_of_getElem? (i := 429) (by decide +kernel)) rfl
theorem al_385 : Cond.methodLink RX3 184 yX6_dropFirst ∈ kAL := al_in (List.mem_of_getElem? (i := 430) (by decide +kernel)) rfl
theorem al_386 : Cond.instanceMethod yX6_dropFirst ∈ kAL := al_in (List.mem_of_getElem? (i := 431) (by decide +kernel)) rfl
theorem al_387 : Cond.selects RX6 yX6_dropFirst yX6_dropFirst ∈ kAL := al_in (List.mem_of_getElem? (i := 432) (by decide +kernel)) rfl
theorem al_388 : Cond.code yX6_dropFirst cX6_dropFirst 3 none ∈ kAL := al_in (List.mem_of_getElem? (i := 433) (by decide +kernel)) rfl
theorem al_440 : Cond.instanceMethod yX7_ofField ∈ kAL := al_in (List.mem_of_getElem? (i := 270) (by decide +kernel)) rfl
theorem al_441 : Cond.selects RX7 yX7_ofField yX7_ofField ∈ kAL := al_in (List.mem_of_getElem? (i := 271) (by decide +kernel)) rfl
theorem al_442 : Cond.code yX7_ofField cX7_ofField 3 (some .int) ∈ kAL := al_in (List.mem_of_getElem? (i := 272) (by decide +kernel)) rfl
theorem al_443 : Cond.methodLink RX7 75 yX3_numberOfField ∈ kAL := al_in (List.mem_of_getElem? (i := 273) (by decide +kernel)) rfl
theorem al_444 : Cond.instanceMethod yX3_numberOfField ∈ kAL := al_in (List.mem_of_getElem? (i := 274) (by decide +kernel)) rfl
theorem al_445 : Cond.selects RX3 yX3_numberOfField yX3_numberOfField ∈ kAL := al_in (List.mem_of_getElem? (i := 275) (by decide +kernel)) rfl
theorem al_446 : Cond.code yX3_numberOfField cX3_numberOfField 3 (some .int) ∈ kAL := al_in (List.mem_of_getElem? (i := 276) (by decide +kernel)) rfl
theorem al_447 : Cond.fieldLink RX3 198 "CaneQuotas$Fields" "tonnes" "[I" ∈ kAL := al_in (List.mem_of_getElem? (i := 71) (by decide +kernel)) rfl
theorem al_448 : Cond.fieldLink RX3 199 "CaneQuotas$Fields" "purity" "[I" ∈ kAL := al_in (List.mem_of_getElem? (i := 73) (by decide +kernel)) rfl
theorem al_449 : Cond.fieldLink RX3 202 "CaneQuotas$Fields" "lost" "[I" ∈ kAL := al_in (List.mem_of_getElem? (i := 83) (by decide +kernel)) rfl
theorem al_455 : Cond.instanceMethod yX7_ofGrower ∈ kAL := al_in (List.mem_of_getElem? (i := 298) (by decide +kernel)) rfl
theorem al_456 : Cond.selects RX7 yX7_ofGrower yX7_ofGrower ∈ kAL := al_in (List.mem_of_getElem? (i := 299) (by decide +kernel)) rfl
theorem al_457 : Cond.code yX7_ofGrower cX7_ofGrower 3 (some .int) ∈ kAL := al_in (List.mem_of_getElem? (i := 300) (by decide +kernel)) rfl
theorem al_458 : Cond.methodLink RX7 78 yX3_numberOfGrower ∈ kAL := al_in (List.mem_of_getElem? (i := 301) (by decide +kernel)) rfl
theorem al_459 : Cond.instanceMethod yX3_numberOfGrower ∈ kAL := al_in (List.mem_of_getElem? (i := 302) (by decide +kernel)) rfl
theorem al_460 : Cond.selects RX3 yX3_numberOfGrower yX3_numberOfGrower ∈ kAL := al_in (List.mem_of_getElem? (i := 303) (by decide +kernel)) rfl
theorem al_461 : Cond.code yX3_numberOfGrower cX3_numberOfGrower 3 (some .int) ∈ kAL := al_in (List.mem_of_getElem? (i := 304) (by decide +kernel)) rfl
theorem al_462 : Cond.methodLink RX3 203 yX0_burntCaneOf ∈ kAL := al_in (List.mem_of_getElem? (i := 309) (by decide +kernel)) rfl
theorem al_463 : Cond.instanceMethod yX0_burntCaneOf ∈ kAL := al_in (List.mem_of_getElem? (i := 310) (by decide +kernel)) rfl
theorem al_464 : Cond.selects RX0 yX0_burntCaneOf yX0_burntCaneOf ∈ kAL := al_in (List.mem_of_getElem? (i := 311) (by decide +kernel)) rfl
theorem al_465 : Cond.code yX0_burntCaneOf cX0_burntCaneOf 5 (some .int) ∈ kAL := al_in (List.mem_of_getElem? (i := 312) (by decide +kernel)) rfl
theorem al_466 : Cond.methodLink RX0 50 yX0_howItIs ∈ kAL := al_in (List.mem_of_getElem? (i := 313) (by decide +kernel)) rfl
theorem al_476 : Cond.instanceMethod yX7_load ∈ kAL := al_in (List.mem_of_getElem? (i := 289) (by decide +kernel)) rfl
theorem al_477 : Cond.selects RX7 yX7_load yX7_load ∈ kAL := al_in (List.mem_of_getElem? (i := 290) (by decide +kernel)) rfl
theorem al_478 : Cond.code yX7_load cX7_load 3 (some .int) ∈ kAL := al_in (List.mem_of_getElem? (i := 291) (by decide +kernel)) rfl
theorem al_479 : Cond.fieldLink RX7 81 "CaneQuotas$Mill" "yard" "LCaneQuotas$Yard;" ∈ kAL := al_in (List.mem_of_getElem? (i := 156) (by decide +kernel)) rfl
theorem al_480 : Cond.methodLink RX7 85 yX6_numberOfLoad ∈ kAL := al_in (List.mem_of_getElem? (i := 292) (by decide +kernel)) rfl
theorem al_481 : Cond.instanceMethod yX6_numberOfLoad ∈ kAL := al_in (List.mem_of_getElem? (i := 293) (by decide +kernel)) rfl
theorem al_482 : Cond.selects RX6 yX6_numberOfLoad yX6_numberOfLoad ∈ kAL := al_in (List.mem_of_getElem? (i := 294) (by decide +kernel)) rfl
theorem al_483 : Cond.code yX6_numberOfLoad cX6_numberOfLoad 3 (some .int) ∈ kAL := al_in (List.mem_of_getElem? (i := 295) (by decide +kernel)) rfl
theorem al_489 : Cond.instanceMethod yX7_count ∈ kAL := al_in (List.mem_of_getElem? (i := 241) (by decide +kernel)) rfl
theorem al_490 : Cond.selects RX7 yX7_count yX7_count ∈ kAL := al_in (List.mem_of_getElem? (i := 242) (by decide +kernel)) rfl
theorem al_491 : Cond.code yX7_count cX7_count 2 (some .int) ∈ kAL := al_in (List.mem_of_getElem? (i := 243) (by decide +kernel)) rfl
theorem al_492 : Cond.fieldLink RX7 90 "CaneQuotas$Pad" "length" "I" ∈ kAL := al_in (List.mem_of_getElem? (i := 208) (by decide +kernel)) rfl
theorem al_493 : Cond.fieldLink RX7 94 "CaneQuotas$History" "size" "I" ∈ kAL := al_in (List.mem_of_getElem? (i := 193) (by decide +kernel)) rfl
theorem al_494 : Cond.methodLink RX7 97 yX3_numberOfAll ∈ kAL := al_in (List.mem_of_getElem? (i := 244) (by decide +kernel)) rfl
theorem al_495 : Cond.instanceMethod yX3_numberOfAll ∈ kAL := al_in (List.mem_of_getElem? (i := 245) (by decide +kernel)) rfl
theorem al_496 : Cond.selects RX3 yX3_numberOfAll yX3_numberOfAll ∈ kAL := al_in (List.mem_of_getElem? (i := 246) (by decide +kernel)) rfl
theorem al_497 : Cond.code yX3_numberOfAll cX3_numberOfAll 2 (some .int) ∈ kAL := al_in (List.mem_of_getElem? (i := 247) (by decide +kernel)) rfl
theorem al_498 : Cond.fieldLink RX3 206 "CaneQuotas$Stops" "count" "I" ∈ kAL := al_in (List.mem_of_getElem? (i := 114) (by decide +kernel)) rfl
theorem al_499 : Cond.methodLink RX3 207 yX1_totalCrushed ∈ kAL := al_in (List.mem_of_getElem? (i := 251) (by decide +kernel)) rfl
theorem al_500 : Cond.instanceMethod yX1_totalCrushed ∈ kAL := al_in (List.mem_of_getElem? (i := 252) (by decide +kernel)) rfl
theorem al_501 : Cond.selects RX1 yX1_totalCrushed yX1_totalCrushed ∈ kAL := al_in (List.mem_of_getElem? (i := 253) (by decide +kernel)) rfl
theorem al_502 : Cond.code yX1_totalCrushed cX1_totalCrushed 1 (some .int) ∈ kAL := al_in (List.mem_of_getElem? (i := 254) (by decide +kernel)) rfl
theorem al_503 : Cond.static yX7_sumOf ∈ kAL := al_in (List.mem_of_getElem? (i := 256) (by decide +kernel)) rfl
theorem al_504 : Cond.code yX7_sumOf cX7_sumOf 6 (some .int) ∈ kAL := al_in (List.mem_of_getElem? (i := 257) (by decide +kernel)) rfl
theorem al_505 : Cond.methodLink RX3 210 yX1_totalLost ∈ kAL := al_in (List.mem_of_getElem? (i := 258) (by decide +kernel)) rfl
theorem al_506 : Cond.instanceMethod yX1_totalLost ∈ kAL := al_in (List.mem_of_getElem? (i := 259) (by decide +kernel)) rfl
theorem al_507 : Cond.selects RX1 yX1_totalLost yX1_totalLost ∈ kAL := al_in (List.mem_of_getElem? (i := 260) (by decide +kernel)) rfl
theorem al_508 : Cond.code yX1_totalLost cX1_totalLost 1 (some .int) ∈ kAL := al_in (List.mem_of_getElem? (i := 261) (by decide +kernel)) rfl
theorem al_509 : Cond.methodLink RX3 213 yX1_totalPaid ∈ kAL := al_in (List.mem_of_getElem? (i := 262) (by decide +kernel)) rfl
theorem al_510 : Cond.instanceMethod yX1_totalPaid ∈ kAL := al_in (List.mem_of_getElem? (i := 263) (by decide +kernel)) rfl
theorem al_511 : Cond.selects RX1 yX1_totalPaid yX1_totalPaid ∈ kAL := al_in (List.mem_of_getElem? (i := 264) (by decide +kernel)) rfl
theorem al_512 : Cond.code yX1_totalPaid cX1_totalPaid 1 (some .int) ∈ kAL := al_in (List.mem_of_getElem? (i := 265) (by decide +kernel)) rfl
theorem al_519 : Cond.instanceMethod yX7_fields ∈ kAL := al_in (List.mem_of_getElem? (i := 318) (by decide +kernel)) rfl
theorem al_520 : Cond.selects RX7 yX7_fields yX7_fields ∈ kAL := al_in (List.mem_of_getElem? (i := 319) (by decide +kernel)) rfl
theorem al_521 : Cond.code yX7_fields cX7_fields 2 (some .long) ∈ kAL := al_in (List.mem_of_getElem? (i := 320) (by decide +kernel)) rfl
theorem al_522 : Cond.constantLong RX7 104 (-2) ∈ kAL := al_in (List.mem_of_getElem? (i := 321) (by decide +kernel)) rfl
theorem al_523 : Cond.fieldLink RX7 106 "CaneQuotas$Mill" "fields" "LCaneQuotas$Fields;" ∈ kAL := al_in (List.mem_of_getElem? (i := 152) (by decide +kernel)) rfl
theorem al_524 : Cond.fieldLink RX7 110 "CaneQuotas$Mill" "now" "I" ∈ kAL := al_in (List.mem_of_getElem? (i := 158) (by decide +kernel)) rfl
theorem al_525 : Cond.methodLink RX7 113 yX0_setOf ∈ kAL := al_in (List.mem_of_getElem? (i := 322) (by decide +kernel)) rfl
theorem al_526 : Cond.instanceMethod yX0_setOf ∈ kAL := al_in (List.mem_of_getElem? (i := 323) (by decide +kernel)) rfl
theorem al_527 : Cond.selects RX0 yX0_setOf yX0_setOf ∈ kAL := al_in (List.mem_of_getElem? (i := 324) (by decide +kernel)) rfl
theorem al_528 : Cond.code yX0_setOf cX0_setOf 6 (some .long) ∈ kAL := al_in (List.mem_of_getElem? (i := 325) (by decide +kernel)) rfl
theorem al_535 : Cond.instanceMethod yX7_next ∈ kAL := al_in (List.mem_of_getElem? (i := 327) (by decide +kernel)) rfl
theorem al_536 : Cond.selects RX7 yX7_next yX7_next ∈ kAL := al_in (List.mem_of_getElem? (i := 328) (by decide +kernel)) rfl
theorem al_537 : Cond.code yX7_next cX7_next 1 (some .int) ∈ kAL := al_in (List.mem_of_getElem? (i := 329) (by decide +kernel)) rfl
theorem al_538 : Cond.methodLink RX7 119 yX3_nextField ∈ kAL := al_in (List.mem_of_getElem? (i := 330) (by decide +kernel)) rfl
theorem al_544 : Cond.instanceMethod yX7_then ∈ kAL := al_in (List.mem_of_getElem? (i := 347) (by decide +kernel)) rfl
theorem al_545 : Cond.selects RX7 yX7_then yX7_then ∈ kAL := al_in (List.mem_of_getElem? (i := 348) (by decide +kernel)) rfl
theorem al_546 : Cond.code yX7_then cX7_then 3 (some .int) ∈ kAL := al_in (List.mem_of_getElem? (i := 349) (by decide +kernel)) rfl
theorem al_547 : Cond.fieldLink RX7 127 "CaneQuotas$Mill" "growers" "LCaneQuotas$Growers;" ∈ kAL := al_in (List.mem_of_getElem? (i := 150) (by decide +kernel)) rfl
theorem al_548 : Cond.fieldLink RX7 136 "CaneQuotas$Mill" "sugar" "I" ∈ kAL := al_in (List.mem_of_getElem? (i := 160) (by decide +kernel)) rfl
theorem al_549 : Cond.methodLink RX7 123 yX7_tryDays ∈ kAL := al_in (List.mem_of_getElem? (i := 350) (by decide +kernel)) rfl
theorem al_550 : Cond.instanceMethod yX7_tryDays ∈ kAL := al_in (List.mem_of_getElem? (i := 352) (by decide +kernel)) rfl
theorem al_551 : Cond.selects RX7 yX7_tryDays yX7_tryDays ∈ kAL := al_in (List.mem_of_getElem? (i := 3) (by decide +kernel)) rfl
theorem al_552 : Cond.code yX7_tryDays cX7_tryDays 4 none ∈ kAL := al_in (List.mem_of_getElem? (i := 353) (by decide +kernel)) rfl
theorem al_553 : Cond.methodLink RX7 147 yX3_copyFrom ∈ kAL := al_in (List.mem_of_getElem? (i := 354) (by decide +kernel)) rfl
theorem al_554 : Cond.methodLink RX7 150 yX3_passDay ∈ kAL := al_in (List.mem_of_getElem? (i := 387) (by decide +kernel)) rfl
theorem al_555 : Cond.methodLink RX7 131 yX1_totalLost ∈ kAL := al_in (List.mem_of_getElem? (i := 434) (by decide +kernel)) rfl
theorem al_556 : Cond.methodLink RX7 139 yX1_totalPaid ∈ kAL := al_in (List.mem_of_getElem? (i := 435) (by decide +kernel)) rfl
theorem al_579 : Cond.instanceMethod yX7_stopCosts ∈ kAL := al_in (List.mem_of_getElem? (i := 437) (by decide +kernel)) rfl
theorem al_580 : Cond.selects RX7 yX7_stopCosts yX7_stopCosts ∈ kAL := al_in (List.mem_of_getElem? (i := 438) (by decide +kernel)) rfl
theorem al_581 : Cond.code yX7_stopCosts cX7_stopCosts 4 (some .int) ∈ kAL := al_in (List.mem_of_getElem? (i := 439) (by decide +kernel)) rfl
theorem al_582 : Cond.constant RX7 146 (100000) ∈ kAL := al_in (List.mem_of_getElem? (i := 440) (by decide +kernel)) rfl
theorem al_779 : Cond.instanceMethod yX7_undo ∈ kAL := al_in (List.mem_of_getElem? (i := 520) (by decide +kernel)) rfl
theorem al_780 : Cond.selects RX7 yX7_undo yX7_undo ∈ kAL := al_in (List.mem_of_getElem? (i := 521) (by decide +kernel)) rfl
theorem al_781 : Cond.code yX7_undo cX7_undo 1 (some .int) ∈ kAL := al_in (List.mem_of_getElem? (i := 522) (by decide +kernel)) rfl
theorem al_782 : Cond.methodLink RX7 189 yX2_bringBackLatest ∈ kAL := al_in (List.mem_of_getElem? (i := 523) (by decide +kernel)) rfl
theorem al_783 : Cond.instanceMethod yX2_bringBackLatest ∈ kAL := al_in (List.mem_of_getElem? (i := 524) (by decide +kernel)) rfl
theorem al_784 : Cond.selects RX2 yX2_bringBackLatest yX2_bringBackLatest ∈ kAL := al_in (List.mem_of_getElem? (i := 525) (by decide +kernel)) rfl
theorem al_785 : Cond.code yX2_bringBackLatest cX2_bringBackLatest 3 none ∈ kAL := al_in (List.mem_of_getElem? (i := 526) (by decide +kernel)) rfl
theorem al_5000 : Cond.constant RL 7 (2147483647) ∈ kAL := al_in (List.mem_of_getElem? (i := 452) (by decide +kernel)) rfl
theorem al_5001 : Cond.code yL_low cL_low 2 (some .int) ∈ kAL := al_in (List.mem_of_getElem? (i := 451) (by decide +kernel)) rfl
theorem al_5002 : Cond.constant RL 8 (40503) ∈ kAL := al_in (List.mem_of_getElem? (i := 448) (by decide +kernel)) rfl
theorem al_5003 : Cond.code yL_cell cL_cell 2 (some .int) ∈ kAL := al_in (List.mem_of_getElem? (i := 447) (by decide +kernel)) rfl
theorem al_5004 : Cond.methodLink RL 9 yX7_count ∈ kAL := al_in (List.mem_of_getElem? (i := 240) (by decide +kernel)) rfl
theorem al_5005 : Cond.methodLink RL 15 yX7_ofField ∈ kAL := al_in (List.mem_of_getElem? (i := 269) (by decide +kernel)) rfl
theorem al_5006 : Cond.methodLink RL 19 yX7_load ∈ kAL := al_in (List.mem_of_getElem? (i := 288) (by decide +kernel)) rfl
theorem al_5007 : Cond.methodLink RL 22 yX7_ofGrower ∈ kAL := al_in (List.mem_of_getElem? (i := 297) (by decide +kernel)) rfl
theorem al_5009 : Cond.constant RL 39 (100000) ∈ kAL := al_in (List.mem_of_getElem? (i := 441) (by decide +kernel)) rfl
theorem al_5010 : Cond.methodLink RL 25 yX7_fields ∈ kAL := al_in (List.mem_of_getElem? (i := 317) (by decide +kernel)) rfl
theorem al_5011 : Cond.methodLink RL 29 yX7_next ∈ kAL := al_in (List.mem_of_getElem? (i := 326) (by decide +kernel)) rfl
theorem al_5012 : Cond.methodLink RL 33 yX7_then ∈ kAL := al_in (List.mem_of_getElem? (i := 346) (by decide +kernel)) rfl
theorem al_5013 : Cond.methodLink RL 36 yX7_stopCosts ∈ kAL := al_in (List.mem_of_getElem? (i := 436) (by decide +kernel)) rfl
theorem al_5015 : Cond.methodLink RL 40 yL_cell ∈ kAL := al_in (List.mem_of_getElem? (i := 445) (by decide +kernel)) rfl
theorem al_5016 : Cond.static yL_cell ∈ kAL := al_in (List.mem_of_getElem? (i := 446) (by decide +kernel)) rfl
theorem al_5017 : Cond.initialized RL ∈ kAL := al_in (List.mem_of_getElem? (i := 9) (by decide +kernel)) rfl
theorem al_5018 : Cond.methodLink RL 46 yL_low ∈ kAL := al_in (List.mem_of_getElem? (i := 449) (by decide +kernel)) rfl
theorem al_5019 : Cond.static yL_low ∈ kAL := al_in (List.mem_of_getElem? (i := 450) (by decide +kernel)) rfl
theorem al_5020 : Cond.methodLink RL 49 yX7_field ∈ kAL := al_in (List.mem_of_getElem? (i := 453) (by decide +kernel)) rfl
theorem al_5021 : Cond.methodLink RL 53 yX7_quota ∈ kAL := al_in (List.mem_of_getElem? (i := 475) (by decide +kernel)) rfl
theorem al_5022 : Cond.methodLink RL 56 yX7_lend ∈ kAL := al_in (List.mem_of_getElem? (i := 483) (by decide +kernel)) rfl
theorem al_5023 : Cond.methodLink RL 60 yX7_stop ∈ kAL := al_in (List.mem_of_getElem? (i := 491) (by decide +kernel)) rfl
theorem al_5024 : Cond.methodLink RL 63 yX7_dropStop ∈ kAL := al_in (List.mem_of_getElem? (i := 499) (by decide +kernel)) rfl
theorem al_5025 : Cond.methodLink RL 66 yX7_set ∈ kAL := al_in (List.mem_of_getElem? (i := 507) (by decide +kernel)) rfl
theorem al_5026 : Cond.methodLink RL 69 yX7_undo ∈ kAL := al_in (List.mem_of_getElem? (i := 519) (by decide +kernel)) rfl
theorem al_5027 : Cond.methodLink RL 72 yX7_pass ∈ kAL := al_in (List.mem_of_getElem? (i := 527) (by decide +kernel)) rfl
theorem al_5029 : Cond.classLink RL 10 RX7 ∈ kAL := al_in (List.mem_of_getElem? (i := 20) (by decide +kernel)) rfl
theorem al_5030 : Cond.methodLink RL 75 yX7_init ∈ kAL := al_in (List.mem_of_getElem? (i := 22) (by decide +kernel)) rfl
theorem al_5031 : Cond.methodLink RL 76 yL_act ∈ kAL := al_in (List.mem_of_getElem? (i := 442) (by decide +kernel)) rfl
theorem al_5032 : Cond.static yL_act ∈ kAL := al_in (List.mem_of_getElem? (i := 443) (by decide +kernel)) rfl
theorem al_5033 : Cond.methodLink RL 80 yL_tonnes ∈ kAL := al_in (List.mem_of_getElem? (i := 266) (by decide +kernel)) rfl
theorem al_5034 : Cond.static yL_tonnes ∈ kAL := al_in (List.mem_of_getElem? (i := 267) (by decide +kernel)) rfl
theorem al_5035 : Cond.methodLink RL 84 yL_looks ∈ kAL := al_in (List.mem_of_getElem? (i := 314) (by decide +kernel)) rfl
theorem al_5036 : Cond.static yL_looks ∈ kAL := al_in (List.mem_of_getElem? (i := 315) (by decide +kernel)) rfl
end
section
set_option maxRecDepth 100000 in
theorem al_5008 : Cond.code yL_tonnes cL_tonnes 12 (some .boolean) ∈ kAL := al_in (List.mem_of_getElem? (i := 268) rfl) rfl
set_option maxRecDepth 100000 in
theorem al_5014 : Cond.code yL_looks cL_looks 5 (some .boolean) ∈ kAL := al_in (List.mem_of_getElem? (i := 316) rfl) rfl
set_option maxRecDepth 100000 in
theorem al_5028 : Cond.code yL_act cL_act 7 (some .int) ∈ kAL := al_in (List.mem_of_getElem? (i := 444) rfl) rfl
end
