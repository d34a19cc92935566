theorem goodIn_r {big : List Cond} (ws : List Cond) (ps : List Nat) (hp : ws = ps.filterMap (fun i => big[i]?)) (h : ws.all goodWord = true) : GoodIn big ws := by
  intro w hw
  have h1 := List.all_eq_true.mp h w hw
  rw [hp] at hw
  obtain ⟨i, -, hi⟩ := List.mem_filterMap.mp hw
  have hm : w ∈ big := by first | exact List.mem_of_getElem? hi | exact List.getElem?_mem hi
  exact ⟨hm, good_of_word h1⟩
theorem goodIn_app {big a b : List Cond} (ha : GoodIn big a) (hb : GoodIn big b) : GoodIn big (a ++ b) := fun w h => (List.mem_append.mp h).elim (ha w) (hb w)
theorem goodIn_ca {big a b : List Cond} {c : Cond} (ha : GoodIn big (c :: a)) (hb : GoodIn big b) : GoodIn big (c :: (a ++ b)) := fun w h => (List.mem_cons.mp h).elim (fun e => ha w (List.mem_cons.mpr (Or.inl e))) (fun h => (List.mem_append.mp h).elim (fun h => ha w (List.mem_cons.mpr (Or.inr h))) (hb w))
theorem goodIn_sub {big ws : List Cond} (hm : ∀ w ∈ ws, w ∈ big) (h : ws.all goodWord = true) : GoodIn big ws := fun w hw => ⟨hm w hw, good_of_word (List.all_eq_true.mp h w hw)⟩
def RX0 : String := "CaneQuotas$Fields"
def TX0 : u_T := fun k => match k with
  | 0 => ("CaneQuotas$Fields", "grower", "[I", true)
  | 1 => ("CaneQuotas$Fields", "tonnes", "[I", true)
  | 2 => ("CaneQuotas$Fields", "purity", "[I", true)
  | 3 => ("CaneQuotas$Fields", "burnt", "[I", true)
  | 4 => ("CaneQuotas$Fields", "left", "[I", true)
  | 5 => ("CaneQuotas$Fields", "inYard", "[I", true)
  | 6 => ("CaneQuotas$Fields", "crushed", "[I", true)
  | 7 => ("CaneQuotas$Fields", "lost", "[I", true)
  | _ => ("CaneQuotas$Fields", "count", "I", false)
def tyX0 : Nat → FieldType := fun k => match k with
  | 0 => .array .int
  | 1 => .array .int
  | 2 => .array .int
  | 3 => .array .int
  | 4 => .array .int
  | 5 => .array .int
  | 6 => .array .int
  | 7 => .array .int
  | _ => .int
abbrev wsX00 : List Cond := u_ws RX0 TX0 9
theorem nmX0 : ∀ a, a < 9 → ∀ b, b < 9 → a ≠ b → (TX0 a).2.1 ≠ (TX0 b).2.1 := by decide +kernel
theorem tyX0_ok : ∀ k, k < 9 → parseFieldDescriptor (TX0 k).2.2.1 = some (tyX0 k) := by decide +kernel
abbrev cX0_init : ByteArray := prog_2_method_1_code
def yX0_init : MethodName := ⟨RX0, "<init>", "()V"⟩
abbrev cX0_copyFrom : ByteArray := prog_2_method_2_code
def yX0_copyFrom : MethodName := ⟨RX0, "copyFrom", "(LCaneQuotas$Fields;)V"⟩
abbrev cX0_append : ByteArray := prog_2_method_3_code
def yX0_append : MethodName := ⟨RX0, "append", "(IIII)I"⟩
abbrev cX0_howItIs : ByteArray := prog_2_method_4_code
def yX0_howItIs : MethodName := ⟨RX0, "howItIs", "(II)I"⟩
abbrev cX0_loseCane : ByteArray := prog_2_method_5_code
def yX0_loseCane : MethodName := ⟨RX0, "loseCane", "(I)I"⟩
abbrev cX0_purityOn : ByteArray := prog_2_method_6_code
def yX0_purityOn : MethodName := ⟨RX0, "purityOn", "(III)I"⟩
abbrev cX0_burntCaneOf : ByteArray := prog_2_method_7_code
def yX0_burntCaneOf : MethodName := ⟨RX0, "burntCaneOf", "(II)I"⟩
abbrev cX0_setOf : ByteArray := prog_2_method_8_code
def yX0_setOf : MethodName := ⟨RX0, "setOf", "(II)J"⟩
def RX1 : String := "CaneQuotas$Growers"
def TX1 : u_T := fun k => match k with
  | 0 => ("CaneQuotas$Growers", "quota", "[I", true)
  | 1 => ("CaneQuotas$Growers", "brought", "[I", true)
  | 2 => ("CaneQuotas$Growers", "crushed", "[I", true)
  | 3 => ("CaneQuotas$Growers", "lost", "[I", true)
  | _ => ("CaneQuotas$Growers", "paid", "[I", true)
def tyX1 : Nat → FieldType := fun k => match k with
  | 0 => .array .int
  | 1 => .array .int
  | 2 => .array .int
  | 3 => .array .int
  | _ => .array .int
abbrev wsX10 : List Cond := u_ws RX1 TX1 5
theorem nmX1 : ∀ a, a < 5 → ∀ b, b < 5 → a ≠ b → (TX1 a).2.1 ≠ (TX1 b).2.1 := by decide +kernel
theorem tyX1_ok : ∀ k, k < 5 → parseFieldDescriptor (TX1 k).2.2.1 = some (tyX1 k) := by decide +kernel
abbrev cX1_init : ByteArray := prog_3_method_1_code
def yX1_init : MethodName := ⟨RX1, "<init>", "()V"⟩
abbrev cX1_copyFrom : ByteArray := prog_3_method_2_code
def yX1_copyFrom : MethodName := ⟨RX1, "copyFrom", "(LCaneQuotas$Growers;)V"⟩
abbrev cX1_totalCrushed : ByteArray := prog_3_method_3_code
def yX1_totalCrushed : MethodName := ⟨RX1, "totalCrushed", "()I"⟩
abbrev cX1_totalLost : ByteArray := prog_3_method_4_code
def yX1_totalLost : MethodName := ⟨RX1, "totalLost", "()I"⟩
abbrev cX1_totalPaid : ByteArray := prog_3_method_5_code
def yX1_totalPaid : MethodName := ⟨RX1, "totalPaid", "()I"⟩
def RX2 : String := "CaneQuotas$History"
def TX2 : u_T := fun k => match k with
  | 0 => ("CaneQuotas$History", "states", "[LCaneQuotas$Mill;", true)
  | 1 => ("CaneQuotas$History", "oldest", "I", false)
  | _ => ("CaneQuotas$History", "size", "I", false)
def tyX2 : Nat → FieldType := fun k => match k with
  | 0 => .array (.object "CaneQuotas$Mill")
  | 1 => .int
  | _ => .int
abbrev wsX20 : List Cond := u_ws RX2 TX2 3
theorem nmX2 : ∀ a, a < 3 → ∀ b, b < 3 → a ≠ b → (TX2 a).2.1 ≠ (TX2 b).2.1 := by decide +kernel
theorem tyX2_ok : ∀ k, k < 3 → parseFieldDescriptor (TX2 k).2.2.1 = some (tyX2 k) := by decide +kernel
abbrev cX2_init : ByteArray := prog_4_method_1_code
def yX2_init : MethodName := ⟨RX2, "<init>", "()V"⟩
abbrev cX2_prepare : ByteArray := prog_4_method_2_code
def yX2_prepare : MethodName := ⟨RX2, "prepare", "(LCaneQuotas$Mill;)V"⟩
abbrev cX2_recordUnlessError : ByteArray := prog_4_method_3_code
def yX2_recordUnlessError : MethodName := ⟨RX2, "recordUnlessError", "(I)I"⟩
abbrev cX2_bringBackLatest : ByteArray := prog_4_method_4_code
def yX2_bringBackLatest : MethodName := ⟨RX2, "bringBackLatest", "(LCaneQuotas$Mill;)V"⟩
def RX3 : String := "CaneQuotas$Mill"
def TX3 : u_T := fun k => match k with
  | 0 => ("CaneQuotas$Mill", "settings", "[I", true)
  | 1 => ("CaneQuotas$Mill", "growers", "LCaneQuotas$Growers;", true)
  | 2 => ("CaneQuotas$Mill", "fields", "LCaneQuotas$Fields;", true)
  | 3 => ("CaneQuotas$Mill", "stops", "LCaneQuotas$Stops;", true)
  | 4 => ("CaneQuotas$Mill", "yard", "LCaneQuotas$Yard;", true)
  | 5 => ("CaneQuotas$Mill", "now", "I", false)
  | 6 => ("CaneQuotas$Mill", "sugar", "I", false)
  | 7 => ("CaneQuotas$Mill", "loadsBrought", "I", false)
  | _ => ("CaneQuotas$Mill", "stoppedDays", "I", false)
def tyX3 : Nat → FieldType := fun k => match k with
  | 0 => .array .int
  | 1 => .object "CaneQuotas$Growers"
  | 2 => .object "CaneQuotas$Fields"
  | 3 => .object "CaneQuotas$Stops"
  | 4 => .object "CaneQuotas$Yard"
  | 5 => .int
  | 6 => .int
  | 7 => .int
  | _ => .int
abbrev wsX30 : List Cond := u_ws RX3 TX3 9
theorem nmX3 : ∀ a, a < 9 → ∀ b, b < 9 → a ≠ b → (TX3 a).2.1 ≠ (TX3 b).2.1 := by decide +kernel
theorem tyX3_ok : ∀ k, k < 9 → parseFieldDescriptor (TX3 k).2.2.1 = some (tyX3 k) := by decide +kernel
abbrev cX3_init : ByteArray := prog_5_method_1_code
def yX3_init : MethodName := ⟨RX3, "<init>", "()V"⟩
abbrev cX3_copyFrom : ByteArray := prog_5_method_2_code
def yX3_copyFrom : MethodName := ⟨RX3, "copyFrom", "(LCaneQuotas$Mill;)V"⟩
abbrev cX3_changeSetting : ByteArray := prog_5_method_3_code
def yX3_changeSetting : MethodName := ⟨RX3, "changeSetting", "(II)I"⟩
abbrev cX3_changeQuota : ByteArray := prog_5_method_4_code
def yX3_changeQuota : MethodName := ⟨RX3, "changeQuota", "(II)I"⟩
abbrev cX3_lendQuota : ByteArray := prog_5_method_5_code
def yX3_lendQuota : MethodName := ⟨RX3, "lendQuota", "(III)I"⟩
abbrev cX3_addField : ByteArray := prog_5_method_6_code
def yX3_addField : MethodName := ⟨RX3, "addField", "(IIII)I"⟩
abbrev cX3_passDays : ByteArray := prog_5_method_7_code
def yX3_passDays : MethodName := ⟨RX3, "passDays", "(I)I"⟩
abbrev cX3_passDay : ByteArray := prog_5_method_8_code
def yX3_passDay : MethodName := ⟨RX3, "passDay", "(Z)V"⟩
abbrev cX3_loseOldCane : ByteArray := prog_5_method_9_code
def yX3_loseOldCane : MethodName := ⟨RX3, "loseOldCane", "()V"⟩
abbrev cX3_bringLoads : ByteArray := prog_5_method_10_code
def yX3_bringLoads : MethodName := ⟨RX3, "bringLoads", "()V"⟩
abbrev cX3_nextField : ByteArray := prog_5_method_11_code
def yX3_nextField : MethodName := ⟨RX3, "nextField", "()I"⟩
abbrev cX3_goesAhead : ByteArray := prog_5_method_12_code
def yX3_goesAhead : MethodName := ⟨RX3, "goesAhead", "(II)Z"⟩
abbrev cX3_quotaOf : ByteArray := prog_5_method_13_code
def yX3_quotaOf : MethodName := ⟨RX3, "quotaOf", "(I)I"⟩
abbrev cX3_room : ByteArray := prog_5_method_14_code
def yX3_room : MethodName := ⟨RX3, "room", "()I"⟩
abbrev cX3_bringLoad : ByteArray := prog_5_method_15_code
def yX3_bringLoad : MethodName := ⟨RX3, "bringLoad", "(I)V"⟩
abbrev cX3_crush : ByteArray := prog_5_method_16_code
def yX3_crush : MethodName := ⟨RX3, "crush", "()V"⟩
abbrev cX3_crushPart : ByteArray := prog_5_method_17_code
def yX3_crushPart : MethodName := ⟨RX3, "crushPart", "(II)V"⟩
abbrev cX3_numberOfField : ByteArray := prog_5_method_18_code
def yX3_numberOfField : MethodName := ⟨RX3, "numberOfField", "(II)I"⟩
abbrev cX3_numberOfGrower : ByteArray := prog_5_method_19_code
def yX3_numberOfGrower : MethodName := ⟨RX3, "numberOfGrower", "(II)I"⟩
abbrev cX3_numberOfAll : ByteArray := prog_5_method_20_code
def yX3_numberOfAll : MethodName := ⟨RX3, "numberOfAll", "(I)I"⟩
def RX4 : String := "CaneQuotas$Pad"
def TX4 : u_T := fun k => match k with
  | 0 => ("CaneQuotas$Pad", "signs", "[C", true)
  | 1 => ("CaneQuotas$Pad", "length", "I", false)
  | 2 => ("CaneQuotas$Pad", "at", "I", false)
  | 3 => ("CaneQuotas$Pad", "kind", "C", false)
  | 4 => ("CaneQuotas$Pad", "values", "[I", true)
  | _ => ("CaneQuotas$Pad", "valueCount", "I", false)
def tyX4 : Nat → FieldType := fun k => match k with
  | 0 => .array .char
  | 1 => .int
  | 2 => .int
  | 3 => .char
  | 4 => .array .int
  | _ => .int
abbrev wsX40 : List Cond := u_ws RX4 TX4 6
theorem nmX4 : ∀ a, a < 6 → ∀ b, b < 6 → a ≠ b → (TX4 a).2.1 ≠ (TX4 b).2.1 := by decide +kernel
theorem tyX4_ok : ∀ k, k < 6 → parseFieldDescriptor (TX4 k).2.2.1 = some (tyX4 k) := by decide +kernel
abbrev cX4_init : ByteArray := prog_6_method_1_code
def yX4_init : MethodName := ⟨RX4, "<init>", "()V"⟩
def RX5 : String := "CaneQuotas$Stops"
def TX5 : u_T := fun k => match k with
  | 0 => ("CaneQuotas$Stops", "first", "[I", true)
  | 1 => ("CaneQuotas$Stops", "last", "[I", true)
  | _ => ("CaneQuotas$Stops", "count", "I", false)
def tyX5 : Nat → FieldType := fun k => match k with
  | 0 => .array .int
  | 1 => .array .int
  | _ => .int
abbrev wsX50 : List Cond := u_ws RX5 TX5 3
theorem nmX5 : ∀ a, a < 3 → ∀ b, b < 3 → a ≠ b → (TX5 a).2.1 ≠ (TX5 b).2.1 := by decide +kernel
theorem tyX5_ok : ∀ k, k < 3 → parseFieldDescriptor (TX5 k).2.2.1 = some (tyX5 k) := by decide +kernel
abbrev cX5_init : ByteArray := prog_7_method_1_code
def yX5_init : MethodName := ⟨RX5, "<init>", "()V"⟩
abbrev cX5_copyFrom : ByteArray := prog_7_method_2_code
def yX5_copyFrom : MethodName := ⟨RX5, "copyFrom", "(LCaneQuotas$Stops;)V"⟩
abbrev cX5_addStop : ByteArray := prog_7_method_3_code
def yX5_addStop : MethodName := ⟨RX5, "addStop", "(II)I"⟩
abbrev cX5_removeStop : ByteArray := prog_7_method_4_code
def yX5_removeStop : MethodName := ⟨RX5, "removeStop", "(I)I"⟩
abbrev cX5_isStopped : ByteArray := prog_7_method_5_code
def yX5_isStopped : MethodName := ⟨RX5, "isStopped", "(I)Z"⟩
def RX6 : String := "CaneQuotas$Yard"
def TX6 : u_T := fun k => match k with
  | 0 => ("CaneQuotas$Yard", "field", "[I", true)
  | 1 => ("CaneQuotas$Yard", "tonnes", "[I", true)
  | 2 => ("CaneQuotas$Yard", "day", "[I", true)
  | 3 => ("CaneQuotas$Yard", "loads", "I", false)
  | _ => ("CaneQuotas$Yard", "total", "I", false)
def tyX6 : Nat → FieldType := fun k => match k with
  | 0 => .array .int
  | 1 => .array .int
  | 2 => .array .int
  | 3 => .int
  | _ => .int
abbrev wsX60 : List Cond := u_ws RX6 TX6 5
theorem nmX6 : ∀ a, a < 5 → ∀ b, b < 5 → a ≠ b → (TX6 a).2.1 ≠ (TX6 b).2.1 := by decide +kernel
theorem tyX6_ok : ∀ k, k < 5 → parseFieldDescriptor (TX6 k).2.2.1 = some (tyX6 k) := by decide +kernel
abbrev cX6_init : ByteArray := prog_8_method_1_code
def yX6_init : MethodName := ⟨RX6, "<init>", "()V"⟩
abbrev cX6_copyFrom : ByteArray := prog_8_method_2_code
def yX6_copyFrom : MethodName := ⟨RX6, "copyFrom", "(LCaneQuotas$Yard;)V"⟩
abbrev cX6_append : ByteArray := prog_8_method_3_code
def yX6_append : MethodName := ⟨RX6, "append", "(III)V"⟩
abbrev cX6_takeFrom : ByteArray := prog_8_method_4_code
def yX6_takeFrom : MethodName := ⟨RX6, "takeFrom", "(II)I"⟩
abbrev cX6_dropFirst : ByteArray := prog_8_method_5_code
def yX6_dropFirst : MethodName := ⟨RX6, "dropFirst", "(I)V"⟩
abbrev cX6_numberOfLoad : ByteArray := prog_8_method_6_code
def yX6_numberOfLoad : MethodName := ⟨RX6, "numberOfLoad", "(II)I"⟩
def RX7 : String := "CaneQuotas"
def TX7 : u_T := fun k => match k with
  | 0 => ("CaneQuotas", "mill", "LCaneQuotas$Mill;", true)
  | 1 => ("CaneQuotas", "trial", "LCaneQuotas$Mill;", true)
  | 2 => ("CaneQuotas", "history", "LCaneQuotas$History;", true)
  | 3 => ("CaneQuotas", "slots", "[LCaneQuotas$Mill;", true)
  | _ => ("CaneQuotas", "pad", "LCaneQuotas$Pad;", true)
def tyX7 : Nat → FieldType := fun k => match k with
  | 0 => .object "CaneQuotas$Mill"
  | 1 => .object "CaneQuotas$Mill"
  | 2 => .object "CaneQuotas$History"
  | 3 => .array (.object "CaneQuotas$Mill")
  | _ => .object "CaneQuotas$Pad"
abbrev wsX70 : List Cond := u_ws RX7 TX7 5
theorem nmX7 : ∀ a, a < 5 → ∀ b, b < 5 → a ≠ b → (TX7 a).2.1 ≠ (TX7 b).2.1 := by decide +kernel
theorem tyX7_ok : ∀ k, k < 5 → parseFieldDescriptor (TX7 k).2.2.1 = some (tyX7 k) := by decide +kernel
abbrev cX7_init : ByteArray := prog_1_method_1_code
def yX7_init : MethodName := ⟨RX7, "<init>", "()V"⟩
abbrev cX7_set : ByteArray := prog_1_method_2_code
def yX7_set : MethodName := ⟨RX7, "set", "(II)I"⟩
abbrev cX7_quota : ByteArray := prog_1_method_3_code
def yX7_quota : MethodName := ⟨RX7, "quota", "(II)I"⟩
abbrev cX7_lend : ByteArray := prog_1_method_4_code
def yX7_lend : MethodName := ⟨RX7, "lend", "(III)I"⟩
abbrev cX7_field : ByteArray := prog_1_method_5_code
def yX7_field : MethodName := ⟨RX7, "field", "(IIII)I"⟩
abbrev cX7_stop : ByteArray := prog_1_method_6_code
def yX7_stop : MethodName := ⟨RX7, "stop", "(II)I"⟩
abbrev cX7_dropStop : ByteArray := prog_1_method_7_code
def yX7_dropStop : MethodName := ⟨RX7, "dropStop", "(I)I"⟩
abbrev cX7_pass : ByteArray := prog_1_method_8_code
def yX7_pass : MethodName := ⟨RX7, "pass", "(I)I"⟩
abbrev cX7_ofField : ByteArray := prog_1_method_9_code
def yX7_ofField : MethodName := ⟨RX7, "ofField", "(II)I"⟩
abbrev cX7_ofGrower : ByteArray := prog_1_method_10_code
def yX7_ofGrower : MethodName := ⟨RX7, "ofGrower", "(II)I"⟩
abbrev cX7_load : ByteArray := prog_1_method_11_code
def yX7_load : MethodName := ⟨RX7, "load", "(II)I"⟩
abbrev cX7_count : ByteArray := prog_1_method_12_code
def yX7_count : MethodName := ⟨RX7, "count", "(I)I"⟩
abbrev cX7_fields : ByteArray := prog_1_method_13_code
def yX7_fields : MethodName := ⟨RX7, "fields", "(I)J"⟩
abbrev cX7_next : ByteArray := prog_1_method_14_code
def yX7_next : MethodName := ⟨RX7, "next", "()I"⟩
abbrev cX7_then : ByteArray := prog_1_method_15_code
def yX7_then : MethodName := ⟨RX7, "then", "(II)I"⟩
abbrev cX7_stopCosts : ByteArray := prog_1_method_17_code
def yX7_stopCosts : MethodName := ⟨RX7, "stopCosts", "(II)I"⟩
abbrev cX7_tryDays : ByteArray := prog_1_method_18_code
def yX7_tryDays : MethodName := ⟨RX7, "tryDays", "(II)V"⟩
abbrev cX7_undo : ByteArray := prog_1_method_25_code
def yX7_undo : MethodName := ⟨RX7, "undo", "()I"⟩
abbrev cX7_isWithin : ByteArray := prog_1_method_28_code
def yX7_isWithin : MethodName := ⟨RX7, "isWithin", "(III)Z"⟩
abbrev cX7_isGrower : ByteArray := prog_1_method_29_code
def yX7_isGrower : MethodName := ⟨RX7, "isGrower", "(I)Z"⟩
abbrev cX7_copyRow : ByteArray := prog_1_method_30_code
def yX7_copyRow : MethodName := ⟨RX7, "copyRow", "([I[II)V"⟩
abbrev cX7_sumOf : ByteArray := prog_1_method_31_code
def yX7_sumOf : MethodName := ⟨RX7, "sumOf", "([I)I"⟩
def RX8 : String := "CaneQuotasModel"
def TX8 : u_T := fun k => match k with
  | _ => ("", "", "", false)
def tyX8 : Nat → FieldType := fun k => match k with
  | _ => .int
abbrev wsX80 : List Cond := u_ws RX8 TX8 0
theorem nmX8 : ∀ a, a < 0 → ∀ b, b < 0 → a ≠ b → (TX8 a).2.1 ≠ (TX8 b).2.1 := by decide +kernel
theorem tyX8_ok : ∀ k, k < 0 → parseFieldDescriptor (TX8 k).2.2.1 = some (tyX8 k) := by decide +kernel
def RJ9 : String := "java/lang/Math"
def TJ9 : u_T := fun k => match k with
  | _ => ("", "", "", false)
def tyJ9 : Nat → FieldType := fun k => match k with
  | _ => .int
abbrev wsJ90 : List Cond := u_ws RJ9 TJ9 0
theorem nmJ9 : ∀ a, a < 0 → ∀ b, b < 0 → a ≠ b → (TJ9 a).2.1 ≠ (TJ9 b).2.1 := by decide +kernel
theorem tyJ9_ok : ∀ k, k < 0 → parseFieldDescriptor (TJ9 k).2.2.1 = some (tyJ9 k) := by decide +kernel
abbrev cJ9_max_7cf53 : ByteArray := prog_11_method_65_code
def yJ9_max_7cf53 : MethodName := ⟨RJ9, "max", "(II)I"⟩
abbrev cJ9_min_7cf53 : ByteArray := prog_11_method_69_code
def yJ9_min_7cf53 : MethodName := ⟨RJ9, "min", "(II)I"⟩
def RJ10 : String := "java/lang/System"
def TJ10 : u_T := fun k => match k with
  | _ => ("", "", "", false)
def tyJ10 : Nat → FieldType := fun k => match k with
  | _ => .int
abbrev wsJ100 : List Cond := u_ws RJ10 TJ10 0
theorem nmJ10 : ∀ a, a < 0 → ∀ b, b < 0 → a ≠ b → (TJ10 a).2.1 ≠ (TJ10 b).2.1 := by decide +kernel
theorem tyJ10_ok : ∀ k, k < 0 → parseFieldDescriptor (TJ10 k).2.2.1 = some (tyJ10 k) := by decide +kernel
def RL : String := "CaneQuotasLaw"
abbrev cL_low : ByteArray := method_2_code
def yL_low : MethodName := ⟨RL, "low", "(II)I"⟩
abbrev cL_cell : ByteArray := method_3_code
def yL_cell : MethodName := ⟨RL, "cell", "([II)I"⟩
abbrev cL_tonnes : ByteArray := method_4_code
def yL_tonnes : MethodName := ⟨RL, "tonnes", "(LCaneQuotas;)Z"⟩
abbrev cL_looks : ByteArray := method_5_code
def yL_looks : MethodName := ⟨RL, "looks", "(LCaneQuotas;)Z"⟩
abbrev cL_act : ByteArray := method_6_code
def yL_act : MethodName := ⟨RL, "act", "(LCaneQuotas;[II)I"⟩
abbrev cL_law : ByteArray := code
def yL_law : MethodName := ⟨RL, "law", "([I)Z"⟩
abbrev vwCl : List vw_C := [(RX0, TX0, 9), (RX1, TX1, 5), (RX2, TX2, 3), (RX3, TX3, 9), (RX4, TX4, 6), (RX5, TX5, 3), (RX6, TX6, 5), (RX7, TX7, 5)]
