section
-- ===== PART A: goes FIRST, ahead of the names: the tables' words, and 'selects' of the private methods out of them =====
/-- a private method of a class that the tables say can be made, by its rows of tables_1 -/
def lw_okq (q : MethodName × Nat) : Prop := (q.1.cls ≠ "java/lang/invoke/MethodHandle" ∧ q.1.cls ≠ "java/lang/invoke/VarHandle") ∧ Cond.instantiable q.1.cls q.2 ∈ tables_1 ∧ Cond.privateMethod q.1 ∈ tables_1 ∧ Cond.instanceMethod q.1 ∈ tables_1
theorem lw_p0 : lw_okq (⟨"CaneQuotas$Mill", "loseOldCane", "()V"⟩, 9) := ⟨⟨by decide +kernel, by decide +kernel⟩, List.mem_of_getElem? (i := 25) (by decide +kernel), List.mem_of_getElem? (i := 363) (by decide +kernel), List.mem_of_getElem? (i := 364) (by decide +kernel)⟩
theorem lw_p1 : lw_okq (⟨"CaneQuotas$Mill", "bringLoads", "()V"⟩, 9) := ⟨⟨by decide +kernel, by decide +kernel⟩, List.mem_of_getElem? (i := 25) (by decide +kernel), List.mem_of_getElem? (i := 371) (by decide +kernel), List.mem_of_getElem? (i := 372) (by decide +kernel)⟩
theorem lw_p2 : lw_okq (⟨"CaneQuotas$Mill", "room", "()I"⟩, 9) := ⟨⟨by decide +kernel, by decide +kernel⟩, List.mem_of_getElem? (i := 25) (by decide +kernel), List.mem_of_getElem? (i := 379) (by decide +kernel), List.mem_of_getElem? (i := 380) (by decide +kernel)⟩
theorem lw_p3 : lw_okq (⟨"CaneQuotas$Mill", "quotaOf", "(I)I"⟩, 9) := ⟨⟨by decide +kernel, by decide +kernel⟩, List.mem_of_getElem? (i := 25) (by decide +kernel), List.mem_of_getElem? (i := 387) (by decide +kernel), List.mem_of_getElem? (i := 388) (by decide +kernel)⟩
theorem lw_p4 : lw_okq (⟨"CaneQuotas$Mill", "goesAhead", "(II)Z"⟩, 9) := ⟨⟨by decide +kernel, by decide +kernel⟩, List.mem_of_getElem? (i := 25) (by decide +kernel), List.mem_of_getElem? (i := 391) (by decide +kernel), List.mem_of_getElem? (i := 392) (by decide +kernel)⟩
theorem lw_p5 : lw_okq (⟨"CaneQuotas$Mill", "bringLoad", "(I)V"⟩, 9) := ⟨⟨by decide +kernel, by decide +kernel⟩, List.mem_of_getElem? (i := 25) (by decide +kernel), List.mem_of_getElem? (i := 395) (by decide +kernel), List.mem_of_getElem? (i := 396) (by decide +kernel)⟩
theorem lw_p6 : lw_okq (⟨"CaneQuotas$Mill", "crush", "()V"⟩, 9) := ⟨⟨by decide +kernel, by decide +kernel⟩, List.mem_of_getElem? (i := 25) (by decide +kernel), List.mem_of_getElem? (i := 408) (by decide +kernel), List.mem_of_getElem? (i := 409) (by decide +kernel)⟩
theorem lw_p7 : lw_okq (⟨"CaneQuotas$Mill", "crushPart", "(II)V"⟩, 9) := ⟨⟨by decide +kernel, by decide +kernel⟩, List.mem_of_getElem? (i := 25) (by decide +kernel), List.mem_of_getElem? (i := 412) (by decide +kernel), List.mem_of_getElem? (i := 413) (by decide +kernel)⟩
theorem lw_p8 : lw_okq (⟨"CaneQuotas", "tryDays", "(II)V"⟩, 5) := ⟨⟨by decide +kernel, by decide +kernel⟩, List.mem_of_getElem? (i := 17) (by decide +kernel), List.mem_of_getElem? (i := 502) (by decide +kernel), List.mem_of_getElem? (i := 503) (by decide +kernel)⟩
theorem lw_p9 : lw_okq (⟨"CaneQuotas", "losesNothing", "(II)Z"⟩, 5) := ⟨⟨by decide +kernel, by decide +kernel⟩, List.mem_of_getElem? (i := 17) (by decide +kernel), List.mem_of_getElem? (i := 514) (by decide +kernel), List.mem_of_getElem? (i := 515) (by decide +kernel)⟩
theorem lw_p10 : lw_okq (⟨"CaneQuotas$Pad", "readPart", "(C)Z"⟩, 6) := ⟨⟨by decide +kernel, by decide +kernel⟩, List.mem_of_getElem? (i := 200) (by decide +kernel), List.mem_of_getElem? (i := 621) (by decide +kernel), List.mem_of_getElem? (i := 622) (by decide +kernel)⟩
theorem lw_p11 : lw_okq (⟨"CaneQuotas$Pad", "readDigit", "()Z"⟩, 6) := ⟨⟨by decide +kernel, by decide +kernel⟩, List.mem_of_getElem? (i := 200) (by decide +kernel), List.mem_of_getElem? (i := 625) (by decide +kernel), List.mem_of_getElem? (i := 626) (by decide +kernel)⟩
theorem lw_p12 : lw_okq (⟨"CaneQuotas$Pad", "digitFollows", "()Z"⟩, 6) := ⟨⟨by decide +kernel, by decide +kernel⟩, List.mem_of_getElem? (i := 200) (by decide +kernel), List.mem_of_getElem? (i := 629) (by decide +kernel), List.mem_of_getElem? (i := 630) (by decide +kernel)⟩
theorem lw_p13 : lw_okq (⟨"CaneQuotas$Pad", "keepValue", "(I)V"⟩, 6) := ⟨⟨by decide +kernel, by decide +kernel⟩, List.mem_of_getElem? (i := 200) (by decide +kernel), List.mem_of_getElem? (i := 633) (by decide +kernel), List.mem_of_getElem? (i := 634) (by decide +kernel)⟩
theorem lw_p14 : lw_okq (⟨"CaneQuotas$Pad", "readNumber", "()Z"⟩, 6) := ⟨⟨by decide +kernel, by decide +kernel⟩, List.mem_of_getElem? (i := 200) (by decide +kernel), List.mem_of_getElem? (i := 637) (by decide +kernel), List.mem_of_getElem? (i := 638) (by decide +kernel)⟩
theorem lw_p15 : lw_okq (⟨"CaneQuotas", "carryOutOrder", "()I"⟩, 5) := ⟨⟨by decide +kernel, by decide +kernel⟩, List.mem_of_getElem? (i := 17) (by decide +kernel), List.mem_of_getElem? (i := 652) (by decide +kernel), List.mem_of_getElem? (i := 653) (by decide +kernel)⟩
def lw_privs_1 : List (MethodName × Nat) := [(⟨"CaneQuotas$Mill", "loseOldCane", "()V"⟩, 9), (⟨"CaneQuotas$Mill", "bringLoads", "()V"⟩, 9), (⟨"CaneQuotas$Mill", "room", "()I"⟩, 9), (⟨"CaneQuotas$Mill", "quotaOf", "(I)I"⟩, 9), (⟨"CaneQuotas$Mill", "goesAhead", "(II)Z"⟩, 9), (⟨"CaneQuotas$Mill", "bringLoad", "(I)V"⟩, 9), (⟨"CaneQuotas$Mill", "crush", "()V"⟩, 9), (⟨"CaneQuotas$Mill", "crushPart", "(II)V"⟩, 9), (⟨"CaneQuotas", "tryDays", "(II)V"⟩, 5), (⟨"CaneQuotas", "losesNothing", "(II)Z"⟩, 5), (⟨"CaneQuotas$Pad", "readPart", "(C)Z"⟩, 6), (⟨"CaneQuotas$Pad", "readDigit", "()Z"⟩, 6), (⟨"CaneQuotas$Pad", "digitFollows", "()Z"⟩, 6), (⟨"CaneQuotas$Pad", "keepValue", "(I)V"⟩, 6), (⟨"CaneQuotas$Pad", "readNumber", "()Z"⟩, 6), (⟨"CaneQuotas", "carryOutOrder", "()I"⟩, 5)]
theorem lw_r1 : ∀ q ∈ lw_privs_1, lw_okq q := List.forall_mem_cons.mpr ⟨lw_p0, List.forall_mem_cons.mpr ⟨lw_p1, List.forall_mem_cons.mpr ⟨lw_p2, List.forall_mem_cons.mpr ⟨lw_p3, List.forall_mem_cons.mpr ⟨lw_p4, List.forall_mem_cons.mpr ⟨lw_p5, List.forall_mem_cons.mpr ⟨lw_p6, List.forall_mem_cons.mpr ⟨lw_p7, List.forall_mem_cons.mpr ⟨lw_p8, List.forall_mem_cons.mpr ⟨lw_p9, List.forall_mem_cons.mpr ⟨lw_p10, List.forall_mem_cons.mpr ⟨lw_p11, List.forall_mem_cons.mpr ⟨lw_p12, List.forall_mem_cons.mpr ⟨lw_p13, List.forall_mem_cons.mpr ⟨lw_p14, List.forall_mem_cons.mpr ⟨lw_p15, fun _ h => absurd h List.not_mem_nil⟩⟩⟩⟩⟩⟩⟩⟩⟩⟩⟩⟩⟩⟩⟩⟩
theorem lw_p16 : lw_okq (⟨"CaneQuotasModel", "records", "()V"⟩, 11) := ⟨⟨by decide +kernel, by decide +kernel⟩, List.mem_of_getElem? (i := 673) (by decide +kernel), List.mem_of_getElem? (i := 732) (by decide +kernel), List.mem_of_getElem? (i := 733) (by decide +kernel)⟩
theorem lw_p17 : lw_okq (⟨"CaneQuotasModel", "changes", "(II)I"⟩, 11) := ⟨⟨by decide +kernel, by decide +kernel⟩, List.mem_of_getElem? (i := 673) (by decide +kernel), List.mem_of_getElem? (i := 743) (by decide +kernel), List.mem_of_getElem? (i := 744) (by decide +kernel)⟩
theorem lw_p18 : lw_okq (⟨"CaneQuotasModel", "mayLend", "(III)I"⟩, 11) := ⟨⟨by decide +kernel, by decide +kernel⟩, List.mem_of_getElem? (i := 673) (by decide +kernel), List.mem_of_getElem? (i := 761) (by decide +kernel), List.mem_of_getElem? (i := 762) (by decide +kernel)⟩
theorem lw_p19 : lw_okq (⟨"CaneQuotasModel", "lends", "(III)I"⟩, 11) := ⟨⟨by decide +kernel, by decide +kernel⟩, List.mem_of_getElem? (i := 673) (by decide +kernel), List.mem_of_getElem? (i := 765) (by decide +kernel), List.mem_of_getElem? (i := 766) (by decide +kernel)⟩
theorem lw_p20 : lw_okq (⟨"CaneQuotasModel", "mayCome", "(IIII)I"⟩, 11) := ⟨⟨by decide +kernel, by decide +kernel⟩, List.mem_of_getElem? (i := 673) (by decide +kernel), List.mem_of_getElem? (i := 773) (by decide +kernel), List.mem_of_getElem? (i := 774) (by decide +kernel)⟩
theorem lw_p21 : lw_okq (⟨"CaneQuotasModel", "comes", "(IIII)I"⟩, 11) := ⟨⟨by decide +kernel, by decide +kernel⟩, List.mem_of_getElem? (i := 673) (by decide +kernel), List.mem_of_getElem? (i := 777) (by decide +kernel), List.mem_of_getElem? (i := 778) (by decide +kernel)⟩
theorem lw_p22 : lw_okq (⟨"CaneQuotasModel", "mayStop", "(II)I"⟩, 11) := ⟨⟨by decide +kernel, by decide +kernel⟩, List.mem_of_getElem? (i := 673) (by decide +kernel), List.mem_of_getElem? (i := 785) (by decide +kernel), List.mem_of_getElem? (i := 786) (by decide +kernel)⟩
theorem lw_p23 : lw_okq (⟨"CaneQuotasModel", "stops", "(II)I"⟩, 11) := ⟨⟨by decide +kernel, by decide +kernel⟩, List.mem_of_getElem? (i := 673) (by decide +kernel), List.mem_of_getElem? (i := 792) (by decide +kernel), List.mem_of_getElem? (i := 793) (by decide +kernel)⟩
theorem lw_p24 : lw_okq (⟨"CaneQuotasModel", "mayPass", "(I)I"⟩, 11) := ⟨⟨by decide +kernel, by decide +kernel⟩, List.mem_of_getElem? (i := 673) (by decide +kernel), List.mem_of_getElem? (i := 804) (by decide +kernel), List.mem_of_getElem? (i := 805) (by decide +kernel)⟩
theorem lw_p25 : lw_okq (⟨"CaneQuotasModel", "burnt", "(I)I"⟩, 11) := ⟨⟨by decide +kernel, by decide +kernel⟩, List.mem_of_getElem? (i := 673) (by decide +kernel), List.mem_of_getElem? (i := 858) (by decide +kernel), List.mem_of_getElem? (i := 859) (by decide +kernel)⟩
theorem lw_p26 : lw_okq (⟨"CaneQuotasModel", "tries", "(II)V"⟩, 11) := ⟨⟨by decide +kernel, by decide +kernel⟩, List.mem_of_getElem? (i := 673) (by decide +kernel), List.mem_of_getElem? (i := 883) (by decide +kernel), List.mem_of_getElem? (i := 884) (by decide +kernel)⟩
theorem lw_p27 : lw_okq (⟨"CaneQuotasModel", "isText", "()Z"⟩, 11) := ⟨⟨by decide +kernel, by decide +kernel⟩, List.mem_of_getElem? (i := 673) (by decide +kernel), List.mem_of_getElem? (i := 915) (by decide +kernel), List.mem_of_getElem? (i := 916) (by decide +kernel)⟩
theorem lw_p28 : lw_okq (⟨"CaneQuotasModel", "isOrder", "()Z"⟩, 11) := ⟨⟨by decide +kernel, by decide +kernel⟩, List.mem_of_getElem? (i := 673) (by decide +kernel), List.mem_of_getElem? (i := 919) (by decide +kernel), List.mem_of_getElem? (i := 920) (by decide +kernel)⟩
theorem lw_p29 : lw_okq (⟨"CaneQuotasModel", "isDigit", "(I)Z"⟩, 11) := ⟨⟨by decide +kernel, by decide +kernel⟩, List.mem_of_getElem? (i := 673) (by decide +kernel), List.mem_of_getElem? (i := 923) (by decide +kernel), List.mem_of_getElem? (i := 924) (by decide +kernel)⟩
theorem lw_p30 : lw_okq (⟨"CaneQuotasModel", "isAt", "(II)Z"⟩, 11) := ⟨⟨by decide +kernel, by decide +kernel⟩, List.mem_of_getElem? (i := 673) (by decide +kernel), List.mem_of_getElem? (i := 927) (by decide +kernel), List.mem_of_getElem? (i := 928) (by decide +kernel)⟩
theorem lw_p31 : lw_okq (⟨"CaneQuotasModel", "isSign", "(I)Z"⟩, 11) := ⟨⟨by decide +kernel, by decide +kernel⟩, List.mem_of_getElem? (i := 673) (by decide +kernel), List.mem_of_getElem? (i := 931) (by decide +kernel), List.mem_of_getElem? (i := 932) (by decide +kernel)⟩
def lw_privs_2 : List (MethodName × Nat) := [(⟨"CaneQuotasModel", "records", "()V"⟩, 11), (⟨"CaneQuotasModel", "changes", "(II)I"⟩, 11), (⟨"CaneQuotasModel", "mayLend", "(III)I"⟩, 11), (⟨"CaneQuotasModel", "lends", "(III)I"⟩, 11), (⟨"CaneQuotasModel", "mayCome", "(IIII)I"⟩, 11), (⟨"CaneQuotasModel", "comes", "(IIII)I"⟩, 11), (⟨"CaneQuotasModel", "mayStop", "(II)I"⟩, 11), (⟨"CaneQuotasModel", "stops", "(II)I"⟩, 11), (⟨"CaneQuotasModel", "mayPass", "(I)I"⟩, 11), (⟨"CaneQuotasModel", "burnt", "(I)I"⟩, 11), (⟨"CaneQuotasModel", "tries", "(II)V"⟩, 11), (⟨"CaneQuotasModel", "isText", "()Z"⟩, 11), (⟨"CaneQuotasModel", "isOrder", "()Z"⟩, 11), (⟨"CaneQuotasModel", "isDigit", "(I)Z"⟩, 11), (⟨"CaneQuotasModel", "isAt", "(II)Z"⟩, 11), (⟨"CaneQuotasModel", "isSign", "(I)Z"⟩, 11)]
theorem lw_r2 : ∀ q ∈ lw_privs_2, lw_okq q := List.forall_mem_cons.mpr ⟨lw_p16, List.forall_mem_cons.mpr ⟨lw_p17, List.forall_mem_cons.mpr ⟨lw_p18, List.forall_mem_cons.mpr ⟨lw_p19, List.forall_mem_cons.mpr ⟨lw_p20, List.forall_mem_cons.mpr ⟨lw_p21, List.forall_mem_cons.mpr ⟨lw_p22, List.forall_mem_cons.mpr ⟨lw_p23, List.forall_mem_cons.mpr ⟨lw_p24, List.forall_mem_cons.mpr ⟨lw_p25, List.forall_mem_cons.mpr ⟨lw_p26, List.forall_mem_cons.mpr ⟨lw_p27, List.forall_mem_cons.mpr ⟨lw_p28, List.forall_mem_cons.mpr ⟨lw_p29, List.forall_mem_cons.mpr ⟨lw_p30, List.forall_mem_cons.mpr ⟨lw_p31, fun _ h => absurd h List.not_mem_nil⟩⟩⟩⟩⟩⟩⟩⟩⟩⟩⟩⟩⟩⟩⟩⟩
theorem lw_p32 : lw_okq (⟨"CaneQuotasModel", "isNumber", "(I)Z"⟩, 11) := ⟨⟨by decide +kernel, by decide +kernel⟩, List.mem_of_getElem? (i := 673) (by decide +kernel), List.mem_of_getElem? (i := 935) (by decide +kernel), List.mem_of_getElem? (i := 936) (by decide +kernel)⟩
theorem lw_p33 : lw_okq (⟨"CaneQuotasModel", "does", "(I)Z"⟩, 11) := ⟨⟨by decide +kernel, by decide +kernel⟩, List.mem_of_getElem? (i := 673) (by decide +kernel), List.mem_of_getElem? (i := 943) (by decide +kernel), List.mem_of_getElem? (i := 944) (by decide +kernel)⟩
theorem lw_p34 : lw_okq (⟨"CaneQuotasModel", "mayDo", "(IIIII)I"⟩, 11) := ⟨⟨by decide +kernel, by decide +kernel⟩, List.mem_of_getElem? (i := 673) (by decide +kernel), List.mem_of_getElem? (i := 947) (by decide +kernel), List.mem_of_getElem? (i := 948) (by decide +kernel)⟩
def lw_privs_3 : List (MethodName × Nat) := [(⟨"CaneQuotasModel", "isNumber", "(I)Z"⟩, 11), (⟨"CaneQuotasModel", "does", "(I)Z"⟩, 11), (⟨"CaneQuotasModel", "mayDo", "(IIIII)I"⟩, 11)]
theorem lw_r3 : ∀ q ∈ lw_privs_3, lw_okq q := List.forall_mem_cons.mpr ⟨lw_p32, List.forall_mem_cons.mpr ⟨lw_p33, List.forall_mem_cons.mpr ⟨lw_p34, fun _ h => absurd h List.not_mem_nil⟩⟩⟩
def lw_privs : List (MethodName × Nat) := lw_privs_1 ++ (lw_privs_2 ++ (lw_privs_3))
def lw_tbl : List Cond := k2_sels lw_privs ++ tables_1
theorem lw_privs_ok : ∀ q ∈ lw_privs, lw_okq q := by
  show ∀ q ∈ lw_privs_1 ++ (lw_privs_2 ++ (lw_privs_3)), lw_okq q
  exact List.forall_mem_append.mpr ⟨lw_r1, List.forall_mem_append.mpr ⟨lw_r2, lw_r3⟩⟩
end
section
theorem goodIn_r {big : List Cond} (ws : List Cond) (ps : List Nat) (hp : ws = ps.filterMap (fun i => big[i]?)) (h : ws.all goodWord = true) : GoodIn big ws := by
  intro w hw
  have h1 := List.all_eq_true.mp h w hw
  rw [hp] at hw
  obtain ⟨i, -, hi⟩ := List.mem_filterMap.mp hw
  have hm : w ∈ big := by first | exact List.mem_of_getElem? hi | exact List.getElem?_mem hi
  exact ⟨hm, good_of_word h1⟩
theorem goodIn_app {big a b : List Cond} (ha : GoodIn big a) (hb : GoodIn big b) : GoodIn big (a ++ b) := fun w h => (List.mem_append.mp h).elim (ha w) (hb w)
theorem goodIn_ca {big a b : List Cond} {c : Cond} (ha : GoodIn big (c :: a)) (hb : GoodIn big b) : GoodIn big (c :: (a ++ b)) := fun w h => (List.mem_cons.mp h).elim (fun e => ha w (List.mem_cons.mpr (Or.inl e))) (fun h => (List.mem_append.mp h).elim (fun h => ha w (List.mem_cons.mpr (Or.inr h))) (hb w))
theorem goodIn_sub {big ws : List Cond} (hm : ∀ w ∈ ws, w ∈ big) (h : ws.all goodWord = true) : GoodIn big ws := fun w hw => ⟨hm w hw, good_of_word (List.all_eq_true.mp h w hw)⟩
def RX0 : String := "CaneQuotas$Fields"
def TX0 : u_T := fun k => match k with
  | 0 => ("CaneQuotas$Fields", "grower", "[I", true)
  | 1 => ("CaneQuotas$Fields", "tonnes", "[I", true)
  | 2 => ("CaneQuotas$Fields", "purity", "[I", true)
  | 3 => ("CaneQuotas$Fields", "burnt", "[I", true)
  | 4 => ("CaneQuotas$Fields", "left", "[I", true)
  | 5 => ("CaneQuotas$Fields", "inYard", "[I", true)
  | 6 => ("CaneQuotas$Fields", "crushed", "[I", true)
  | 7 => ("CaneQuotas$Fields", "lost", "[I", true)
  | _ => ("CaneQuotas$Fields", "count", "I", false)
def tyX0 : Nat → FieldType := fun k => match k with
  | 0 => .array .int
  | 1 => .array .int
  | 2 => .array .int
  | 3 => .array .int
  | 4 => .array .int
  | 5 => .array .int
  | 6 => .array .int
  | 7 => .array .int
  | _ => .int
abbrev wsX00 : List Cond := u_ws RX0 TX0 9
theorem nmX0 : ∀ a, a < 9 → ∀ b, b < 9 → a ≠ b → (TX0 a).2.1 ≠ (TX0 b).2.1 := by decide +kernel
theorem tyX0_ok : ∀ k, k < 9 → parseFieldDescriptor (TX0 k).2.2.1 = some (tyX0 k) := by decide +kernel
abbrev cX0_init : ByteArray := prog_2_method_1_code
def yX0_init : MethodName := ⟨RX0, "<init>", "()V"⟩
abbrev cX0_copyFrom : ByteArray := prog_2_method_2_code
def yX0_copyFrom : MethodName := ⟨RX0, "copyFrom", "(LCaneQuotas$Fields;)V"⟩
abbrev cX0_append : ByteArray := prog_2_method_3_code
def yX0_append : MethodName := ⟨RX0, "append", "(IIII)I"⟩
abbrev cX0_howItIs : ByteArray := prog_2_method_4_code
def yX0_howItIs : MethodName := ⟨RX0, "howItIs", "(II)I"⟩
abbrev cX0_loseCane : ByteArray := prog_2_method_5_code
def yX0_loseCane : MethodName := ⟨RX0, "loseCane", "(I)I"⟩
abbrev cX0_purityOn : ByteArray := prog_2_method_6_code
def yX0_purityOn : MethodName := ⟨RX0, "purityOn", "(III)I"⟩
abbrev cX0_burntCaneOf : ByteArray := prog_2_method_7_code
def yX0_burntCaneOf : MethodName := ⟨RX0, "burntCaneOf", "(II)I"⟩
abbrev cX0_setOf : ByteArray := prog_2_method_8_code
def yX0_setOf : MethodName := ⟨RX0, "setOf", "(II)J"⟩
def RX1 : String := "CaneQuotas$Growers"
def TX1 : u_T := fun k => match k with
  | 0 => ("CaneQuotas$Growers", "quota", "[I", true)
  | 1 => ("CaneQuotas$Growers", "brought", "[I", true)
  | 2 => ("CaneQuotas$Growers", "crushed", "[I", true)
  | 3 => ("CaneQuotas$Growers", "lost", "[I", true)
  | _ => ("CaneQuotas$Growers", "paid", "[I", true)
def tyX1 : Nat → FieldType := fun k => match k with
  | 0 => .array .int
  | 1 => .array .int
  | 2 => .array .int
  | 3 => .array .int
  | _ => .array .int
abbrev wsX10 : List Cond := u_ws RX1 TX1 5
theorem nmX1 : ∀ a, a < 5 → ∀ b, b < 5 → a ≠ b → (TX1 a).2.1 ≠ (TX1 b).2.1 := by decide +kernel
theorem tyX1_ok : ∀ k, k < 5 → parseFieldDescriptor (TX1 k).2.2.1 = some (tyX1 k) := by decide +kernel
abbrev cX1_init : ByteArray := prog_3_method_1_code
def yX1_init : MethodName := ⟨RX1, "<init>", "()V"⟩
abbrev cX1_copyFrom : ByteArray := prog_3_method_2_code
def yX1_copyFrom : MethodName := ⟨RX1, "copyFrom", "(LCaneQuotas$Growers;)V"⟩
abbrev cX1_totalCrushed : ByteArray := prog_3_method_3_code
def yX1_totalCrushed : MethodName := ⟨RX1, "totalCrushed", "()I"⟩
abbrev cX1_totalLost : ByteArray := prog_3_method_4_code
def yX1_totalLost : MethodName := ⟨RX1, "totalLost", "()I"⟩
abbrev cX1_totalPaid : ByteArray := prog_3_method_5_code
def yX1_totalPaid : MethodName := ⟨RX1, "totalPaid", "()I"⟩
def RX2 : String := "CaneQuotas$History"
def TX2 : u_T := fun k => match k with
  | 0 => ("CaneQuotas$History", "states", "[LCaneQuotas$Mill;", true)
  | 1 => ("CaneQuotas$History", "oldest", "I", false)
  | _ => ("CaneQuotas$History", "size", "I", false)
def tyX2 : Nat → FieldType := fun k => match k with
  | 0 => .array (.object "CaneQuotas$Mill")
  | 1 => .int
  | _ => .int
abbrev wsX20 : List Cond := u_ws RX2 TX2 3
theorem nmX2 : ∀ a, a < 3 → ∀ b, b < 3 → a ≠ b → (TX2 a).2.1 ≠ (TX2 b).2.1 := by decide +kernel
theorem tyX2_ok : ∀ k, k < 3 → parseFieldDescriptor (TX2 k).2.2.1 = some (tyX2 k) := by decide +kernel
abbrev cX2_init : ByteArray := prog_4_method_1_code
def yX2_init : MethodName := ⟨RX2, "<init>", "()V"⟩
abbrev cX2_prepare : ByteArray := prog_4_method_2_code
def yX2_prepare : MethodName := ⟨RX2, "prepare", "(LCaneQuotas$Mill;)V"⟩
abbrev cX2_recordUnlessError : ByteArray := prog_4_method_3_code
def yX2_recordUnlessError : MethodName := ⟨RX2, "recordUnlessError", "(I)I"⟩
abbrev cX2_bringBackLatest : ByteArray := prog_4_method_4_code
def yX2_bringBackLatest : MethodName := ⟨RX2, "bringBackLatest", "(LCaneQuotas$Mill;)V"⟩
def RX3 : String := "CaneQuotas$Mill"
def TX3 : u_T := fun k => match k with
  | 0 => ("CaneQuotas$Mill", "settings", "[I", true)
  | 1 => ("CaneQuotas$Mill", "growers", "LCaneQuotas$Growers;", true)
  | 2 => ("CaneQuotas$Mill", "fields", "LCaneQuotas$Fields;", true)
  | 3 => ("CaneQuotas$Mill", "stops", "LCaneQuotas$Stops;", true)
  | 4 => ("CaneQuotas$Mill", "yard", "LCaneQuotas$Yard;", true)
  | 5 => ("CaneQuotas$Mill", "now", "I", false)
  | 6 => ("CaneQuotas$Mill", "sugar", "I", false)
  | 7 => ("CaneQuotas$Mill", "loadsBrought", "I", false)
  | _ => ("CaneQuotas$Mill", "stoppedDays", "I", false)
def tyX3 : Nat → FieldType := fun k => match k with
  | 0 => .array .int
  | 1 => .object "CaneQuotas$Growers"
  | 2 => .object "CaneQuotas$Fields"
  | 3 => .object "CaneQuotas$Stops"
  | 4 => .object "CaneQuotas$Yard"
  | 5 => .int
  | 6 => .int
  | 7 => .int
  | _ => .int
abbrev wsX30 : List Cond := u_ws RX3 TX3 9
theorem nmX3 : ∀ a, a < 9 → ∀ b, b < 9 → a ≠ b → (TX3 a).2.1 ≠ (TX3 b).2.1 := by decide +kernel
theorem tyX3_ok : ∀ k, k < 9 → parseFieldDescriptor (TX3 k).2.2.1 = some (tyX3 k) := by decide +kernel
abbrev cX3_init : ByteArray := prog_5_method_1_code
def yX3_init : MethodName := ⟨RX3, "<init>", "()V"⟩
abbrev cX3_copyFrom : ByteArray := prog_5_method_2_code
def yX3_copyFrom : MethodName := ⟨RX3, "copyFrom", "(LCaneQuotas$Mill;)V"⟩
abbrev cX3_changeSetting : ByteArray := prog_5_method_3_code
def yX3_changeSetting : MethodName := ⟨RX3, "changeSetting", "(II)I"⟩
abbrev cX3_changeQuota : ByteArray := prog_5_method_4_code
def yX3_changeQuota : MethodName := ⟨RX3, "changeQuota", "(II)I"⟩
abbrev cX3_lendQuota : ByteArray := prog_5_method_5_code
def yX3_lendQuota : MethodName := ⟨RX3, "lendQuota", "(III)I"⟩
abbrev cX3_addField : ByteArray := prog_5_method_6_code
def yX3_addField : MethodName := ⟨RX3, "addField", "(IIII)I"⟩
abbrev cX3_passDays : ByteArray := prog_5_method_7_code
def yX3_passDays : MethodName := ⟨RX3, "passDays", "(I)I"⟩
abbrev cX3_passDay : ByteArray := prog_5_method_8_code
def yX3_passDay : MethodName := ⟨RX3, "passDay", "(Z)V"⟩
abbrev cX3_loseOldCane : ByteArray := prog_5_method_9_code
def yX3_loseOldCane : MethodName := ⟨RX3, "loseOldCane", "()V"⟩
abbrev cX3_bringLoads : ByteArray := prog_5_method_10_code
def yX3_bringLoads : MethodName := ⟨RX3, "bringLoads", "()V"⟩
abbrev cX3_nextField : ByteArray := prog_5_method_11_code
def yX3_nextField : MethodName := ⟨RX3, "nextField", "()I"⟩
abbrev cX3_goesAhead : ByteArray := prog_5_method_12_code
def yX3_goesAhead : MethodName := ⟨RX3, "goesAhead", "(II)Z"⟩
abbrev cX3_quotaOf : ByteArray := prog_5_method_13_code
def yX3_quotaOf : MethodName := ⟨RX3, "quotaOf", "(I)I"⟩
abbrev cX3_room : ByteArray := prog_5_method_14_code
def yX3_room : MethodName := ⟨RX3, "room", "()I"⟩
abbrev cX3_bringLoad : ByteArray := prog_5_method_15_code
def yX3_bringLoad : MethodName := ⟨RX3, "bringLoad", "(I)V"⟩
abbrev cX3_crush : ByteArray := prog_5_method_16_code
def yX3_crush : MethodName := ⟨RX3, "crush", "()V"⟩
abbrev cX3_crushPart : ByteArray := prog_5_method_17_code
def yX3_crushPart : MethodName := ⟨RX3, "crushPart", "(II)V"⟩
abbrev cX3_numberOfField : ByteArray := prog_5_method_18_code
def yX3_numberOfField : MethodName := ⟨RX3, "numberOfField", "(II)I"⟩
abbrev cX3_numberOfGrower : ByteArray := prog_5_method_19_code
def yX3_numberOfGrower : MethodName := ⟨RX3, "numberOfGrower", "(II)I"⟩
abbrev cX3_numberOfAll : ByteArray := prog_5_method_20_code
def yX3_numberOfAll : MethodName := ⟨RX3, "numberOfAll", "(I)I"⟩
def RX4 : String := "CaneQuotas$Pad"
def TX4 : u_T := fun k => match k with
  | 0 => ("CaneQuotas$Pad", "signs", "[C", true)
  | 1 => ("CaneQuotas$Pad", "length", "I", false)
  | 2 => ("CaneQuotas$Pad", "at", "I", false)
  | 3 => ("CaneQuotas$Pad", "kind", "C", false)
  | 4 => ("CaneQuotas$Pad", "values", "[I", true)
  | _ => ("CaneQuotas$Pad", "valueCount", "I", false)
def tyX4 : Nat → FieldType := fun k => match k with
  | 0 => .array .char
  | 1 => .int
  | 2 => .int
  | 3 => .char
  | 4 => .array .int
  | _ => .int
abbrev wsX40 : List Cond := u_ws RX4 TX4 6
theorem nmX4 : ∀ a, a < 6 → ∀ b, b < 6 → a ≠ b → (TX4 a).2.1 ≠ (TX4 b).2.1 := by decide +kernel
theorem tyX4_ok : ∀ k, k < 6 → parseFieldDescriptor (TX4 k).2.2.1 = some (tyX4 k) := by decide +kernel
abbrev cX4_init : ByteArray := prog_6_method_1_code
def yX4_init : MethodName := ⟨RX4, "<init>", "()V"⟩
abbrev cX4_append : ByteArray := prog_6_method_2_code
def yX4_append : MethodName := ⟨RX4, "append", "(J)I"⟩
abbrev cX4_countSigns : ByteArray := prog_6_method_3_code
def yX4_countSigns : MethodName := ⟨RX4, "countSigns", "(J)I"⟩
abbrev cX4_empty : ByteArray := prog_6_method_4_code
def yX4_empty : MethodName := ⟨RX4, "empty", "()I"⟩
abbrev cX4_findFault : ByteArray := prog_6_method_5_code
def yX4_findFault : MethodName := ⟨RX4, "findFault", "()I"⟩
abbrev cX4_startReading : ByteArray := prog_6_method_6_code
def yX4_startReading : MethodName := ⟨RX4, "startReading", "()V"⟩
abbrev cX4_readOrder : ByteArray := prog_6_method_7_code
def yX4_readOrder : MethodName := ⟨RX4, "readOrder", "()Z"⟩
abbrev cX4_formOf : ByteArray := prog_6_method_8_code
def yX4_formOf : MethodName := ⟨RX4, "formOf", "(C)Ljava/lang/String;"⟩
abbrev cX4_readPart : ByteArray := prog_6_method_9_code
def yX4_readPart : MethodName := ⟨RX4, "readPart", "(C)Z"⟩
abbrev cX4_readSign : ByteArray := prog_6_method_10_code
def yX4_readSign : MethodName := ⟨RX4, "readSign", "(C)Z"⟩
abbrev cX4_readDigit : ByteArray := prog_6_method_11_code
def yX4_readDigit : MethodName := ⟨RX4, "readDigit", "()Z"⟩
abbrev cX4_readNumber : ByteArray := prog_6_method_12_code
def yX4_readNumber : MethodName := ⟨RX4, "readNumber", "()Z"⟩
abbrev cX4_digitFollows : ByteArray := prog_6_method_13_code
def yX4_digitFollows : MethodName := ⟨RX4, "digitFollows", "()Z"⟩
abbrev cX4_keepValue : ByteArray := prog_6_method_14_code
def yX4_keepValue : MethodName := ⟨RX4, "keepValue", "(I)V"⟩
def RX5 : String := "CaneQuotas$Stops"
def TX5 : u_T := fun k => match k with
  | 0 => ("CaneQuotas$Stops", "first", "[I", true)
  | 1 => ("CaneQuotas$Stops", "last", "[I", true)
  | _ => ("CaneQuotas$Stops", "count", "I", false)
def tyX5 : Nat → FieldType := fun k => match k with
  | 0 => .array .int
  | 1 => .array .int
  | _ => .int
abbrev wsX50 : List Cond := u_ws RX5 TX5 3
theorem nmX5 : ∀ a, a < 3 → ∀ b, b < 3 → a ≠ b → (TX5 a).2.1 ≠ (TX5 b).2.1 := by decide +kernel
theorem tyX5_ok : ∀ k, k < 3 → parseFieldDescriptor (TX5 k).2.2.1 = some (tyX5 k) := by decide +kernel
abbrev cX5_init : ByteArray := prog_7_method_1_code
def yX5_init : MethodName := ⟨RX5, "<init>", "()V"⟩
abbrev cX5_copyFrom : ByteArray := prog_7_method_2_code
def yX5_copyFrom : MethodName := ⟨RX5, "copyFrom", "(LCaneQuotas$Stops;)V"⟩
abbrev cX5_addStop : ByteArray := prog_7_method_3_code
def yX5_addStop : MethodName := ⟨RX5, "addStop", "(II)I"⟩
abbrev cX5_removeStop : ByteArray := prog_7_method_4_code
def yX5_removeStop : MethodName := ⟨RX5, "removeStop", "(I)I"⟩
abbrev cX5_isStopped : ByteArray := prog_7_method_5_code
def yX5_isStopped : MethodName := ⟨RX5, "isStopped", "(I)Z"⟩
def RX6 : String := "CaneQuotas$Yard"
def TX6 : u_T := fun k => match k with
  | 0 => ("CaneQuotas$Yard", "field", "[I", true)
  | 1 => ("CaneQuotas$Yard", "tonnes", "[I", true)
  | 2 => ("CaneQuotas$Yard", "day", "[I", true)
  | 3 => ("CaneQuotas$Yard", "loads", "I", false)
  | _ => ("CaneQuotas$Yard", "total", "I", false)
def tyX6 : Nat → FieldType := fun k => match k with
  | 0 => .array .int
  | 1 => .array .int
  | 2 => .array .int
  | 3 => .int
  | _ => .int
abbrev wsX60 : List Cond := u_ws RX6 TX6 5
theorem nmX6 : ∀ a, a < 5 → ∀ b, b < 5 → a ≠ b → (TX6 a).2.1 ≠ (TX6 b).2.1 := by decide +kernel
theorem tyX6_ok : ∀ k, k < 5 → parseFieldDescriptor (TX6 k).2.2.1 = some (tyX6 k) := by decide +kernel
abbrev cX6_init : ByteArray := prog_8_method_1_code
def yX6_init : MethodName := ⟨RX6, "<init>", "()V"⟩
abbrev cX6_copyFrom : ByteArray := prog_8_method_2_code
def yX6_copyFrom : MethodName := ⟨RX6, "copyFrom", "(LCaneQuotas$Yard;)V"⟩
abbrev cX6_append : ByteArray := prog_8_method_3_code
def yX6_append : MethodName := ⟨RX6, "append", "(III)V"⟩
abbrev cX6_takeFrom : ByteArray := prog_8_method_4_code
def yX6_takeFrom : MethodName := ⟨RX6, "takeFrom", "(II)I"⟩
abbrev cX6_dropFirst : ByteArray := prog_8_method_5_code
def yX6_dropFirst : MethodName := ⟨RX6, "dropFirst", "(I)V"⟩
abbrev cX6_numberOfLoad : ByteArray := prog_8_method_6_code
def yX6_numberOfLoad : MethodName := ⟨RX6, "numberOfLoad", "(II)I"⟩
def RX7 : String := "CaneQuotas"
def TX7 : u_T := fun k => match k with
  | 0 => ("CaneQuotas", "mill", "LCaneQuotas$Mill;", true)
  | 1 => ("CaneQuotas", "trial", "LCaneQuotas$Mill;", true)
  | 2 => ("CaneQuotas", "history", "LCaneQuotas$History;", true)
  | 3 => ("CaneQuotas", "slots", "[LCaneQuotas$Mill;", true)
  | _ => ("CaneQuotas", "pad", "LCaneQuotas$Pad;", true)
def tyX7 : Nat → FieldType := fun k => match k with
  | 0 => .object "CaneQuotas$Mill"
  | 1 => .object "CaneQuotas$Mill"
  | 2 => .object "CaneQuotas$History"
  | 3 => .array (.object "CaneQuotas$Mill")
  | _ => .object "CaneQuotas$Pad"
abbrev wsX70 : List Cond := u_ws RX7 TX7 5
theorem nmX7 : ∀ a, a < 5 → ∀ b, b < 5 → a ≠ b → (TX7 a).2.1 ≠ (TX7 b).2.1 := by decide +kernel
theorem tyX7_ok : ∀ k, k < 5 → parseFieldDescriptor (TX7 k).2.2.1 = some (tyX7 k) := by decide +kernel
abbrev cX7_init : ByteArray := prog_1_method_1_code
def yX7_init : MethodName := ⟨RX7, "<init>", "()V"⟩
abbrev cX7_set : ByteArray := prog_1_method_2_code
def yX7_set : MethodName := ⟨RX7, "set", "(II)I"⟩
abbrev cX7_quota : ByteArray := prog_1_method_3_code
def yX7_quota : MethodName := ⟨RX7, "quota", "(II)I"⟩
abbrev cX7_lend : ByteArray := prog_1_method_4_code
def yX7_lend : MethodName := ⟨RX7, "lend", "(III)I"⟩
abbrev cX7_field : ByteArray := prog_1_method_5_code
def yX7_field : MethodName := ⟨RX7, "field", "(IIII)I"⟩
abbrev cX7_stop : ByteArray := prog_1_method_6_code
def yX7_stop : MethodName := ⟨RX7, "stop", "(II)I"⟩
abbrev cX7_dropStop : ByteArray := prog_1_method_7_code
def yX7_dropStop : MethodName := ⟨RX7, "dropStop", "(I)I"⟩
abbrev cX7_pass : ByteArray := prog_1_method_8_code
def yX7_pass : MethodName := ⟨RX7, "pass", "(I)I"⟩
abbrev cX7_ofField : ByteArray := prog_1_method_9_code
def yX7_ofField : MethodName := ⟨RX7, "ofField", "(II)I"⟩
abbrev cX7_ofGrower : ByteArray := prog_1_method_10_code
def yX7_ofGrower : MethodName := ⟨RX7, "ofGrower", "(II)I"⟩
abbrev cX7_load : ByteArray := prog_1_method_11_code
def yX7_load : MethodName := ⟨RX7, "load", "(II)I"⟩
abbrev cX7_count : ByteArray := prog_1_method_12_code
def yX7_count : MethodName := ⟨RX7, "count", "(I)I"⟩
abbrev cX7_fields : ByteArray := prog_1_method_13_code
def yX7_fields : MethodName := ⟨RX7, "fields", "(I)J"⟩
abbrev cX7_next : ByteArray := prog_1_method_14_code
def yX7_next : MethodName := ⟨RX7, "next", "()I"⟩
abbrev cX7_then : ByteArray := prog_1_method_15_code
def yX7_then : MethodName := ⟨RX7, "then", "(II)I"⟩
abbrev cX7_leastTrucks : ByteArray := prog_1_method_16_code
def yX7_leastTrucks : MethodName := ⟨RX7, "leastTrucks", "(I)I"⟩
abbrev cX7_stopCosts : ByteArray := prog_1_method_17_code
def yX7_stopCosts : MethodName := ⟨RX7, "stopCosts", "(II)I"⟩
abbrev cX7_tryDays : ByteArray := prog_1_method_18_code
def yX7_tryDays : MethodName := ⟨RX7, "tryDays", "(II)V"⟩
abbrev cX7_losesNothing : ByteArray := prog_1_method_19_code
def yX7_losesNothing : MethodName := ⟨RX7, "losesNothing", "(II)Z"⟩
abbrev cX7_put : ByteArray := prog_1_method_20_code
def yX7_put : MethodName := ⟨RX7, "put", "(J)I"⟩
abbrev cX7_wipe : ByteArray := prog_1_method_21_code
def yX7_wipe : MethodName := ⟨RX7, "wipe", "()I"⟩
abbrev cX7_fault : ByteArray := prog_1_method_22_code
def yX7_fault : MethodName := ⟨RX7, "fault", "()I"⟩
abbrev cX7_carryOut : ByteArray := prog_1_method_23_code
def yX7_carryOut : MethodName := ⟨RX7, "carryOut", "()I"⟩
abbrev cX7_carryOutOrder : ByteArray := prog_1_method_24_code
def yX7_carryOutOrder : MethodName := ⟨RX7, "carryOutOrder", "()I"⟩
abbrev cX7_undo : ByteArray := prog_1_method_25_code
def yX7_undo : MethodName := ⟨RX7, "undo", "()I"⟩
abbrev cX7_save : ByteArray := prog_1_method_26_code
def yX7_save : MethodName := ⟨RX7, "save", "(I)I"⟩
abbrev cX7_restore : ByteArray := prog_1_method_27_code
def yX7_restore : MethodName := ⟨RX7, "restore", "(I)I"⟩
abbrev cX7_isWithin : ByteArray := prog_1_method_28_code
def yX7_isWithin : MethodName := ⟨RX7, "isWithin", "(III)Z"⟩
abbrev cX7_isGrower : ByteArray := prog_1_method_29_code
def yX7_isGrower : MethodName := ⟨RX7, "isGrower", "(I)Z"⟩
abbrev cX7_copyRow : ByteArray := prog_1_method_30_code
def yX7_copyRow : MethodName := ⟨RX7, "copyRow", "([I[II)V"⟩
abbrev cX7_sumOf : ByteArray := prog_1_method_31_code
def yX7_sumOf : MethodName := ⟨RX7, "sumOf", "([I)I"⟩
def RX8 : String := "CaneQuotasModel"
def TX8 : u_T := fun k => match k with
  | 0 => ("CaneQuotasModel", "now", "[I", true)
  | 1 => ("CaneQuotasModel", "then", "[I", true)
  | 2 => ("CaneQuotasModel", "past", "[I", true)
  | 3 => ("CaneQuotasModel", "kept", "I", false)
  | 4 => ("CaneQuotasModel", "slots", "[I", true)
  | 5 => ("CaneQuotasModel", "held", "[Z", true)
  | 6 => ("CaneQuotasModel", "pad", "[I", true)
  | 7 => ("CaneQuotasModel", "padded", "I", false)
  | 8 => ("CaneQuotasModel", "at", "I", false)
  | 9 => ("CaneQuotasModel", "orders", "[I", true)
  | _ => ("CaneQuotasModel", "ordered", "I", false)
def tyX8 : Nat → FieldType := fun k => match k with
  | 0 => .array .int
  | 1 => .array .int
  | 2 => .array .int
  | 3 => .int
  | 4 => .array .int
  | 5 => .array .boolean
  | 6 => .array .int
  | 7 => .int
  | 8 => .int
  | 9 => .array .int
  | _ => .int
abbrev wsX80 : List Cond := u_ws RX8 TX8 11
theorem nmX8 : ∀ a, a < 11 → ∀ b, b < 11 → a ≠ b → (TX8 a).2.1 ≠ (TX8 b).2.1 := by decide +kernel
theorem tyX8_ok : ∀ k, k < 11 → parseFieldDescriptor (TX8 k).2.2.1 = some (tyX8 k) := by decide +kernel
abbrev cX8_init : ByteArray := prog_10_method_1_code
def yX8_init : MethodName := ⟨RX8, "<init>", "()V"⟩
abbrev cX8_in : ByteArray := prog_10_method_3_code
def yX8_in : MethodName := ⟨RX8, "in", "(III)Z"⟩
abbrev cX8_of : ByteArray := prog_10_method_4_code
def yX8_of : MethodName := ⟨RX8, "of", "([III)I"⟩
abbrev cX8_isGrower : ByteArray := prog_10_method_5_code
def yX8_isGrower : MethodName := ⟨RX8, "isGrower", "(I)Z"⟩
abbrev cX8_isDay : ByteArray := prog_10_method_6_code
def yX8_isDay : MethodName := ⟨RX8, "isDay", "(I)Z"⟩
abbrev cX8_lays : ByteArray := prog_10_method_7_code
def yX8_lays : MethodName := ⟨RX8, "lays", "([II[II)V"⟩
abbrev cX8_records : ByteArray := prog_10_method_8_code
def yX8_records : MethodName := ⟨RX8, "records", "()V"⟩
abbrev cX8_undo : ByteArray := prog_10_method_9_code
def yX8_undo : MethodName := ⟨RX8, "undo", "()I"⟩
abbrev cX8_save : ByteArray := prog_10_method_10_code
def yX8_save : MethodName := ⟨RX8, "save", "(I)I"⟩
abbrev cX8_restore : ByteArray := prog_10_method_11_code
def yX8_restore : MethodName := ⟨RX8, "restore", "(I)I"⟩
abbrev cX8_how : ByteArray := prog_10_method_12_code
def yX8_how : MethodName := ⟨RX8, "how", "([II)I"⟩
abbrev cX8_purity : ByteArray := prog_10_method_13_code
def yX8_purity : MethodName := ⟨RX8, "purity", "([II)I"⟩
abbrev cX8_inYard : ByteArray := prog_10_method_14_code
def yX8_inYard : MethodName := ⟨RX8, "inYard", "([I)I"⟩
abbrev cX8_loses : ByteArray := prog_10_method_15_code
def yX8_loses : MethodName := ⟨RX8, "loses", "([I)V"⟩
abbrev cX8_isAhead : ByteArray := prog_10_method_16_code
def yX8_isAhead : MethodName := ⟨RX8, "isAhead", "([III)Z"⟩
abbrev cX8_nextField : ByteArray := prog_10_method_17_code
def yX8_nextField : MethodName := ⟨RX8, "nextField", "([I)I"⟩
abbrev cX8_least : ByteArray := prog_10_method_18_code
def yX8_least : MethodName := ⟨RX8, "least", "(II)I"⟩
abbrev cX8_brings : ByteArray := prog_10_method_19_code
def yX8_brings : MethodName := ⟨RX8, "brings", "([II)V"⟩
abbrev cX8_crushes : ByteArray := prog_10_method_20_code
def yX8_crushes : MethodName := ⟨RX8, "crushes", "([III)V"⟩
abbrev cX8_mills : ByteArray := prog_10_method_21_code
def yX8_mills : MethodName := ⟨RX8, "mills", "([I)V"⟩
abbrev cX8_isStopped : ByteArray := prog_10_method_22_code
def yX8_isStopped : MethodName := ⟨RX8, "isStopped", "([I)Z"⟩
abbrev cX8_day : ByteArray := prog_10_method_23_code
def yX8_day : MethodName := ⟨RX8, "day", "([IZ)V"⟩
abbrev cX8_days : ByteArray := prog_10_method_24_code
def yX8_days : MethodName := ⟨RX8, "days", "([III)V"⟩
abbrev cX8_isFor : ByteArray := prog_10_method_25_code
def yX8_isFor : MethodName := ⟨RX8, "isFor", "(II)Z"⟩
abbrev cX8_changes : ByteArray := prog_10_method_26_code
def yX8_changes : MethodName := ⟨RX8, "changes", "(II)I"⟩
abbrev cX8_set : ByteArray := prog_10_method_27_code
def yX8_set : MethodName := ⟨RX8, "set", "(II)I"⟩
abbrev cX8_mayQuota : ByteArray := prog_10_method_28_code
def yX8_mayQuota : MethodName := ⟨RX8, "mayQuota", "(II)I"⟩
abbrev cX8_quota : ByteArray := prog_10_method_29_code
def yX8_quota : MethodName := ⟨RX8, "quota", "(II)I"⟩
abbrev cX8_mayLend : ByteArray := prog_10_method_30_code
def yX8_mayLend : MethodName := ⟨RX8, "mayLend", "(III)I"⟩
abbrev cX8_lends : ByteArray := prog_10_method_31_code
def yX8_lends : MethodName := ⟨RX8, "lends", "(III)I"⟩
abbrev cX8_lend : ByteArray := prog_10_method_32_code
def yX8_lend : MethodName := ⟨RX8, "lend", "(III)I"⟩
abbrev cX8_mayCome : ByteArray := prog_10_method_33_code
def yX8_mayCome : MethodName := ⟨RX8, "mayCome", "(IIII)I"⟩
abbrev cX8_comes : ByteArray := prog_10_method_34_code
def yX8_comes : MethodName := ⟨RX8, "comes", "(IIII)I"⟩
abbrev cX8_field : ByteArray := prog_10_method_35_code
def yX8_field : MethodName := ⟨RX8, "field", "(IIII)I"⟩
abbrev cX8_mayStop : ByteArray := prog_10_method_36_code
def yX8_mayStop : MethodName := ⟨RX8, "mayStop", "(II)I"⟩
abbrev cX8_stops : ByteArray := prog_10_method_37_code
def yX8_stops : MethodName := ⟨RX8, "stops", "(II)I"⟩
abbrev cX8_stop : ByteArray := prog_10_method_38_code
def yX8_stop : MethodName := ⟨RX8, "stop", "(II)I"⟩
abbrev cX8_dropStop : ByteArray := prog_10_method_39_code
def yX8_dropStop : MethodName := ⟨RX8, "dropStop", "(I)I"⟩
abbrev cX8_mayPass : ByteArray := prog_10_method_40_code
def yX8_mayPass : MethodName := ⟨RX8, "mayPass", "(I)I"⟩
abbrev cX8_pass : ByteArray := prog_10_method_41_code
def yX8_pass : MethodName := ⟨RX8, "pass", "(I)I"⟩
abbrev cX8_ofField : ByteArray := prog_10_method_42_code
def yX8_ofField : MethodName := ⟨RX8, "ofField", "(II)I"⟩
abbrev cX8_burnt : ByteArray := prog_10_method_43_code
def yX8_burnt : MethodName := ⟨RX8, "burnt", "(I)I"⟩
abbrev cX8_ofGrower : ByteArray := prog_10_method_44_code
def yX8_ofGrower : MethodName := ⟨RX8, "ofGrower", "(II)I"⟩
abbrev cX8_load : ByteArray := prog_10_method_45_code
def yX8_load : MethodName := ⟨RX8, "load", "(II)I"⟩
abbrev cX8_count : ByteArray := prog_10_method_46_code
def yX8_count : MethodName := ⟨RX8, "count", "(I)I"⟩
abbrev cX8_fields : ByteArray := prog_10_method_47_code
def yX8_fields : MethodName := ⟨RX8, "fields", "(I)J"⟩
abbrev cX8_next : ByteArray := prog_10_method_48_code
def yX8_next : MethodName := ⟨RX8, "next", "()I"⟩
abbrev cX8_tries : ByteArray := prog_10_method_49_code
def yX8_tries : MethodName := ⟨RX8, "tries", "(II)V"⟩
abbrev cX8_then : ByteArray := prog_10_method_50_code
def yX8_then : MethodName := ⟨RX8, "then", "(II)I"⟩
abbrev cX8_leastTrucks : ByteArray := prog_10_method_51_code
def yX8_leastTrucks : MethodName := ⟨RX8, "leastTrucks", "(I)I"⟩
abbrev cX8_stopCosts : ByteArray := prog_10_method_52_code
def yX8_stopCosts : MethodName := ⟨RX8, "stopCosts", "(II)I"⟩
abbrev cX8_byteOf : ByteArray := prog_10_method_53_code
def yX8_byteOf : MethodName := ⟨RX8, "byteOf", "(JI)I"⟩
abbrev cX8_toldBy : ByteArray := prog_10_method_54_code
def yX8_toldBy : MethodName := ⟨RX8, "toldBy", "(J)I"⟩
abbrev cX8_put : ByteArray := prog_10_method_55_code
def yX8_put : MethodName := ⟨RX8, "put", "(J)I"⟩
abbrev cX8_wipe : ByteArray := prog_10_method_56_code
def yX8_wipe : MethodName := ⟨RX8, "wipe", "()I"⟩
abbrev cX8_isAt : ByteArray := prog_10_method_57_code
def yX8_isAt : MethodName := ⟨RX8, "isAt", "(II)Z"⟩
abbrev cX8_isSign : ByteArray := prog_10_method_58_code
def yX8_isSign : MethodName := ⟨RX8, "isSign", "(I)Z"⟩
abbrev cX8_isNumber : ByteArray := prog_10_method_59_code
def yX8_isNumber : MethodName := ⟨RX8, "isNumber", "(I)Z"⟩
abbrev cX8_isDigit : ByteArray := prog_10_method_60_code
def yX8_isDigit : MethodName := ⟨RX8, "isDigit", "(I)Z"⟩
abbrev cX8_isOrder : ByteArray := prog_10_method_61_code
def yX8_isOrder : MethodName := ⟨RX8, "isOrder", "()Z"⟩
abbrev cX8_isText : ByteArray := prog_10_method_62_code
def yX8_isText : MethodName := ⟨RX8, "isText", "()Z"⟩
abbrev cX8_fault : ByteArray := prog_10_method_63_code
def yX8_fault : MethodName := ⟨RX8, "fault", "()I"⟩
abbrev cX8_mayDo : ByteArray := prog_10_method_64_code
def yX8_mayDo : MethodName := ⟨RX8, "mayDo", "(IIIII)I"⟩
abbrev cX8_does : ByteArray := prog_10_method_65_code
def yX8_does : MethodName := ⟨RX8, "does", "(I)Z"⟩
abbrev cX8_carryOut : ByteArray := prog_10_method_66_code
def yX8_carryOut : MethodName := ⟨RX8, "carryOut", "()I"⟩
def RJ9 : String := "java/lang/Math"
def TJ9 : u_T := fun k => match k with
  | _ => ("", "", "", false)
def tyJ9 : Nat → FieldType := fun k => match k with
  | _ => .int
abbrev wsJ90 : List Cond := u_ws RJ9 TJ9 0
theorem nmJ9 : ∀ a, a < 0 → ∀ b, b < 0 → a ≠ b → (TJ9 a).2.1 ≠ (TJ9 b).2.1 := by decide +kernel
theorem tyJ9_ok : ∀ k, k < 0 → parseFieldDescriptor (TJ9 k).2.2.1 = some (tyJ9 k) := by decide +kernel
abbrev cJ9_max_7cf53 : ByteArray := prog_11_method_65_code
def yJ9_max_7cf53 : MethodName := ⟨RJ9, "max", "(II)I"⟩
abbrev cJ9_min_7cf53 : ByteArray := prog_11_method_69_code
def yJ9_min_7cf53 : MethodName := ⟨RJ9, "min", "(II)I"⟩
def RJ0 : String := "java/lang/String"
def TJ0 : u_T := fun k => match k with
  | _ => ("", "", "", false)
def tyJ0 : Nat → FieldType := fun k => match k with
  | _ => .int
abbrev wsJ00 : List Cond := u_ws RJ0 TJ0 0
theorem nmJ0 : ∀ a, a < 0 → ∀ b, b < 0 → a ≠ b → (TJ0 a).2.1 ≠ (TJ0 b).2.1 := by decide +kernel
theorem tyJ0_ok : ∀ k, k < 0 → parseFieldDescriptor (TJ0 k).2.2.1 = some (tyJ0 k) := by decide +kernel
abbrev cJ0_length_8abf5 : ByteArray := prog_12_method_54_code
def yJ0_length_8abf5 : MethodName := ⟨RJ0, "length", "()I"⟩
abbrev cJ0_isEmpty_aae02 : ByteArray := prog_12_method_55_code
def yJ0_isEmpty_aae02 : MethodName := ⟨RJ0, "isEmpty", "()Z"⟩
abbrev cJ0_charAt_5068e : ByteArray := prog_12_method_56_code
def yJ0_charAt_5068e : MethodName := ⟨RJ0, "charAt", "(I)C"⟩
abbrev cJ0_coder_7d493 : ByteArray := prog_12_method_152_code
def yJ0_coder_7d493 : MethodName := ⟨RJ0, "coder", "()B"⟩
abbrev cJ0_isLatin1_aae02 : ByteArray := prog_12_method_154_code
def yJ0_isLatin1_aae02 : MethodName := ⟨RJ0, "isLatin1", "()Z"⟩
abbrev cJ0_checkIndex_df160 : ByteArray := prog_12_method_155_code
def yJ0_checkIndex_df160 : MethodName := ⟨RJ0, "checkIndex", "(II)V"⟩
def RJ1 : String := "java/lang/StringLatin1"
def TJ1 : u_T := fun k => match k with
  | _ => ("", "", "", false)
def tyJ1 : Nat → FieldType := fun k => match k with
  | _ => .int
abbrev wsJ10 : List Cond := u_ws RJ1 TJ1 0
theorem nmJ1 : ∀ a, a < 0 → ∀ b, b < 0 → a ≠ b → (TJ1 a).2.1 ≠ (TJ1 b).2.1 := by decide +kernel
theorem tyJ1_ok : ∀ k, k < 0 → parseFieldDescriptor (TJ1 k).2.2.1 = some (tyJ1 k) := by decide +kernel
abbrev cJ1_charAt_3b067 : ByteArray := prog_13_method_2_code
def yJ1_charAt_3b067 : MethodName := ⟨RJ1, "charAt", "([BI)C"⟩
def RJ2 : String := "java/lang/StringUTF16"
def TJ2 : u_T := fun k => match k with
  | _ => ("", "", "", false)
def tyJ2 : Nat → FieldType := fun k => match k with
  | _ => .int
abbrev wsJ20 : List Cond := u_ws RJ2 TJ2 0
theorem nmJ2 : ∀ a, a < 0 → ∀ b, b < 0 → a ≠ b → (TJ2 a).2.1 ≠ (TJ2 b).2.1 := by decide +kernel
theorem tyJ2_ok : ∀ k, k < 0 → parseFieldDescriptor (TJ2 k).2.2.1 = some (tyJ2 k) := by decide +kernel
abbrev cJ2_getChar_3b067 : ByteArray := prog_14_method_5_code
def yJ2_getChar_3b067 : MethodName := ⟨RJ2, "getChar", "([BI)C"⟩
abbrev cJ2_length_9d52b : ByteArray := prog_14_method_6_code
def yJ2_length_9d52b : MethodName := ⟨RJ2, "length", "([B)I"⟩
abbrev cJ2_charAt_3b067 : ByteArray := prog_14_method_83_code
def yJ2_charAt_3b067 : MethodName := ⟨RJ2, "charAt", "([BI)C"⟩
abbrev cJ2_checkIndex_2214a : ByteArray := prog_14_method_91_code
def yJ2_checkIndex_2214a : MethodName := ⟨RJ2, "checkIndex", "(I[B)V"⟩
def RJ10 : String := "java/lang/System"
def TJ10 : u_T := fun k => match k with
  | _ => ("", "", "", false)
def tyJ10 : Nat → FieldType := fun k => match k with
  | _ => .int
abbrev wsJ100 : List Cond := u_ws RJ10 TJ10 0
theorem nmJ10 : ∀ a, a < 0 → ∀ b, b < 0 → a ≠ b → (TJ10 a).2.1 ≠ (TJ10 b).2.1 := by decide +kernel
theorem tyJ10_ok : ∀ k, k < 0 → parseFieldDescriptor (TJ10 k).2.2.1 = some (tyJ10 k) := by decide +kernel
def RJ3 : String := "jdk/internal/util/Preconditions"
def TJ3 : u_T := fun k => match k with
  | _ => ("", "", "", false)
def tyJ3 : Nat → FieldType := fun k => match k with
  | _ => .int
abbrev wsJ30 : List Cond := u_ws RJ3 TJ3 0
theorem nmJ3 : ∀ a, a < 0 → ∀ b, b < 0 → a ≠ b → (TJ3 a).2.1 ≠ (TJ3 b).2.1 := by decide +kernel
theorem tyJ3_ok : ∀ k, k < 0 → parseFieldDescriptor (TJ3 k).2.2.1 = some (tyJ3 k) := by decide +kernel
abbrev cJ3_checkIndex_8e157 : ByteArray := prog_16_method_11_code
def yJ3_checkIndex_8e157 : MethodName := ⟨RJ3, "checkIndex", "(IILjava/util/function/BiFunction;)I"⟩
def RL : String := "CaneQuotasLaw"
abbrev cL_law : ByteArray := code
def yL_law : MethodName := ⟨RL, "law", "([I)Z"⟩
abbrev vwCl : List vw_C := [(RX0, TX0, 9), (RX1, TX1, 5), (RX2, TX2, 3), (RX3, TX3, 9), (RX4, TX4, 6), (RX5, TX5, 3), (RX6, TX6, 5), (RX7, TX7, 5), (RX8, TX8, 11)]
end
section
theorem dX0_init_0 : decode cX0_init 0 = .ok (.aload_n 0, 1) := by decide +kernel
theorem dX0_init_1 : decode cX0_init 1 = .ok (.invokespecial 3, 3) := by decide +kernel
theorem dX0_init_4 : decode cX0_init 4 = .ok (.aload_n 0, 1) := by decide +kernel
theorem dX0_init_5 : decode cX0_init 5 = .ok (.bipush 30, 2) := by decide +kernel
theorem dX0_init_7 : decode cX0_init 7 = .ok (.newarray .int, 2) := by decide +kernel
theorem dX0_init_9 : decode cX0_init 9 = .ok (.putfield 9, 3) := by decide +kernel
theorem dX0_init_12 : decode cX0_init 12 = .ok (.aload_n 0, 1) := by decide +kernel
theorem dX0_init_13 : decode cX0_init 13 = .ok (.bipush 30, 2) := by decide +kernel
theorem dX0_init_15 : decode cX0_init 15 = .ok (.newarray .int, 2) := by decide +kernel
theorem dX0_init_17 : decode cX0_init 17 = .ok (.putfield 15, 3) := by decide +kernel
theorem dX0_init_20 : decode cX0_init 20 = .ok (.aload_n 0, 1) := by decide +kernel
theorem dX0_init_21 : decode cX0_init 21 = .ok (.bipush 30, 2) := by decide +kernel
theorem dX0_init_23 : decode cX0_init 23 = .ok (.newarray .int, 2) := by decide +kernel
theorem dX0_init_25 : decode cX0_init 25 = .ok (.putfield 18, 3) := by decide +kernel
theorem dX0_init_28 : decode cX0_init 28 = .ok (.aload_n 0, 1) := by decide +kernel
theorem dX0_init_29 : decode cX0_init 29 = .ok (.bipush 30, 2) := by decide +kernel
theorem dX0_init_31 : decode cX0_init 31 = .ok (.newarray .int, 2) := by decide +kernel
theorem dX0_init_33 : decode cX0_init 33 = .ok (.putfield 21, 3) := by decide +kernel
theorem dX0_init_36 : decode cX0_init 36 = .ok (.aload_n 0, 1) := by decide +kernel
theorem dX0_init_37 : decode cX0_init 37 = .ok (.bipush 30, 2) := by decide +kernel
theorem dX0_init_39 : decode cX0_init 39 = .ok (.newarray .int, 2) := by decide +kernel
theorem dX0_init_41 : decode cX0_init 41 = .ok (.putfield 24, 3) := by decide +kernel
theorem dX0_init_44 : decode cX0_init 44 = .ok (.aload_n 0, 1) := by decide +kernel
theorem dX0_init_45 : decode cX0_init 45 = .ok (.bipush 30, 2) := by decide +kernel
theorem dX0_init_47 : decode cX0_init 47 = .ok (.newarray .int, 2) := by decide +kernel
theorem dX0_init_49 : decode cX0_init 49 = .ok (.putfield 27, 3) := by decide +kernel
theorem dX0_init_52 : decode cX0_init 52 = .ok (.aload_n 0, 1) := by decide +kernel
theorem dX0_init_53 : decode cX0_init 53 = .ok (.bipush 30, 2) := by decide +kernel
theorem dX0_init_55 : decode cX0_init 55 = .ok (.newarray .int, 2) := by decide +kernel
theorem dX0_init_57 : decode cX0_init 57 = .ok (.putfield 30, 3) := by decide +kernel
theorem dX0_init_60 : decode cX0_init 60 = .ok (.aload_n 0, 1) := by decide +kernel
theorem dX0_init_61 : decode cX0_init 61 = .ok (.bipush 30, 2) := by decide +kernel
theorem dX0_init_63 : decode cX0_init 63 = .ok (.newarray .int, 2) := by decide +kernel
theorem dX0_init_65 : decode cX0_init 65 = .ok (.putfield 33, 3) := by decide +kernel
theorem dX0_init_68 : decode cX0_init 68 = .ok (.return_, 1) := by decide +kernel
theorem dX0_copyFrom_0 : decode cX0_copyFrom 0 = .ok (.aload_n 0, 1) := by decide +kernel
theorem dX0_copyFrom_1 : decode cX0_copyFrom 1 = .ok (.aload_n 1, 1) := by decide +kernel
theorem dX0_copyFrom_2 : decode cX0_copyFrom 2 = .ok (.getfield 36, 3) := by decide +kernel
theorem dX0_copyFrom_5 : decode cX0_copyFrom 5 = .ok (.putfield 36, 3) := by decide +kernel
theorem dX0_copyFrom_8 : decode cX0_copyFrom 8 = .ok (.aload_n 1, 1) := by decide +kernel
theorem dX0_copyFrom_9 : decode cX0_copyFrom 9 = .ok (.getfield 9, 3) := by decide +kernel
theorem dX0_copyFrom_12 : decode cX0_copyFrom 12 = .ok (.aload_n 0, 1) := by decide +kernel
theorem dX0_copyFrom_13 : decode cX0_copyFrom 13 = .ok (.getfield 9, 3) := by decide +kernel
theorem dX0_copyFrom_16 : decode cX0_copyFrom 16 = .ok (.aload_n 0, 1) := by decide +kernel
theorem dX0_copyFrom_17 : decode cX0_copyFrom 17 = .ok (.getfield 36, 3) := by decide +kernel
theorem dX0_copyFrom_20 : decode cX0_copyFrom 20 = .ok (.invokestatic 40, 3) := by decide +kernel
theorem dX0_copyFrom_23 : decode cX0_copyFrom 23 = .ok (.aload_n 1, 1) := by decide +kernel
theorem dX0_copyFrom_24 : decode cX0_copyFrom 24 = .ok (.getfield 15, 3) := by decide +kernel
theorem dX0_copyFrom_27 : decode cX0_copyFrom 27 = .ok (.aload_n 0, 1) := by decide +kernel
theorem dX0_copyFrom_28 : decode cX0_copyFrom 28 = .ok (.getfield 15, 3) := by decide +kernel
theorem dX0_copyFrom_31 : decode cX0_copyFrom 31 = .ok (.aload_n 0, 1) := by decide +kernel
theorem dX0_copyFrom_32 : decode cX0_copyFrom 32 = .ok (.getfield 36, 3) := by decide +kernel
theorem dX0_copyFrom_35 : decode cX0_copyFrom 35 = .ok (.invokestatic 40, 3) := by decide +kernel
theorem dX0_copyFrom_38 : decode cX0_copyFrom 38 = .ok (.aload_n 1, 1) := by decide +kernel
theorem dX0_copyFrom_39 : decode cX0_copyFrom 39 = .ok (.getfield 18, 3) := by decide +kernel
theorem dX0_copyFrom_42 : decode cX0_copyFrom 42 = .ok (.aload_n 0, 1) := by decide +kernel
theorem dX0_copyFrom_43 : decode cX0_copyFrom 43 = .ok (.getfield 18, 3) := by decide +kernel
theorem dX0_copyFrom_46 : decode cX0_copyFrom 46 = .ok (.aload_n 0, 1) := by decide +kernel
theorem dX0_copyFrom_47 : decode cX0_copyFrom 47 = .ok (.getfield 36, 3) := by decide +kernel
theorem dX0_copyFrom_50 : decode cX0_copyFrom 50 = .ok (.invokestatic 40, 3) := by decide +kernel
theorem dX0_copyFrom_53 : decode cX0_copyFrom 53 = .ok (.aload_n 1, 1) := by decide +kernel
theorem dX0_copyFrom_54 : decode cX0_copyFrom 54 = .ok (.getfield 21, 3) := by decide +kernel
theorem dX0_copyFrom_57 : decode cX0_copyFrom 57 = .ok (.aload_n 0, 1) := by decide +kernel
theorem dX0_copyFrom_58 : decode cX0_copyFrom 58 = .ok (.getfield 21, 3) := by decide +kernel
theorem dX0_copyFrom_61 : decode cX0_copyFrom 61 = .ok (.aload_n 0, 1) := by decide +kernel
theorem dX0_copyFrom_62 : decode cX0_copyFrom 62 = .ok (.getfield 36, 3) := by decide +kernel
theorem dX0_copyFrom_65 : decode cX0_copyFrom 65 = .ok (.invokestatic 40, 3) := by decide +kernel
theorem dX0_copyFrom_68 : decode cX0_copyFrom 68 = .ok (.aload_n 1, 1) := by decide +kernel
theorem dX0_copyFrom_69 : decode cX0_copyFrom 69 = .ok (.getfield 24, 3) := by decide +kernel
theorem dX0_copyFrom_72 : decode cX0_copyFrom 72 = .ok (.aload_n 0, 1) := by decide +kernel
theorem dX0_copyFrom_73 : decode cX0_copyFrom 73 = .ok (.getfield 24, 3) := by decide +kernel
theorem dX0_copyFrom_76 : decode cX0_copyFrom 76 = .ok (.aload_n 0, 1) := by decide +kernel
theorem dX0_copyFrom_77 : decode cX0_copyFrom 77 = .ok (.getfield 36, 3) := by decide +kernel
theorem dX0_copyFrom_80 : decode cX0_copyFrom 80 = .ok (.invokestatic 40, 3) := by decide +kernel
theorem dX0_copyFrom_83 : decode cX0_copyFrom 83 = .ok (.aload_n 1, 1) := by decide +kernel
theorem dX0_copyFrom_84 : decode cX0_copyFrom 84 = .ok (.getfield 27, 3) := by decide +kernel
theorem dX0_copyFrom_87 : decode cX0_copyFrom 87 = .ok (.aload_n 0, 1) := by decide +kernel
theorem dX0_copyFrom_88 : decode cX0_copyFrom 88 = .ok (.getfield 27, 3) := by decide +kernel
theorem dX0_copyFrom_91 : decode cX0_copyFrom 91 = .ok (.aload_n 0, 1) := by decide +kernel
theorem dX0_copyFrom_92 : decode cX0_copyFrom 92 = .ok (.getfield 36, 3) := by decide +kernel
theorem dX0_copyFrom_95 : decode cX0_copyFrom 95 = .ok (.invokestatic 40, 3) := by decide +kernel
theorem dX0_copyFrom_98 : decode cX0_copyFrom 98 = .ok (.aload_n 1, 1) := by decide +kernel
theorem dX0_copyFrom_99 : decode cX0_copyFrom 99 = .ok (.getfield 30, 3) := by decide +kernel
theorem dX0_copyFrom_102 : decode cX0_copyFrom 102 = .ok (.aload_n 0, 1) := by decide +kernel
theorem dX0_copyFrom_103 : decode cX0_copyFrom 103 = .ok (.getfield 30, 3) := by decide +kernel
theorem dX0_copyFrom_106 : decode cX0_copyFrom 106 = .ok (.aload_n 0, 1) := by decide +kernel
theorem dX0_copyFrom_107 : decode cX0_copyFrom 107 = .ok (.getfield 36, 3) := by decide +kernel
theorem dX0_copyFrom_110 : decode cX0_copyFrom 110 = .ok (.invokestatic 40, 3) := by decide +kernel
theorem dX0_copyFrom_113 : decode cX0_copyFrom 113 = .ok (.aload_n 1, 1) := by decide +kernel
theorem dX0_copyFrom_114 : decode cX0_copyFrom 114 = .ok (.getfield 33, 3) := by decide +kernel
theorem dX0_copyFrom_117 : decode cX0_copyFrom 117 = .ok (.aload_n 0, 1) := by decide +kernel
theorem dX0_copyFrom_118 : decode cX0_copyFrom 118 = .ok (.getfield 33, 3) := by decide +kernel
theorem dX0_copyFrom_121 : decode cX0_copyFrom 121 = .ok (.aload_n 0, 1) := by decide +kernel
theorem dX0_copyFrom_122 : decode cX0_copyFrom 122 = .ok (.getfield 36, 3) := by decide +kernel
theorem dX0_copyFrom_125 : decode cX0_copyFrom 125 = .ok (.invokestatic 40, 3) := by decide +kernel
theorem dX0_copyFrom_128 : decode cX0_copyFrom 128 = .ok (.return_, 1) := by decide +kernel
theorem dX0_append_0 : decode cX0_append 0 = .ok (.aload_n 0, 1) := by decide +kernel
theorem dX0_append_1 : decode cX0_append 1 = .ok (.getfield 36, 3) := by decide +kernel
theorem dX0_append_4 : decode cX0_append 4 = .ok (.bipush 30, 2) := by decide +kernel
theorem dX0_append_6 : decode cX0_append 6 = .ok (.if_icmp .lt 6, 3) := by decide +kernel
theorem dX0_append_9 : decode cX0_append 9 = .ok (.bipush (-4), 2) := by decide +kernel
theorem dX0_append_11 : decode cX0_append 11 = .ok (.ireturn, 1) := by decide +kernel
theorem dX0_append_12 : decode cX0_append 12 = .ok (.aload_n 0, 1) := by decide +kernel
theorem dX0_append_13 : decode cX0_append 13 = .ok (.getfield 36, 3) := by decide +kernel
theorem dX0_append_16 : decode cX0_append 16 = .ok (.istore 5, 2) := by decide +kernel
theorem dX0_append_18 : decode cX0_append 18 = .ok (.aload_n 0, 1) := by decide +kernel
theorem dX0_append_19 : decode cX0_append 19 = .ok (.getfield 9, 3) := by decide +kernel
theorem dX0_append_22 : decode cX0_append 22 = .ok (.iload 5, 2) := by decide +kernel
theorem dX0_append_24 : decode cX0_append 24 = .ok (.iload_n 1, 1) := by decide +kernel
theorem dX0_append_25 : decode cX0_append 25 = .ok (.iastore, 1) := by decide +kernel
theorem dX0_append_26 : decode cX0_append 26 = .ok (.aload_n 0, 1) := by decide +kernel
theorem dX0_append_27 : decode cX0_append 27 = .ok (.getfield 15, 3) := by decide +kernel
theorem dX0_append_30 : decode cX0_append 30 = .ok (.iload 5, 2) := by decide +kernel
theorem dX0_append_32 : decode cX0_append 32 = .ok (.iload_n 2, 1) := by decide +kernel
theorem dX0_append_33 : decode cX0_append 33 = .ok (.iastore, 1) := by decide +kernel
theorem dX0_append_34 : decode cX0_append 34 = .ok (.aload_n 0, 1) := by decide +kernel
theorem dX0_append_35 : decode cX0_append 35 = .ok (.getfield 18, 3) := by decide +kernel
theorem dX0_append_38 : decode cX0_append 38 = .ok (.iload 5, 2) := by decide +kernel
theorem dX0_append_40 : decode cX0_append 40 = .ok (.iload_n 3, 1) := by decide +kernel
theorem dX0_append_41 : decode cX0_append 41 = .ok (.iastore, 1) := by decide +kernel
theorem dX0_append_42 : decode cX0_append 42 = .ok (.aload_n 0, 1) := by decide +kernel
theorem dX0_append_43 : decode cX0_append 43 = .ok (.getfield 21, 3) := by decide +kernel
theorem dX0_append_46 : decode cX0_append 46 = .ok (.iload 5, 2) := by decide +kernel
theorem dX0_append_48 : decode cX0_append 48 = .ok (.iload 4, 2) := by decide +kernel
theorem dX0_append_50 : decode cX0_append 50 = .ok (.iastore, 1) := by decide +kernel
theorem dX0_append_51 : decode cX0_append 51 = .ok (.aload_n 0, 1) := by decide +kernel
theorem dX0_append_52 : decode cX0_append 52 = .ok (.getfield 24, 3) := by decide +kernel
theorem dX0_append_55 : decode cX0_append 55 = .ok (.iload 5, 2) := by decide +kernel
theorem dX0_append_57 : decode cX0_append 57 = .ok (.iload_n 2, 1) := by decide +kernel
theorem dX0_append_58 : decode cX0_append 58 = .ok (.iastore, 1) := by decide +kernel
theorem dX0_append_59 : decode cX0_append 59 = .ok (.aload_n 0, 1) := by decide +kernel
theorem dX0_append_60 : decode cX0_append 60 = .ok (.getfield 27, 3) := by decide +kernel
theorem dX0_append_63 : decode cX0_append 63 = .ok (.iload 5, 2) := by decide +kernel
theorem dX0_append_65 : decode cX0_append 65 = .ok (.iconst 0, 1) := by decide +kernel
theorem dX0_append_66 : decode cX0_append 66 = .ok (.iastore, 1) := by decide +kernel
theorem dX0_append_67 : decode cX0_append 67 = .ok (.aload_n 0, 1) := by decide +kernel
theorem dX0_append_68 : decode cX0_append 68 = .ok (.getfield 30, 3) := by decide +kernel
theorem dX0_append_71 : decode cX0_append 71 = .ok (.iload 5, 2) := by decide +kernel
theorem dX0_append_73 : decode cX0_append 73 = .ok (.iconst 0, 1) := by decide +kernel
theorem dX0_append_74 : decode cX0_append 74 = .ok (.iastore, 1) := by decide +kernel
theorem dX0_append_75 : decode cX0_append 75 = .ok (.aload_n 0, 1) := by decide +kernel
theorem dX0_append_76 : decode cX0_append 76 = .ok (.getfield 33, 3) := by decide +kernel
theorem dX0_append_79 : decode cX0_append 79 = .ok (.iload 5, 2) := by decide +kernel
theorem dX0_append_81 : decode cX0_append 81 = .ok (.iconst 0, 1) := by decide +kernel
theorem dX0_append_82 : decode cX0_append 82 = .ok (.iastore, 1) := by decide +kernel
theorem dX0_append_83 : decode cX0_append 83 = .ok (.aload_n 0, 1) := by decide +kernel
theorem dX0_append_84 : decode cX0_append 84 = .ok (.dup, 1) := by decide +kernel
theorem dX0_append_85 : decode cX0_append 85 = .ok (.getfield 36, 3) := by decide +kernel
theorem dX0_append_88 : decode cX0_append 88 = .ok (.iconst 1, 1) := by decide +kernel
theorem dX0_append_89 : decode cX0_append 89 = .ok (.iadd, 1) := by decide +kernel
theorem dX0_append_90 : decode cX0_append 90 = .ok (.putfield 36, 3) := by decide +kernel
theorem dX0_append_93 : decode cX0_append 93 = .ok (.iload 5, 2) := by decide +kernel
theorem dX0_append_95 : decode cX0_append 95 = .ok (.ireturn, 1) := by decide +kernel
theorem dX0_howItIs_0 : decode cX0_howItIs 0 = .ok (.iload_n 2, 1) := by decide +kernel
theorem dX0_howItIs_1 : decode cX0_howItIs 1 = .ok (.aload_n 0, 1) := by decide +kernel
theorem dX0_howItIs_2 : decode cX0_howItIs 2 = .ok (.getfield 21, 3) := by decide +kernel
theorem dX0_howItIs_5 : decode cX0_howItIs 5 = .ok (.iload_n 1, 1) := by decide +kernel
theorem dX0_howItIs_6 : decode cX0_howItIs 6 = .ok (.iaload, 1) := by decide +kernel
theorem dX0_howItIs_7 : decode cX0_howItIs 7 = .ok (.if_icmp .ge 5, 3) := by decide +kernel
theorem dX0_howItIs_10 : decode cX0_howItIs 10 = .ok (.iconst 0, 1) := by decide +kernel
theorem dX0_howItIs_11 : decode cX0_howItIs 11 = .ok (.ireturn, 1) := by decide +kernel
theorem dX0_howItIs_12 : decode cX0_howItIs 12 = .ok (.aload_n 0, 1) := by decide +kernel
theorem dX0_howItIs_13 : decode cX0_howItIs 13 = .ok (.getfield 24, 3) := by decide +kernel
theorem dX0_howItIs_16 : decode cX0_howItIs 16 = .ok (.iload_n 1, 1) := by decide +kernel
theorem dX0_howItIs_17 : decode cX0_howItIs 17 = .ok (.iaload, 1) := by decide +kernel
theorem dX0_howItIs_18 : decode cX0_howItIs 18 = .ok (.ifCond .le 5, 3) := by decide +kernel
theorem dX0_howItIs_21 : decode cX0_howItIs 21 = .ok (.iconst 1, 1) := by decide +kernel
theorem dX0_howItIs_22 : decode cX0_howItIs 22 = .ok (.ireturn, 1) := by decide +kernel
theorem dX0_howItIs_23 : decode cX0_howItIs 23 = .ok (.aload_n 0, 1) := by decide +kernel
theorem dX0_howItIs_24 : decode cX0_howItIs 24 = .ok (.getfield 33, 3) := by decide +kernel
theorem dX0_howItIs_27 : decode cX0_howItIs 27 = .ok (.iload_n 1, 1) := by decide +kernel
theorem dX0_howItIs_28 : decode cX0_howItIs 28 = .ok (.iaload, 1) := by decide +kernel
theorem dX0_howItIs_29 : decode cX0_howItIs 29 = .ok (.ifCond .le 7, 3) := by decide +kernel
theorem dX0_howItIs_32 : decode cX0_howItIs 32 = .ok (.iconst 3, 1) := by decide +kernel
theorem dX0_howItIs_33 : decode cX0_howItIs 33 = .ok (.goto 4, 3) := by decide +kernel
theorem dX0_howItIs_36 : decode cX0_howItIs 36 = .ok (.iconst 2, 1) := by decide +kernel
theorem dX0_howItIs_37 : decode cX0_howItIs 37 = .ok (.ireturn, 1) := by decide +kernel
theorem dX0_loseCane_0 : decode cX0_loseCane 0 = .ok (.aload_n 0, 1) := by decide +kernel
theorem dX0_loseCane_1 : decode cX0_loseCane 1 = .ok (.getfield 24, 3) := by decide +kernel
theorem dX0_loseCane_4 : decode cX0_loseCane 4 = .ok (.iload_n 1, 1) := by decide +kernel
theorem dX0_loseCane_5 : decode cX0_loseCane 5 = .ok (.iaload, 1) := by decide +kernel
theorem dX0_loseCane_6 : decode cX0_loseCane 6 = .ok (.istore_n 2, 1) := by decide +kernel
theorem dX0_loseCane_7 : decode cX0_loseCane 7 = .ok (.aload_n 0, 1) := by decide +kernel
theorem dX0_loseCane_8 : decode cX0_loseCane 8 = .ok (.getfield 33, 3) := by decide +kernel
theorem dX0_loseCane_11 : decode cX0_loseCane 11 = .ok (.iload_n 1, 1) := by decide +kernel
theorem dX0_loseCane_12 : decode cX0_loseCane 12 = .ok (.dup2, 1) := by decide +kernel
theorem dX0_loseCane_13 : decode cX0_loseCane 13 = .ok (.iaload, 1) := by decide +kernel
theorem dX0_loseCane_14 : decode cX0_loseCane 14 = .ok (.iload_n 2, 1) := by decide +kernel
theorem dX0_loseCane_15 : decode cX0_loseCane 15 = .ok (.iadd, 1) := by decide +kernel
theorem dX0_loseCane_16 : decode cX0_loseCane 16 = .ok (.iastore, 1) := by decide +kernel
theorem dX0_loseCane_17 : decode cX0_loseCane 17 = .ok (.aload_n 0, 1) := by decide +kernel
theorem dX0_loseCane_18 : decode cX0_loseCane 18 = .ok (.getfield 24, 3) := by decide +kernel
theorem dX0_loseCane_21 : decode cX0_loseCane 21 = .ok (.iload_n 1, 1) := by decide +kernel
theorem dX0_loseCane_22 : decode cX0_loseCane 22 = .ok (.iconst 0, 1) := by decide +kernel
theorem dX0_loseCane_23 : decode cX0_loseCane 23 = .ok (.iastore, 1) := by decide +kernel
theorem dX0_loseCane_24 : decode cX0_loseCane 24 = .ok (.iload_n 2, 1) := by decide +kernel
theorem dX0_loseCane_25 : decode cX0_loseCane 25 = .ok (.ireturn, 1) := by decide +kernel
theorem dX0_purityOn_0 : decode cX0_purityOn 0 = .ok (.iconst 0, 1) := by decide +kernel
theorem dX0_purityOn_1 : decode cX0_purityOn 1 = .ok (.iload_n 2, 1) := by decide +kernel
theorem dX0_purityOn_2 : decode cX0_purityOn 2 = .ok (.aload_n 0, 1) := by decide +kernel
theorem dX0_purityOn_3 : decode cX0_purityOn 3 = .ok (.getfield 21, 3) := by decide +kernel
theorem dX0_purityOn_6 : decode cX0_purityOn 6 = .ok (.iload_n 1, 1) := by decide +kernel
theorem dX0_purityOn_7 : decode cX0_purityOn 7 = .ok (.iaload, 1) := by decide +kernel
theorem dX0_purityOn_8 : decode cX0_purityOn 8 = .ok (.isub, 1) := by decide +kernel
theorem dX0_purityOn_9 : decode cX0_purityOn 9 = .ok (.invokestatic 44, 3) := by decide +kernel
theorem dX0_purityOn_12 : decode cX0_purityOn 12 = .ok (.istore 4, 2) := by decide +kernel
theorem dX0_purityOn_14 : decode cX0_purityOn 14 = .ok (.iconst 0, 1) := by decide +kernel
theorem dX0_purityOn_15 : decode cX0_purityOn 15 = .ok (.aload_n 0, 1) := by decide +kernel
theorem dX0_purityOn_16 : decode cX0_purityOn 16 = .ok (.getfield 18, 3) := by decide +kernel
theorem dX0_purityOn_19 : decode cX0_purityOn 19 = .ok (.iload_n 1, 1) := by decide +kernel
theorem dX0_purityOn_20 : decode cX0_purityOn 20 = .ok (.iaload, 1) := by decide +kernel
theorem dX0_purityOn_21 : decode cX0_purityOn 21 = .ok (.iload_n 3, 1) := by decide +kernel
theorem dX0_purityOn_22 : decode cX0_purityOn 22 = .ok (.iload 4, 2) := by decide +kernel
theorem dX0_purityOn_24 : decode cX0_purityOn 24 = .ok (.imul, 1) := by decide +kernel
theorem dX0_purityOn_25 : decode cX0_purityOn 25 = .ok (.isub, 1) := by decide +kernel
theorem dX0_purityOn_26 : decode cX0_purityOn 26 = .ok (.invokestatic 44, 3) := by decide +kernel
theorem dX0_purityOn_29 : decode cX0_purityOn 29 = .ok (.ireturn, 1) := by decide +kernel
theorem dX0_burntCaneOf_0 : decode cX0_burntCaneOf 0 = .ok (.iconst 0, 1) := by decide +kernel
theorem dX0_burntCaneOf_1 : decode cX0_burntCaneOf 1 = .ok (.istore_n 3, 1) := by decide +kernel
theorem dX0_burntCaneOf_2 : decode cX0_burntCaneOf 2 = .ok (.iconst 0, 1) := by decide +kernel
theorem dX0_burntCaneOf_3 : decode cX0_burntCaneOf 3 = .ok (.istore 4, 2) := by decide +kernel
theorem dX0_burntCaneOf_5 : decode cX0_burntCaneOf 5 = .ok (.iload 4, 2) := by decide +kernel
theorem dX0_burntCaneOf_7 : decode cX0_burntCaneOf 7 = .ok (.aload_n 0, 1) := by decide +kernel
theorem dX0_burntCaneOf_8 : decode cX0_burntCaneOf 8 = .ok (.getfield 36, 3) := by decide +kernel
theorem dX0_burntCaneOf_11 : decode cX0_burntCaneOf 11 = .ok (.if_icmp .ge 41, 3) := by decide +kernel
theorem dX0_burntCaneOf_14 : decode cX0_burntCaneOf 14 = .ok (.aload_n 0, 1) := by decide +kernel
theorem dX0_burntCaneOf_15 : decode cX0_burntCaneOf 15 = .ok (.getfield 9, 3) := by decide +kernel
theorem dX0_burntCaneOf_18 : decode cX0_burntCaneOf 18 = .ok (.iload 4, 2) := by decide +kernel
theorem dX0_burntCaneOf_20 : decode cX0_burntCaneOf 20 = .ok (.iaload, 1) := by decide +kernel
theorem dX0_burntCaneOf_21 : decode cX0_burntCaneOf 21 = .ok (.iload_n 1, 1) := by decide +kernel
theorem dX0_burntCaneOf_22 : decode cX0_burntCaneOf 22 = .ok (.if_icmp .ne 24, 3) := by decide +kernel
theorem dX0_burntCaneOf_25 : decode cX0_burntCaneOf 25 = .ok (.aload_n 0, 1) := by decide +kernel
theorem dX0_burntCaneOf_26 : decode cX0_burntCaneOf 26 = .ok (.iload 4, 2) := by decide +kernel
theorem dX0_burntCaneOf_28 : decode cX0_burntCaneOf 28 = .ok (.iload_n 2, 1) := by decide +kernel
theorem dX0_burntCaneOf_29 : decode cX0_burntCaneOf 29 = .ok (.invokevirtual 50, 3) := by decide +kernel
theorem dX0_burntCaneOf_32 : decode cX0_burntCaneOf 32 = .ok (.iconst 1, 1) := by decide +kernel
theorem dX0_burntCaneOf_33 : decode cX0_burntCaneOf 33 = .ok (.if_icmp .ne 13, 3) := by decide +kernel
theorem dX0_burntCaneOf_36 : decode cX0_burntCaneOf 36 = .ok (.iload_n 3, 1) := by decide +kernel
theorem dX0_burntCaneOf_37 : decode cX0_burntCaneOf 37 = .ok (.aload_n 0, 1) := by decide +kernel
theorem dX0_burntCaneOf_38 : decode cX0_burntCaneOf 38 = .ok (.getfield 24, 3) := by decide +kernel
theorem dX0_burntCaneOf_41 : decode cX0_burntCaneOf 41 = .ok (.iload 4, 2) := by decide +kernel
theorem dX0_burntCaneOf_43 : decode cX0_burntCaneOf 43 = .ok (.iaload, 1) := by decide +kernel
theorem dX0_burntCaneOf_44 : decode cX0_burntCaneOf 44 = .ok (.iadd, 1) := by decide +kernel
theorem dX0_burntCaneOf_45 : decode cX0_burntCaneOf 45 = .ok (.istore_n 3, 1) := by decide +kernel
theorem dX0_burntCaneOf_46 : decode cX0_burntCaneOf 46 = .ok (.iinc 4 1, 3) := by decide +kernel
theorem dX0_burntCaneOf_49 : decode cX0_burntCaneOf 49 = .ok (.goto (-44), 3) := by decide +kernel
theorem dX0_burntCaneOf_52 : decode cX0_burntCaneOf 52 = .ok (.iload_n 3, 1) := by decide +kernel
theorem dX0_burntCaneOf_53 : decode cX0_burntCaneOf 53 = .ok (.ireturn, 1) := by decide +kernel
theorem dX0_setOf_0 : decode cX0_setOf 0 = .ok (.lconst 0, 1) := by decide +kernel
theorem dX0_setOf_1 : decode cX0_setOf 1 = .ok (.lstore_n 3, 1) := by decide +kernel
theorem dX0_setOf_2 : decode cX0_setOf 2 = .ok (.iconst 0, 1) := by decide +kernel
theorem dX0_setOf_3 : decode cX0_setOf 3 = .ok (.istore 5, 2) := by decide +kernel
theorem dX0_setOf_5 : decode cX0_setOf 5 = .ok (.iload 5, 2) := by decide +kernel
theorem dX0_setOf_7 : decode cX0_setOf 7 = .ok (.aload_n 0, 1) := by decide +kernel
theorem dX0_setOf_8 : decode cX0_setOf 8 = .ok (.getfield 36, 3) := by decide +kernel
theorem dX0_setOf_11 : decode cX0_setOf 11 = .ok (.if_icmp .ge 27, 3) := by decide +kernel
theorem dX0_setOf_14 : decode cX0_setOf 14 = .ok (.aload_n 0, 1) := by decide +kernel
theorem dX0_setOf_15 : decode cX0_setOf 15 = .ok (.iload 5, 2) := by decide +kernel
theorem dX0_setOf_17 : decode cX0_setOf 17 = .ok (.iload_n 2, 1) := by decide +kernel
theorem dX0_setOf_18 : decode cX0_setOf 18 = .ok (.invokevirtual 50, 3) := by decide +kernel
theorem dX0_setOf_21 : decode cX0_setOf 21 = .ok (.iload_n 1, 1) := by decide +kernel
theorem dX0_setOf_22 : decode cX0_setOf 22 = .ok (.if_icmp .ne 10, 3) := by decide +kernel
theorem dX0_setOf_25 : decode cX0_setOf 25 = .ok (.lload_n 3, 1) := by decide +kernel
theorem dX0_setOf_26 : decode cX0_setOf 26 = .ok (.lconst 1, 1) := by decide +kernel
theorem dX0_setOf_27 : decode cX0_setOf 27 = .ok (.iload 5, 2) := by decide +kernel
theorem dX0_setOf_29 : decode cX0_setOf 29 = .ok (.lshl, 1) := by decide +kernel
theorem dX0_setOf_30 : decode cX0_setOf 30 = .ok (.lor, 1) := by decide +kernel
theorem dX0_setOf_31 : decode cX0_setOf 31 = .ok (.lstore_n 3, 1) := by decide +kernel
theorem dX0_setOf_32 : decode cX0_setOf 32 = .ok (.iinc 5 1, 3) := by decide +kernel
theorem dX0_setOf_35 : decode cX0_setOf 35 = .ok (.goto (-30), 3) := by decide +kernel
theorem dX0_setOf_38 : decode cX0_setOf 38 = .ok (.lload_n 3, 1) := by decide +kernel
theorem dX0_setOf_39 : decode cX0_setOf 39 = .ok (.lreturn, 1) := by decide +kernel
theorem dX1_init_0 : decode cX1_init 0 = .ok (.aload_n 0, 1) := by decide +kernel
theorem dX1_init_1 : decode cX1_init 1 = .ok (.invokespecial 3, 3) := by decide +kernel
theorem dX1_init_4 : decode cX1_init 4 = .ok (.aload_n 0, 1) := by decide +kernel
theorem dX1_init_5 : decode cX1_init 5 = .ok (.bipush 6, 2) := by decide +kernel
theorem dX1_init_7 : decode cX1_init 7 = .ok (.newarray .int, 2) := by decide +kernel
theorem dX1_init_9 : decode cX1_init 9 = .ok (.dup, 1) := by decide +kernel
theorem dX1_init_10 : decode cX1_init 10 = .ok (.iconst 0, 1) := by decide +kernel
theorem dX1_init_11 : decode cX1_init 11 = .ok (.bipush 100, 2) := by decide +kernel
theorem dX1_init_13 : decode cX1_init 13 = .ok (.iastore, 1) := by decide +kernel
theorem dX1_init_14 : decode cX1_init 14 = .ok (.dup, 1) := by decide +kernel
theorem dX1_init_15 : decode cX1_init 15 = .ok (.iconst 1, 1) := by decide +kernel
theorem dX1_init_16 : decode cX1_init 16 = .ok (.bipush 100, 2) := by decide +kernel
theorem dX1_init_18 : decode cX1_init 18 = .ok (.iastore, 1) := by decide +kernel
theorem dX1_init_19 : decode cX1_init 19 = .ok (.dup, 1) := by decide +kernel
theorem dX1_init_20 : decode cX1_init 20 = .ok (.iconst 2, 1) := by decide +kernel
theorem dX1_init_21 : decode cX1_init 21 = .ok (.bipush 100, 2) := by decide +kernel
theorem dX1_init_23 : decode cX1_init 23 = .ok (.iastore, 1) := by decide +kernel
theorem dX1_init_24 : decode cX1_init 24 = .ok (.dup, 1) := by decide +kernel
theorem dX1_init_25 : decode cX1_init 25 = .ok (.iconst 3, 1) := by decide +kernel
theorem dX1_init_26 : decode cX1_init 26 = .ok (.bipush 100, 2) := by decide +kernel
theorem dX1_init_28 : decode cX1_init 28 = .ok (.iastore, 1) := by decide +kernel
theorem dX1_init_29 : decode cX1_init 29 = .ok (.dup, 1) := by decide +kernel
theorem dX1_init_30 : decode cX1_init 30 = .ok (.iconst 4, 1) := by decide +kernel
theorem dX1_init_31 : decode cX1_init 31 = .ok (.bipush 100, 2) := by decide +kernel
theorem dX1_init_33 : decode cX1_init 33 = .ok (.iastore, 1) := by decide +kernel
theorem dX1_init_34 : decode cX1_init 34 = .ok (.dup, 1) := by decide +kernel
theorem dX1_init_35 : decode cX1_init 35 = .ok (.iconst 5, 1) := by decide +kernel
theorem dX1_init_36 : decode cX1_init 36 = .ok (.bipush 100, 2) := by decide +kernel
theorem dX1_init_38 : decode cX1_init 38 = .ok (.iastore, 1) := by decide +kernel
theorem dX1_init_39 : decode cX1_init 39 = .ok (.putfield 9, 3) := by decide +kernel
theorem dX1_init_42 : decode cX1_init 42 = .ok (.aload_n 0, 1) := by decide +kernel
theorem dX1_init_43 : decode cX1_init 43 = .ok (.bipush 6, 2) := by decide +kernel
theorem dX1_init_45 : decode cX1_init 45 = .ok (.newarray .int, 2) := by decide +kernel
theorem dX1_init_47 : decode cX1_init 47 = .ok (.putfield 15, 3) := by decide +kernel
theorem dX1_init_50 : decode cX1_init 50 = .ok (.aload_n 0, 1) := by decide +kernel
theorem dX1_init_51 : decode cX1_init 51 = .ok (.bipush 6, 2) := by decide +kernel
theorem dX1_init_53 : decode cX1_init 53 = .ok (.newarray .int, 2) := by decide +kernel
theorem dX1_init_55 : decode cX1_init 55 = .ok (.putfield 18, 3) := by decide +kernel
theorem dX1_init_58 : decode cX1_init 58 = .ok (.aload_n 0, 1) := by decide +kernel
theorem dX1_init_59 : decode cX1_init 59 = .ok (.bipush 6, 2) := by decide +kernel
theorem dX1_init_61 : decode cX1_init 61 = .ok (.newarray .int, 2) := by decide +kernel
theorem dX1_init_63 : decode cX1_init 63 = .ok (.putfield 21, 3) := by decide +kernel
theorem dX1_init_66 : decode cX1_init 66 = .ok (.aload_n 0, 1) := by decide +kernel
theorem dX1_init_67 : decode cX1_init 67 = .ok (.bipush 6, 2) := by decide +kernel
theorem dX1_init_69 : decode cX1_init 69 = .ok (.newarray .int, 2) := by decide +kernel
theorem dX1_init_71 : decode cX1_init 71 = .ok (.putfield 24, 3) := by decide +kernel
theorem dX1_init_74 : decode cX1_init 74 = .ok (.return_, 1) := by decide +kernel
theorem dX1_copyFrom_0 : decode cX1_copyFrom 0 = .ok (.aload_n 1, 1) := by decide +kernel
theorem dX1_copyFrom_1 : decode cX1_copyFrom 1 = .ok (.getfield 9, 3) := by decide +kernel
theorem dX1_copyFrom_4 : decode cX1_copyFrom 4 = .ok (.aload_n 0, 1) := by decide +kernel
theorem dX1_copyFrom_5 : decode cX1_copyFrom 5 = .ok (.getfield 9, 3) := by decide +kernel
theorem dX1_copyFrom_8 : decode cX1_copyFrom 8 = .ok (.bipush 6, 2) := by decide +kernel
theorem dX1_copyFrom_10 : decode cX1_copyFrom 10 = .ok (.invokestatic 27, 3) := by decide +kernel
theorem dX1_copyFrom_13 : decode cX1_copyFrom 13 = .ok (.aload_n 1, 1) := by decide +kernel
theorem dX1_copyFrom_14 : decode cX1_copyFrom 14 = .ok (.getfield 15, 3) := by decide +kernel
theorem dX1_copyFrom_17 : decode cX1_copyFrom 17 = .ok (.aload_n 0, 1) := by decide +kernel
theorem dX1_copyFrom_18 : decode cX1_copyFrom 18 = .ok (.getfield 15, 3) := by decide +kernel
theorem dX1_copyFrom_21 : decode cX1_copyFrom 21 = .ok (.bipush 6, 2) := by decide +kernel
theorem dX1_copyFrom_23 : decode cX1_copyFrom 23 = .ok (.invokestatic 27, 3) := by decide +kernel
theorem dX1_copyFrom_26 : decode cX1_copyFrom 26 = .ok (.aload_n 1, 1) := by decide +kernel
theorem dX1_copyFrom_27 : decode cX1_copyFrom 27 = .ok (.getfield 18, 3) := by decide +kernel
theorem dX1_copyFrom_30 : decode cX1_copyFrom 30 = .ok (.aload_n 0, 1) := by decide +kernel
theorem dX1_copyFrom_31 : decode cX1_copyFrom 31 = .ok (.getfield 18, 3) := by decide +kernel
theorem dX1_copyFrom_34 : decode cX1_copyFrom 34 = .ok (.bipush 6, 2) := by decide +kernel
theorem dX1_copyFrom_36 : decode cX1_copyFrom 36 = .ok (.invokestatic 27, 3) := by decide +kernel
theorem dX1_copyFrom_39 : decode cX1_copyFrom 39 = .ok (.aload_n 1, 1) := by decide +kernel
theorem dX1_copyFrom_40 : decode cX1_copyFrom 40 = .ok (.getfield 21, 3) := by decide +kernel
theorem dX1_copyFrom_43 : decode cX1_copyFrom 43 = .ok (.aload_n 0, 1) := by decide +kernel
theorem dX1_copyFrom_44 : decode cX1_copyFrom 44 = .ok (.getfield 21, 3) := by decide +kernel
theorem dX1_copyFrom_47 : decode cX1_copyFrom 47 = .ok (.bipush 6, 2) := by decide +kernel
theorem dX1_copyFrom_49 : decode cX1_copyFrom 49 = .ok (.invokestatic 27, 3) := by decide +kernel
theorem dX1_copyFrom_52 : decode cX1_copyFrom 52 = .ok (.aload_n 1, 1) := by decide +kernel
theorem dX1_copyFrom_53 : decode cX1_copyFrom 53 = .ok (.getfield 24, 3) := by decide +kernel
theorem dX1_copyFrom_56 : decode cX1_copyFrom 56 = .ok (.aload_n 0, 1) := by decide +kernel
theorem dX1_copyFrom_57 : decode cX1_copyFrom 57 = .ok (.getfield 24, 3) := by decide +kernel
theorem dX1_copyFrom_60 : decode cX1_copyFrom 60 = .ok (.bipush 6, 2) := by decide +kernel
theorem dX1_copyFrom_62 : decode cX1_copyFrom 62 = .ok (.invokestatic 27, 3) := by decide +kernel
theorem dX1_copyFrom_65 : decode cX1_copyFrom 65 = .ok (.return_, 1) := by decide +kernel
theorem dX1_totalCrushed_0 : decode cX1_totalCrushed 0 = .ok (.aload_n 0, 1) := by decide +kernel
theorem dX1_totalCrushed_1 : decode cX1_totalCrushed 1 = .ok (.getfield 18, 3) := by decide +kernel
theorem dX1_totalCrushed_4 : decode cX1_totalCrushed 4 = .ok (.invokestatic 31, 3) := by decide +kernel
theorem dX1_totalCrushed_7 : decode cX1_totalCrushed 7 = .ok (.ireturn, 1) := by decide +kernel
theorem dX1_totalLost_0 : decode cX1_totalLost 0 = .ok (.aload_n 0, 1) := by decide +kernel
theorem dX1_totalLost_1 : decode cX1_totalLost 1 = .ok (.getfield 21, 3) := by decide +kernel
theorem dX1_totalLost_4 : decode cX1_totalLost 4 = .ok (.invokestatic 31, 3) := by decide +kernel
theorem dX1_totalLost_7 : decode cX1_totalLost 7 = .ok (.ireturn, 1) := by decide +kernel
theorem dX1_totalPaid_0 : decode cX1_totalPaid 0 = .ok (.aload_n 0, 1) := by decide +kernel
theorem dX1_totalPaid_1 : decode cX1_totalPaid 1 = .ok (.getfield 24, 3) := by decide +kernel
theorem dX1_totalPaid_4 : decode cX1_totalPaid 4 = .ok (.invokestatic 31, 3) := by decide +kernel
theorem dX1_totalPaid_7 : decode cX1_totalPaid 7 = .ok (.ireturn, 1) := by decide +kernel
theorem dX2_init_0 : decode cX2_init 0 = .ok (.aload_n 0, 1) := by decide +kernel
theorem dX2_init_1 : decode cX2_init 1 = .ok (.invokespecial 3, 3) := by decide +kernel
theorem dX2_init_4 : decode cX2_init 4 = .ok (.aload_n 0, 1) := by decide +kernel
theorem dX2_init_5 : decode cX2_init 5 = .ok (.bipush 7, 2) := by decide +kernel
theorem dX2_init_7 : decode cX2_init 7 = .ok (.anewarray 11, 3) := by decide +kernel
theorem dX2_init_10 : decode cX2_init 10 = .ok (.putfield 13, 3) := by decide +kernel
theorem dX2_init_13 : decode cX2_init 13 = .ok (.return_, 1) := by decide +kernel
theorem dX2_prepare_0 : decode cX2_prepare 0 = .ok (.aload_n 0, 1) := by decide +kernel
theorem dX2_prepare_1 : decode cX2_prepare 1 = .ok (.getfield 17, 3) := by decide +kernel
theorem dX2_prepare_4 : decode cX2_prepare 4 = .ok (.aload_n 0, 1) := by decide +kernel
theorem dX2_prepare_5 : decode cX2_prepare 5 = .ok (.getfield 21, 3) := by decide +kernel
theorem dX2_prepare_8 : decode cX2_prepare 8 = .ok (.iadd, 1) := by decide +kernel
theorem dX2_prepare_9 : decode cX2_prepare 9 = .ok (.bipush 7, 2) := by decide +kernel
theorem dX2_prepare_11 : decode cX2_prepare 11 = .ok (.irem, 1) := by decide +kernel
theorem dX2_prepare_12 : decode cX2_prepare 12 = .ok (.istore_n 2, 1) := by decide +kernel
theorem dX2_prepare_13 : decode cX2_prepare 13 = .ok (.aload_n 0, 1) := by decide +kernel
theorem dX2_prepare_14 : decode cX2_prepare 14 = .ok (.getfield 13, 3) := by decide +kernel
theorem dX2_prepare_17 : decode cX2_prepare 17 = .ok (.iload_n 2, 1) := by decide +kernel
theorem dX2_prepare_18 : decode cX2_prepare 18 = .ok (.aaload, 1) := by decide +kernel
theorem dX2_prepare_19 : decode cX2_prepare 19 = .ok (.astore_n 3, 1) := by decide +kernel
theorem dX2_prepare_20 : decode cX2_prepare 20 = .ok (.aload_n 3, 1) := by decide +kernel
theorem dX2_prepare_21 : decode cX2_prepare 21 = .ok (.ifnonnull 18, 3) := by decide +kernel
theorem dX2_prepare_24 : decode cX2_prepare 24 = .ok (.new 11, 3) := by decide +kernel
theorem dX2_prepare_27 : decode cX2_prepare 27 = .ok (.dup, 1) := by decide +kernel
theorem dX2_prepare_28 : decode cX2_prepare 28 = .ok (.invokespecial 24, 3) := by decide +kernel
theorem dX2_prepare_31 : decode cX2_prepare 31 = .ok (.astore_n 3, 1) := by decide +kernel
theorem dX2_prepare_32 : decode cX2_prepare 32 = .ok (.aload_n 0, 1) := by decide +kernel
theorem dX2_prepare_33 : decode cX2_prepare 33 = .ok (.getfield 13, 3) := by decide +kernel
theorem dX2_prepare_36 : decode cX2_prepare 36 = .ok (.iload_n 2, 1) := by decide +kernel
theorem dX2_prepare_37 : decode cX2_prepare 37 = .ok (.aload_n 3, 1) := by decide +kernel
theorem dX2_prepare_38 : decode cX2_prepare 38 = .ok (.aastore, 1) := by decide +kernel
theorem dX2_prepare_39 : decode cX2_prepare 39 = .ok (.aload_n 3, 1) := by decide +kernel
theorem dX2_prepare_40 : decode cX2_prepare 40 = .ok (.aload_n 1, 1) := by decide +kernel
theorem dX2_prepare_41 : decode cX2_prepare 41 = .ok (.invokevirtual 25, 3) := by decide +kernel
theorem dX2_prepare_44 : decode cX2_prepare 44 = .ok (.return_, 1) := by decide +kernel
theorem dX2_recordUnlessError_0 : decode cX2_recordUnlessError 0 = .ok (.iload_n 1, 1) := by decide +kernel
theorem dX2_recordUnlessError_1 : decode cX2_recordUnlessError 1 = .ok (.ifCond .ge 5, 3) := by decide +kernel
theorem dX2_recordUnlessError_4 : decode cX2_recordUnlessError 4 = .ok (.iload_n 1, 1) := by decide +kernel
theorem dX2_recordUnlessError_5 : decode cX2_recordUnlessError 5 = .ok (.ireturn, 1) := by decide +kernel
theorem dX2_recordUnlessError_6 : decode cX2_recordUnlessError 6 = .ok (.aload_n 0, 1) := by decide +kernel
theorem dX2_recordUnlessError_7 : decode cX2_recordUnlessError 7 = .ok (.getfield 21, 3) := by decide +kernel
theorem dX2_recordUnlessError_10 : decode cX2_recordUnlessError 10 = .ok (.bipush 6, 2) := by decide +kernel
theorem dX2_recordUnlessError_12 : decode cX2_recordUnlessError 12 = .ok (.if_icmp .ge 16, 3) := by decide +kernel
theorem dX2_recordUnlessError_15 : decode cX2_recordUnlessError 15 = .ok (.aload_n 0, 1) := by decide +kernel
theorem dX2_recordUnlessError_16 : decode cX2_recordUnlessError 16 = .ok (.dup, 1) := by decide +kernel
theorem dX2_recordUnlessError_17 : decode cX2_recordUnlessError 17 = .ok (.getfield 21, 3) := by decide +kernel
theorem dX2_recordUnlessError_20 : decode cX2_recordUnlessError 20 = .ok (.iconst 1, 1) := by decide +kernel
theorem dX2_recordUnlessError_21 : decode cX2_recordUnlessError 21 = .ok (.iadd, 1) := by decide +kernel
theorem dX2_recordUnlessError_22 : decode cX2_recordUnlessError 22 = .ok (.putfield 21, 3) := by decide +kernel
theorem dX2_recordUnlessError_25 : decode cX2_recordUnlessError 25 = .ok (.goto 16, 3) := by decide +kernel
theorem dX2_recordUnlessError_28 : decode cX2_recordUnlessError 28 = .ok (.aload_n 0, 1) := by decide +kernel
theorem dX2_recordUnlessError_29 : decode cX2_recordUnlessError 29 = .ok (.aload_n 0, 1) := by decide +kernel
theorem dX2_recordUnlessError_30 : decode cX2_recordUnlessError 30 = .ok (.getfield 17, 3) := by decide +kernel
theorem dX2_recordUnlessError_33 : decode cX2_recordUnlessError 33 = .ok (.iconst 1, 1) := by decide +kernel
theorem dX2_recordUnlessError_34 : decode cX2_recordUnlessError 34 = .ok (.iadd, 1) := by decide +kernel
theorem dX2_recordUnlessError_35 : decode cX2_recordUnlessError 35 = .ok (.bipush 7, 2) := by decide +kernel
theorem dX2_recordUnlessError_37 : decode cX2_recordUnlessError 37 = .ok (.irem, 1) := by decide +kernel
theorem dX2_recordUnlessError_38 : decode cX2_recordUnlessError 38 = .ok (.putfield 17, 3) := by decide +kernel
theorem dX2_recordUnlessError_41 : decode cX2_recordUnlessError 41 = .ok (.iload_n 1, 1) := by decide +kernel
theorem dX2_recordUnlessError_42 : decode cX2_recordUnlessError 42 = .ok (.ireturn, 1) := by decide +kernel
theorem dX2_bringBackLatest_0 : decode cX2_bringBackLatest 0 = .ok (.aload_n 0, 1) := by decide +kernel
theorem dX2_bringBackLatest_1 : decode cX2_bringBackLatest 1 = .ok (.getfield 21, 3) := by decide +kernel
theorem dX2_bringBackLatest_4 : decode cX2_bringBackLatest 4 = .ok (.ifCond .ne 4, 3) := by decide +kernel
theorem dX2_bringBackLatest_7 : decode cX2_bringBackLatest 7 = .ok (.return_, 1) := by decide +kernel
theorem dX2_bringBackLatest_8 : decode cX2_bringBackLatest 8 = .ok (.aload_n 0, 1) := by decide +kernel
theorem dX2_bringBackLatest_9 : decode cX2_bringBackLatest 9 = .ok (.dup, 1) := by decide +kernel
theorem dX2_bringBackLatest_10 : decode cX2_bringBackLatest 10 = .ok (.getfield 21, 3) := by decide +kernel
theorem dX2_bringBackLatest_13 : decode cX2_bringBackLatest 13 = .ok (.iconst 1, 1) := by decide +kernel
theorem dX2_bringBackLatest_14 : decode cX2_bringBackLatest 14 = .ok (.isub, 1) := by decide +kernel
theorem dX2_bringBackLatest_15 : decode cX2_bringBackLatest 15 = .ok (.putfield 21, 3) := by decide +kernel
theorem dX2_bringBackLatest_18 : decode cX2_bringBackLatest 18 = .ok (.aload_n 0, 1) := by decide +kernel
theorem dX2_bringBackLatest_19 : decode cX2_bringBackLatest 19 = .ok (.getfield 13, 3) := by decide +kernel
theorem dX2_bringBackLatest_22 : decode cX2_bringBackLatest 22 = .ok (.aload_n 0, 1) := by decide +kernel
theorem dX2_bringBackLatest_23 : decode cX2_bringBackLatest 23 = .ok (.getfield 17, 3) := by decide +kernel
theorem dX2_bringBackLatest_26 : decode cX2_bringBackLatest 26 = .ok (.aload_n 0, 1) := by decide +kernel
theorem dX2_bringBackLatest_27 : decode cX2_bringBackLatest 27 = .ok (.getfield 21, 3) := by decide +kernel
theorem dX2_bringBackLatest_30 : decode cX2_bringBackLatest 30 = .ok (.iadd, 1) := by decide +kernel
theorem dX2_bringBackLatest_31 : decode cX2_bringBackLatest 31 = .ok (.bipush 7, 2) := by decide +kernel
theorem dX2_bringBackLatest_33 : decode cX2_bringBackLatest 33 = .ok (.irem, 1) := by decide +kernel
theorem dX2_bringBackLatest_34 : decode cX2_bringBackLatest 34 = .ok (.aaload, 1) := by decide +kernel
theorem dX2_bringBackLatest_35 : decode cX2_bringBackLatest 35 = .ok (.astore_n 2, 1) := by decide +kernel
theorem dX2_bringBackLatest_36 : decode cX2_bringBackLatest 36 = .ok (.aload_n 2, 1) := by decide +kernel
theorem dX2_bringBackLatest_37 : decode cX2_bringBackLatest 37 = .ok (.ifnull 8, 3) := by decide +kernel
theorem dX2_bringBackLatest_40 : decode cX2_bringBackLatest 40 = .ok (.aload_n 1, 1) := by decide +kernel
theorem dX2_bringBackLatest_41 : decode cX2_bringBackLatest 41 = .ok (.aload_n 2, 1) := by decide +kernel
theorem dX2_bringBackLatest_42 : decode cX2_bringBackLatest 42 = .ok (.invokevirtual 25, 3) := by decide +kernel
theorem dX2_bringBackLatest_45 : decode cX2_bringBackLatest 45 = .ok (.return_, 1) := by decide +kernel
theorem dX3_init_0 : decode cX3_init 0 = .ok (.aload_n 0, 1) := by decide +kernel
theorem dX3_init_1 : decode cX3_init 1 = .ok (.invokespecial 3, 3) := by decide +kernel
theorem dX3_init_4 : decode cX3_init 4 = .ok (.aload_n 0, 1) := by decide +kernel
theorem dX3_init_5 : decode cX3_init 5 = .ok (.bipush 7, 2) := by decide +kernel
theorem dX3_init_7 : decode cX3_init 7 = .ok (.newarray .int, 2) := by decide +kernel
theorem dX3_init_9 : decode cX3_init 9 = .ok (.dup, 1) := by decide +kernel
theorem dX3_init_10 : decode cX3_init 10 = .ok (.iconst 0, 1) := by decide +kernel
theorem dX3_init_11 : decode cX3_init 11 = .ok (.iconst 4, 1) := by decide +kernel
theorem dX3_init_12 : decode cX3_init 12 = .ok (.iastore, 1) := by decide +kernel
theorem dX3_init_13 : decode cX3_init 13 = .ok (.dup, 1) := by decide +kernel
theorem dX3_init_14 : decode cX3_init 14 = .ok (.iconst 1, 1) := by decide +kernel
theorem dX3_init_15 : decode cX3_init 15 = .ok (.bipush 10, 2) := by decide +kernel
theorem dX3_init_17 : decode cX3_init 17 = .ok (.iastore, 1) := by decide +kernel
theorem dX3_init_18 : decode cX3_init 18 = .ok (.dup, 1) := by decide +kernel
theorem dX3_init_19 : decode cX3_init 19 = .ok (.iconst 2, 1) := by decide +kernel
theorem dX3_init_20 : decode cX3_init 20 = .ok (.bipush 60, 2) := by decide +kernel
theorem dX3_init_22 : decode cX3_init 22 = .ok (.iastore, 1) := by decide +kernel
theorem dX3_init_23 : decode cX3_init 23 = .ok (.dup, 1) := by decide +kernel
theorem dX3_init_24 : decode cX3_init 24 = .ok (.iconst 3, 1) := by decide +kernel
theorem dX3_init_25 : decode cX3_init 25 = .ok (.bipush 100, 2) := by decide +kernel
theorem dX3_init_27 : decode cX3_init 27 = .ok (.iastore, 1) := by decide +kernel
theorem dX3_init_28 : decode cX3_init 28 = .ok (.dup, 1) := by decide +kernel
theorem dX3_init_29 : decode cX3_init 29 = .ok (.iconst 4, 1) := by decide +kernel
theorem dX3_init_30 : decode cX3_init 30 = .ok (.bipush 8, 2) := by decide +kernel
theorem dX3_init_32 : decode cX3_init 32 = .ok (.iastore, 1) := by decide +kernel
theorem dX3_init_33 : decode cX3_init 33 = .ok (.dup, 1) := by decide +kernel
theorem dX3_init_34 : decode cX3_init 34 = .ok (.iconst 5, 1) := by decide +kernel
theorem dX3_init_35 : decode cX3_init 35 = .ok (.iconst 5, 1) := by decide +kernel
theorem dX3_init_36 : decode cX3_init 36 = .ok (.iastore, 1) := by decide +kernel
theorem dX3_init_37 : decode cX3_init 37 = .ok (.dup, 1) := by decide +kernel
theorem dX3_init_38 : decode cX3_init 38 = .ok (.bipush 6, 2) := by decide +kernel
theorem dX3_init_40 : decode cX3_init 40 = .ok (.bipush 30, 2) := by decide +kernel
theorem dX3_init_42 : decode cX3_init 42 = .ok (.iastore, 1) := by decide +kernel
theorem dX3_init_43 : decode cX3_init 43 = .ok (.putfield 9, 3) := by decide +kernel
theorem dX3_init_46 : decode cX3_init 46 = .ok (.aload_n 0, 1) := by decide +kernel
theorem dX3_init_47 : decode cX3_init 47 = .ok (.new 15, 3) := by decide +kernel
theorem dX3_init_50 : decode cX3_init 50 = .ok (.dup, 1) := by decide +kernel
theorem dX3_init_51 : decode cX3_init 51 = .ok (.invokespecial 17, 3) := by decide +kernel
theorem dX3_init_54 : decode cX3_init 54 = .ok (.putfield 18, 3) := by decide +kernel
theorem dX3_init_57 : decode cX3_init 57 = .ok (.aload_n 0, 1) := by decide +kernel
theorem dX3_init_58 : decode cX3_init 58 = .ok (.new 22, 3) := by decide +kernel
theorem dX3_init_61 : decode cX3_init 61 = .ok (.dup, 1) := by decide +kernel
theorem dX3_init_62 : decode cX3_init 62 = .ok (.invokespecial 24, 3) := by decide +kernel
theorem dX3_init_65 : decode cX3_init 65 = .ok (.putfield 25, 3) := by decide +kernel
theorem dX3_init_68 : decode cX3_init 68 = .ok (.aload_n 0, 1) := by decide +kernel
theorem dX3_init_69 : decode cX3_init 69 = .ok (.new 29, 3) := by decide +kernel
theorem dX3_init_72 : decode cX3_init 72 = .ok (.dup, 1) := by decide +kernel
theorem dX3_init_73 : decode cX3_init 73 = .ok (.invokespecial 31, 3) := by decide +kernel
theorem dX3_init_76 : decode cX3_init 76 = .ok (.putfield 32, 3) := by decide +kernel
theorem dX3_init_79 : decode cX3_init 79 = .ok (.aload_n 0, 1) := by decide +kernel
theorem dX3_init_80 : decode cX3_init 80 = .ok (.new 36, 3) := by decide +kernel
theorem dX3_init_83 : decode cX3_init 83 = .ok (.dup, 1) := by decide +kernel
theorem dX3_init_84 : decode cX3_init 84 = .ok (.invokespecial 38, 3) := by decide +kernel
theorem dX3_init_87 : decode cX3_init 87 = .ok (.putfield 39, 3) := by decide +kernel
theorem dX3_init_90 : decode cX3_init 90 = .ok (.return_, 1) := by decide +kernel
theorem dX3_copyFrom_0 : decode cX3_copyFrom 0 = .ok (.aload_n 1, 1) := by decide +kernel
theorem dX3_copyFrom_1 : decode cX3_copyFrom 1 = .ok (.getfield 9, 3) := by decide +kernel
theorem dX3_copyFrom_4 : decode cX3_copyFrom 4 = .ok (.aload_n 0, 1) := by decide +kernel
theorem dX3_copyFrom_5 : decode cX3_copyFrom 5 = .ok (.getfield 9, 3) := by decide +kernel
theorem dX3_copyFrom_8 : decode cX3_copyFrom 8 = .ok (.bipush 7, 2) := by decide +kernel
theorem dX3_copyFrom_10 : decode cX3_copyFrom 10 = .ok (.invokestatic 43, 3) := by decide +kernel
theorem dX3_copyFrom_13 : decode cX3_copyFrom 13 = .ok (.aload_n 0, 1) := by decide +kernel
theorem dX3_copyFrom_14 : decode cX3_copyFrom 14 = .ok (.getfield 18, 3) := by decide +kernel
theorem dX3_copyFrom_17 : decode cX3_copyFrom 17 = .ok (.aload_n 1, 1) := by decide +kernel
theorem dX3_copyFrom_18 : decode cX3_copyFrom 18 = .ok (.getfield 18, 3) := by decide +kernel
theorem dX3_copyFrom_21 : decode cX3_copyFrom 21 = .ok (.invokevirtual 47, 3) := by decide +kernel
theorem dX3_copyFrom_24 : decode cX3_copyFrom 24 = .ok (.aload_n 0, 1) := by decide +kernel
theorem dX3_copyFrom_25 : decode cX3_copyFrom 25 = .ok (.getfield 25, 3) := by decide +kernel
theorem dX3_copyFrom_28 : decode cX3_copyFrom 28 = .ok (.aload_n 1, 1) := by decide +kernel
theorem dX3_copyFrom_29 : decode cX3_copyFrom 29 = .ok (.getfield 25, 3) := by decide +kernel
theorem dX3_copyFrom_32 : decode cX3_copyFrom 32 = .ok (.invokevirtual 51, 3) := by decide +kernel
theorem dX3_copyFrom_35 : decode cX3_copyFrom 35 = .ok (.aload_n 0, 1) := by decide +kernel
theorem dX3_copyFrom_36 : decode cX3_copyFrom 36 = .ok (.getfield 32, 3) := by decide +kernel
theorem dX3_copyFrom_39 : decode cX3_copyFrom 39 = .ok (.aload_n 1, 1) := by decide +kernel
theorem dX3_copyFrom_40 : decode cX3_copyFrom 40 = .ok (.getfield 32, 3) := by decide +kernel
theorem dX3_copyFrom_43 : decode cX3_copyFrom 43 = .ok (.invokevirtual 54, 3) := by decide +kernel
theorem dX3_copyFrom_46 : decode cX3_copyFrom 46 = .ok (.aload_n 0, 1) := by decide +kernel
theorem dX3_copyFrom_47 : decode cX3_copyFrom 47 = .ok (.getfield 39, 3) := by decide +kernel
theorem dX3_copyFrom_50 : decode cX3_copyFrom 50 = .ok (.aload_n 1, 1) := by decide +kernel
theorem dX3_copyFrom_51 : decode cX3_copyFrom 51 = .ok (.getfield 39, 3) := by decide +kernel
theorem dX3_copyFrom_54 : decode cX3_copyFrom 54 = .ok (.invokevirtual 57, 3) := by decide +kernel
theorem dX3_copyFrom_57 : decode cX3_copyFrom 57 = .ok (.aload_n 0, 1) := by decide +kernel
theorem dX3_copyFrom_58 : decode cX3_copyFrom 58 = .ok (.aload_n 1, 1) := by decide +kernel
theorem dX3_copyFrom_59 : decode cX3_copyFrom 59 = .ok (.getfield 60, 3) := by decide +kernel
theorem dX3_copyFrom_62 : decode cX3_copyFrom 62 = .ok (.putfield 60, 3) := by decide +kernel
theorem dX3_copyFrom_65 : decode cX3_copyFrom 65 = .ok (.aload_n 0, 1) := by decide +kernel
theorem dX3_copyFrom_66 : decode cX3_copyFrom 66 = .ok (.aload_n 1, 1) := by decide +kernel
theorem dX3_copyFrom_67 : decode cX3_copyFrom 67 = .ok (.getfield 64, 3) := by decide +kernel
theorem dX3_copyFrom_70 : decode cX3_copyFrom 70 = .ok (.putfield 64, 3) := by decide +kernel
theorem dX3_copyFrom_73 : decode cX3_copyFrom 73 = .ok (.aload_n 0, 1) := by decide +kernel
theorem dX3_copyFrom_74 : decode cX3_copyFrom 74 = .ok (.aload_n 1, 1) := by decide +kernel
theorem dX3_copyFrom_75 : decode cX3_copyFrom 75 = .ok (.getfield 67, 3) := by decide +kernel
theorem dX3_copyFrom_78 : decode cX3_copyFrom 78 = .ok (.putfield 67, 3) := by decide +kernel
theorem dX3_copyFrom_81 : decode cX3_copyFrom 81 = .ok (.aload_n 0, 1) := by decide +kernel
theorem dX3_copyFrom_82 : decode cX3_copyFrom 82 = .ok (.aload_n 1, 1) := by decide +kernel
theorem dX3_copyFrom_83 : decode cX3_copyFrom 83 = .ok (.getfield 70, 3) := by decide +kernel
theorem dX3_copyFrom_86 : decode cX3_copyFrom 86 = .ok (.putfield 70, 3) := by decide +kernel
theorem dX3_copyFrom_89 : decode cX3_copyFrom 89 = .ok (.return_, 1) := by decide +kernel
theorem dX3_changeSetting_0 : decode cX3_changeSetting 0 = .ok (.iload_n 1, 1) := by decide +kernel
theorem dX3_changeSetting_1 : decode cX3_changeSetting 1 = .ok (.iconst 0, 1) := by decide +kernel
theorem dX3_changeSetting_2 : decode cX3_changeSetting 2 = .ok (.bipush 6, 2) := by decide +kernel
theorem dX3_changeSetting_4 : decode cX3_changeSetting 4 = .ok (.invokestatic 73, 3) := by decide +kernel
theorem dX3_changeSetting_7 : decode cX3_changeSetting 7 = .ok (.ifCond .ne 6, 3) := by decide +kernel
theorem dX3_changeSetting_10 : decode cX3_changeSetting 10 = .ok (.bipush (-2), 2) := by decide +kernel
theorem dX3_changeSetting_12 : decode cX3_changeSetting 12 = .ok (.ireturn, 1) := by decide +kernel
theorem dX3_changeSetting_13 : decode cX3_changeSetting 13 = .ok (.iload_n 2, 1) := by decide +kernel
theorem dX3_changeSetting_14 : decode cX3_changeSetting 14 = .ok (.getstatic 77, 3) := by decide +kernel
theorem dX3_changeSetting_17 : decode cX3_changeSetting 17 = .ok (.iload_n 1, 1) := by decide +kernel
theorem dX3_changeSetting_18 : decode cX3_changeSetting 18 = .ok (.iaload, 1) := by decide +kernel
theorem dX3_changeSetting_19 : decode cX3_changeSetting 19 = .ok (.getstatic 80, 3) := by decide +kernel
theorem dX3_changeSetting_22 : decode cX3_changeSetting 22 = .ok (.iload_n 1, 1) := by decide +kernel
theorem dX3_changeSetting_23 : decode cX3_changeSetting 23 = .ok (.iaload, 1) := by decide +kernel
theorem dX3_changeSetting_24 : decode cX3_changeSetting 24 = .ok (.invokestatic 73, 3) := by decide +kernel
theorem dX3_changeSetting_27 : decode cX3_changeSetting 27 = .ok (.ifCond .ne 6, 3) := by decide +kernel
theorem dX3_changeSetting_30 : decode cX3_changeSetting 30 = .ok (.bipush (-2), 2) := by decide +kernel
theorem dX3_changeSetting_32 : decode cX3_changeSetting 32 = .ok (.ireturn, 1) := by decide +kernel
theorem dX3_changeSetting_33 : decode cX3_changeSetting 33 = .ok (.aload_n 0, 1) := by decide +kernel
theorem dX3_changeSetting_34 : decode cX3_changeSetting 34 = .ok (.getfield 9, 3) := by decide +kernel
theorem dX3_changeSetting_37 : decode cX3_changeSetting 37 = .ok (.iload_n 1, 1) := by decide +kernel
theorem dX3_changeSetting_38 : decode cX3_changeSetting 38 = .ok (.iaload, 1) := by decide +kernel
theorem dX3_changeSetting_39 : decode cX3_changeSetting 39 = .ok (.istore_n 3, 1) := by decide +kernel
theorem dX3_changeSetting_40 : decode cX3_changeSetting 40 = .ok (.aload_n 0, 1) := by decide +kernel
theorem dX3_changeSetting_41 : decode cX3_changeSetting 41 = .ok (.getfield 9, 3) := by decide +kernel
theorem dX3_changeSetting_44 : decode cX3_changeSetting 44 = .ok (.iload_n 1, 1) := by decide +kernel
theorem dX3_changeSetting_45 : decode cX3_changeSetting 45 = .ok (.iload_n 2, 1) := by decide +kernel
theorem dX3_changeSetting_46 : decode cX3_changeSetting 46 = .ok (.iastore, 1) := by decide +kernel
theorem dX3_changeSetting_47 : decode cX3_changeSetting 47 = .ok (.iload_n 3, 1) := by decide +kernel
theorem dX3_changeSetting_48 : decode cX3_changeSetting 48 = .ok (.ireturn, 1) := by decide +kernel
theorem dX3_changeQuota_0 : decode cX3_changeQuota 0 = .ok (.iload_n 1, 1) := by decide +kernel
theorem dX3_changeQuota_1 : decode cX3_changeQuota 1 = .ok (.invokestatic 83, 3) := by decide +kernel
theorem dX3_changeQuota_4 : decode cX3_changeQuota 4 = .ok (.ifCond .ne 5, 3) := by decide +kernel
theorem dX3_changeQuota_7 : decode cX3_changeQuota 7 = .ok (.iconst (-1), 1) := by decide +kernel
theorem dX3_changeQuota_8 : decode cX3_changeQuota 8 = .ok (.ireturn, 1) := by decide +kernel
theorem dX3_changeQuota_9 : decode cX3_changeQuota 9 = .ok (.iload_n 2, 1) := by decide +kernel
theorem dX3_changeQuota_10 : decode cX3_changeQuota 10 = .ok (.iconst 0, 1) := by decide +kernel
theorem dX3_changeQuota_11 : decode cX3_changeQuota 11 = .ok (.sipush 9999, 3) := by decide +kernel
theorem dX3_changeQuota_14 : decode cX3_changeQuota 14 = .ok (.invokestatic 73, 3) := by decide +kernel
theorem dX3_changeQuota_17 : decode cX3_changeQuota 17 = .ok (.ifCond .ne 6, 3) := by decide +kernel
theorem dX3_changeQuota_20 : decode cX3_changeQuota 20 = .ok (.bipush (-2), 2) := by decide +kernel
theorem dX3_changeQuota_22 : decode cX3_changeQuota 22 = .ok (.ireturn, 1) := by decide +kernel
theorem dX3_changeQuota_23 : decode cX3_changeQuota 23 = .ok (.aload_n 0, 1) := by decide +kernel
theorem dX3_changeQuota_24 : decode cX3_changeQuota 24 = .ok (.getfield 18, 3) := by decide +kernel
theorem dX3_changeQuota_27 : decode cX3_changeQuota 27 = .ok (.getfield 87, 3) := by decide +kernel
theorem dX3_changeQuota_30 : decode cX3_changeQuota 30 = .ok (.iload_n 1, 1) := by decide +kernel
theorem dX3_changeQuota_31 : decode cX3_changeQuota 31 = .ok (.iaload, 1) := by decide +kernel
theorem dX3_changeQuota_32 : decode cX3_changeQuota 32 = .ok (.istore_n 3, 1) := by decide +kernel
theorem dX3_changeQuota_33 : decode cX3_changeQuota 33 = .ok (.aload_n 0, 1) := by decide +kernel
theorem dX3_changeQuota_34 : decode cX3_changeQuota 34 = .ok (.getfield 18, 3) := by decide +kernel
theorem dX3_changeQuota_37 : decode cX3_changeQuota 37 = .ok (.getfield 87, 3) := by decide +kernel
theorem dX3_changeQuota_40 : decode cX3_changeQuota 40 = .ok (.iload_n 1, 1) := by decide +kernel
theorem dX3_changeQuota_41 : decode cX3_changeQuota 41 = .ok (.iload_n 2, 1) := by decide +kernel
theorem dX3_changeQuota_42 : decode cX3_changeQuota 42 = .ok (.iastore, 1) := by decide +kernel
theorem dX3_changeQuota_43 : decode cX3_changeQuota 43 = .ok (.iload_n 3, 1) := by decide +kernel
theorem dX3_changeQuota_44 : decode cX3_changeQuota 44 = .ok (.ireturn, 1) := by decide +kernel
theorem dX3_lendQuota_0 : decode cX3_lendQuota 0 = .ok (.iload_n 1, 1) := by decide +kernel
theorem dX3_lendQuota_1 : decode cX3_lendQuota 1 = .ok (.invokestatic 83, 3) := by decide +kernel
theorem dX3_lendQuota_4 : decode cX3_lendQuota 4 = .ok (.ifCond .eq 10, 3) := by decide +kernel
theorem dX3_lendQuota_7 : decode cX3_lendQuota 7 = .ok (.iload_n 2, 1) := by decide +kernel
theorem dX3_lendQuota_8 : decode cX3_lendQuota 8 = .ok (.invokestatic 83, 3) := by decide +kernel
theorem dX3_lendQuota_11 : decode cX3_lendQuota 11 = .ok (.ifCond .ne 5, 3) := by decide +kernel
theorem dX3_lendQuota_14 : decode cX3_lendQuota 14 = .ok (.iconst (-1), 1) := by decide +kernel
theorem dX3_lendQuota_15 : decode cX3_lendQuota 15 = .ok (.ireturn, 1) := by decide +kernel
theorem dX3_lendQuota_16 : decode cX3_lendQuota 16 = .ok (.iload_n 3, 1) := by decide +kernel
theorem dX3_lendQuota_17 : decode cX3_lendQuota 17 = .ok (.iconst 1, 1) := by decide +kernel
theorem dX3_lendQuota_18 : decode cX3_lendQuota 18 = .ok (.if_icmp .lt 8, 3) := by decide +kernel
theorem dX3_lendQuota_21 : decode cX3_lendQuota 21 = .ok (.iload_n 1, 1) := by decide +kernel
theorem dX3_lendQuota_22 : decode cX3_lendQuota 22 = .ok (.iload_n 2, 1) := by decide +kernel
theorem dX3_lendQuota_23 : decode cX3_lendQuota 23 = .ok (.if_icmp .ne 6, 3) := by decide +kernel
theorem dX3_lendQuota_26 : decode cX3_lendQuota 26 = .ok (.bipush (-2), 2) := by decide +kernel
theorem dX3_lendQuota_28 : decode cX3_lendQuota 28 = .ok (.ireturn, 1) := by decide +kernel
theorem dX3_lendQuota_29 : decode cX3_lendQuota 29 = .ok (.aload_n 0, 1) := by decide +kernel
theorem dX3_lendQuota_30 : decode cX3_lendQuota 30 = .ok (.getfield 18, 3) := by decide +kernel
theorem dX3_lendQuota_33 : decode cX3_lendQuota 33 = .ok (.getfield 87, 3) := by decide +kernel
theorem dX3_lendQuota_36 : decode cX3_lendQuota 36 = .ok (.iload_n 1, 1) := by decide +kernel
theorem dX3_lendQuota_37 : decode cX3_lendQuota 37 = .ok (.iaload, 1) := by decide +kernel
theorem dX3_lendQuota_38 : decode cX3_lendQuota 38 = .ok (.iload_n 3, 1) := by decide +kernel
theorem dX3_lendQuota_39 : decode cX3_lendQuota 39 = .ok (.if_icmp .lt 20, 3) := by decide +kernel
theorem dX3_lendQuota_42 : decode cX3_lendQuota 42 = .ok (.aload_n 0, 1) := by decide +kernel
theorem dX3_lendQuota_43 : decode cX3_lendQuota 43 = .ok (.getfield 18, 3) := by decide +kernel
theorem dX3_lendQuota_46 : decode cX3_lendQuota 46 = .ok (.getfield 87, 3) := by decide +kernel
theorem dX3_lendQuota_49 : decode cX3_lendQuota 49 = .ok (.iload_n 2, 1) := by decide +kernel
theorem dX3_lendQuota_50 : decode cX3_lendQuota 50 = .ok (.iaload, 1) := by decide +kernel
theorem dX3_lendQuota_51 : decode cX3_lendQuota 51 = .ok (.sipush 9999, 3) := by decide +kernel
theorem dX3_lendQuota_54 : decode cX3_lendQuota 54 = .ok (.iload_n 3, 1) := by decide +kernel
theorem dX3_lendQuota_55 : decode cX3_lendQuota 55 = .ok (.isub, 1) := by decide +kernel
theorem dX3_lendQuota_56 : decode cX3_lendQuota 56 = .ok (.if_icmp .le 6, 3) := by decide +kernel
theorem dX3_lendQuota_59 : decode cX3_lendQuota 59 = .ok (.bipush (-5), 2) := by decide +kernel
theorem dX3_lendQuota_61 : decode cX3_lendQuota 61 = .ok (.ireturn, 1) := by decide +kernel
theorem dX3_lendQuota_62 : decode cX3_lendQuota 62 = .ok (.aload_n 0, 1) := by decide +kernel
theorem dX3_lendQuota_63 : decode cX3_lendQuota 63 = .ok (.getfield 18, 3) := by decide +kernel
theorem dX3_lendQuota_66 : decode cX3_lendQuota 66 = .ok (.getfield 87, 3) := by decide +kernel
theorem dX3_lendQuota_69 : decode cX3_lendQuota 69 = .ok (.iload_n 1, 1) := by decide +kernel
theorem dX3_lendQuota_70 : decode cX3_lendQuota 70 = .ok (.dup2, 1) := by decide +kernel
theorem dX3_lendQuota_71 : decode cX3_lendQuota 71 = .ok (.iaload, 1) := by decide +kernel
theorem dX3_lendQuota_72 : decode cX3_lendQuota 72 = .ok (.iload_n 3, 1) := by decide +kernel
theorem dX3_lendQuota_73 : decode cX3_lendQuota 73 = .ok (.isub, 1) := by decide +kernel
theorem dX3_lendQuota_74 : decode cX3_lendQuota 74 = .ok (.iastore, 1) := by decide +kernel
theorem dX3_lendQuota_75 : decode cX3_lendQuota 75 = .ok (.aload_n 0, 1) := by decide +kernel
theorem dX3_lendQuota_76 : decode cX3_lendQuota 76 = .ok (.getfield 18, 3) := by decide +kernel
theorem dX3_lendQuota_79 : decode cX3_lendQuota 79 = .ok (.getfield 87, 3) := by decide +kernel
theorem dX3_lendQuota_82 : decode cX3_lendQuota 82 = .ok (.iload_n 2, 1) := by decide +kernel
theorem dX3_lendQuota_83 : decode cX3_lendQuota 83 = .ok (.dup2, 1) := by decide +kernel
theorem dX3_lendQuota_84 : decode cX3_lendQuota 84 = .ok (.iaload, 1) := by decide +kernel
theorem dX3_lendQuota_85 : decode cX3_lendQuota 85 = .ok (.iload_n 3, 1) := by decide +kernel
theorem dX3_lendQuota_86 : decode cX3_lendQuota 86 = .ok (.iadd, 1) := by decide +kernel
theorem dX3_lendQuota_87 : decode cX3_lendQuota 87 = .ok (.iastore, 1) := by decide +kernel
theorem dX3_lendQuota_88 : decode cX3_lendQuota 88 = .ok (.aload_n 0, 1) := by decide +kernel
theorem dX3_lendQuota_89 : decode cX3_lendQuota 89 = .ok (.getfield 18, 3) := by decide +kernel
theorem dX3_lendQuota_92 : decode cX3_lendQuota 92 = .ok (.getfield 87, 3) := by decide +kernel
theorem dX3_lendQuota_95 : decode cX3_lendQuota 95 = .ok (.iload_n 1, 1) := by decide +kernel
theorem dX3_lendQuota_96 : decode cX3_lendQuota 96 = .ok (.iaload, 1) := by decide +kernel
theorem dX3_lendQuota_97 : decode cX3_lendQuota 97 = .ok (.ireturn, 1) := by decide +kernel
theorem dX3_addField_0 : decode cX3_addField 0 = .ok (.iload_n 1, 1) := by decide +kernel
theorem dX3_addField_1 : decode cX3_addField 1 = .ok (.invokestatic 83, 3) := by decide +kernel
theorem dX3_addField_4 : decode cX3_addField 4 = .ok (.ifCond .ne 5, 3) := by decide +kernel
theorem dX3_addField_7 : decode cX3_addField 7 = .ok (.iconst (-1), 1) := by decide +kernel
theorem dX3_addField_8 : decode cX3_addField 8 = .ok (.ireturn, 1) := by decide +kernel
theorem dX3_addField_9 : decode cX3_addField 9 = .ok (.iload_n 2, 1) := by decide +kernel
theorem dX3_addField_10 : decode cX3_addField 10 = .ok (.iconst 1, 1) := by decide +kernel
theorem dX3_addField_11 : decode cX3_addField 11 = .ok (.sipush 300, 3) := by decide +kernel
theorem dX3_addField_14 : decode cX3_addField 14 = .ok (.invokestatic 73, 3) := by decide +kernel
theorem dX3_addField_17 : decode cX3_addField 17 = .ok (.ifCond .eq 13, 3) := by decide +kernel
theorem dX3_addField_20 : decode cX3_addField 20 = .ok (.iload_n 3, 1) := by decide +kernel
theorem dX3_addField_21 : decode cX3_addField 21 = .ok (.iconst 1, 1) := by decide +kernel
theorem dX3_addField_22 : decode cX3_addField 22 = .ok (.bipush 100, 2) := by decide +kernel
theorem dX3_addField_24 : decode cX3_addField 24 = .ok (.invokestatic 73, 3) := by decide +kernel
theorem dX3_addField_27 : decode cX3_addField 27 = .ok (.ifCond .ne 6, 3) := by decide +kernel
theorem dX3_addField_30 : decode cX3_addField 30 = .ok (.bipush (-2), 2) := by decide +kernel
theorem dX3_addField_32 : decode cX3_addField 32 = .ok (.ireturn, 1) := by decide +kernel
theorem dX3_addField_33 : decode cX3_addField 33 = .ok (.iload 4, 2) := by decide +kernel
theorem dX3_addField_35 : decode cX3_addField 35 = .ok (.aload_n 0, 1) := by decide +kernel
theorem dX3_addField_36 : decode cX3_addField 36 = .ok (.getfield 60, 3) := by decide +kernel
theorem dX3_addField_39 : decode cX3_addField 39 = .ok (.sipush 999, 3) := by decide +kernel
theorem dX3_addField_42 : decode cX3_addField 42 = .ok (.invokestatic 73, 3) := by decide +kernel
theorem dX3_addField_45 : decode cX3_addField 45 = .ok (.ifCond .ne 6, 3) := by decide +kernel
theorem dX3_addField_48 : decode cX3_addField 48 = .ok (.bipush (-2), 2) := by decide +kernel
theorem dX3_addField_50 : decode cX3_addField 50 = .ok (.ireturn, 1) := by decide +kernel
theorem dX3_addField_51 : decode cX3_addField 51 = .ok (.aload_n 0, 1) := by decide +kernel
theorem dX3_addField_52 : decode cX3_addField 52 = .ok (.getfield 25, 3) := by decide +kernel
theorem dX3_addField_55 : decode cX3_addField 55 = .ok (.iload_n 1, 1) := by decide +kernel
theorem dX3_addField_56 : decode cX3_addField 56 = .ok (.iload_n 2, 1) := by decide +kernel
theorem dX3_addField_57 : decode cX3_addField 57 = .ok (.iload_n 3, 1) := by decide +kernel
theorem dX3_addField_58 : decode cX3_addField 58 = .ok (.iload 4, 2) := by decide +kernel
theorem dX3_addField_60 : decode cX3_addField 60 = .ok (.invokevirtual 90, 3) := by decide +kernel
theorem dX3_addField_63 : decode cX3_addField 63 = .ok (.ireturn, 1) := by decide +kernel
theorem dX3_passDays_0 : decode cX3_passDays 0 = .ok (.iload_n 1, 1) := by decide +kernel
theorem dX3_passDays_1 : decode cX3_passDays 1 = .ok (.iconst 1, 1) := by decide +kernel
theorem dX3_passDays_2 : decode cX3_passDays 2 = .ok (.bipush 99, 2) := by decide +kernel
theorem dX3_passDays_4 : decode cX3_passDays 4 = .ok (.invokestatic 73, 3) := by decide +kernel
theorem dX3_passDays_7 : decode cX3_passDays 7 = .ok (.ifCond .ne 6, 3) := by decide +kernel
theorem dX3_passDays_10 : decode cX3_passDays 10 = .ok (.bipush (-2), 2) := by decide +kernel
theorem dX3_passDays_12 : decode cX3_passDays 12 = .ok (.ireturn, 1) := by decide +kernel
theorem dX3_passDays_13 : decode cX3_passDays 13 = .ok (.aload_n 0, 1) := by decide +kernel
theorem dX3_passDays_14 : decode cX3_passDays 14 = .ok (.getfield 60, 3) := by decide +kernel
theorem dX3_passDays_17 : decode cX3_passDays 17 = .ok (.iload_n 1, 1) := by decide +kernel
theorem dX3_passDays_18 : decode cX3_passDays 18 = .ok (.iadd, 1) := by decide +kernel
theorem dX3_passDays_19 : decode cX3_passDays 19 = .ok (.sipush 1000, 3) := by decide +kernel
theorem dX3_passDays_22 : decode cX3_passDays 22 = .ok (.if_icmp .le 6, 3) := by decide +kernel
theorem dX3_passDays_25 : decode cX3_passDays 25 = .ok (.bipush (-5), 2) := by decide +kernel
theorem dX3_passDays_27 : decode cX3_passDays 27 = .ok (.ireturn, 1) := by decide +kernel
theorem dX3_passDays_28 : decode cX3_passDays 28 = .ok (.iconst 0, 1) := by decide +kernel
theorem dX3_passDays_29 : decode cX3_passDays 29 = .ok (.istore_n 2, 1) := by decide +kernel
theorem dX3_passDays_30 : decode cX3_passDays 30 = .ok (.iload_n 2, 1) := by decide +kernel
theorem dX3_passDays_31 : decode cX3_passDays 31 = .ok (.iload_n 1, 1) := by decide +kernel
theorem dX3_passDays_32 : decode cX3_passDays 32 = .ok (.if_icmp .ge 14, 3) := by decide +kernel
theorem dX3_passDays_35 : decode cX3_passDays 35 = .ok (.aload_n 0, 1) := by decide +kernel
theorem dX3_passDays_36 : decode cX3_passDays 36 = .ok (.iconst 0, 1) := by decide +kernel
theorem dX3_passDays_37 : decode cX3_passDays 37 = .ok (.invokevirtual 94, 3) := by decide +kernel
theorem dX3_passDays_40 : decode cX3_passDays 40 = .ok (.iinc 2 1, 3) := by decide +kernel
theorem dX3_passDays_43 : decode cX3_passDays 43 = .ok (.goto (-13), 3) := by decide +kernel
theorem dX3_passDays_46 : decode cX3_passDays 46 = .ok (.aload_n 0, 1) := by decide +kernel
theorem dX3_passDays_47 : decode cX3_passDays 47 = .ok (.getfield 60, 3) := by decide +kernel
theorem dX3_passDays_50 : decode cX3_passDays 50 = .ok (.ireturn, 1) := by decide +kernel
theorem dX3_passDay_0 : decode cX3_passDay 0 = .ok (.aload_n 0, 1) := by decide +kernel
theorem dX3_passDay_1 : decode cX3_passDay 1 = .ok (.invokevirtual 98, 3) := by decide +kernel
theorem dX3_passDay_4 : decode cX3_passDay 4 = .ok (.aload_n 0, 1) := by decide +kernel
theorem dX3_passDay_5 : decode cX3_passDay 5 = .ok (.invokevirtual 101, 3) := by decide +kernel
theorem dX3_passDay_8 : decode cX3_passDay 8 = .ok (.iload_n 1, 1) := by decide +kernel
theorem dX3_passDay_9 : decode cX3_passDay 9 = .ok (.ifCond .ne 17, 3) := by decide +kernel
theorem dX3_passDay_12 : decode cX3_passDay 12 = .ok (.aload_n 0, 1) := by decide +kernel
theorem dX3_passDay_13 : decode cX3_passDay 13 = .ok (.getfield 32, 3) := by decide +kernel
theorem dX3_passDay_16 : decode cX3_passDay 16 = .ok (.aload_n 0, 1) := by decide +kernel
theorem dX3_passDay_17 : decode cX3_passDay 17 = .ok (.getfield 60, 3) := by decide +kernel
theorem dX3_passDay_20 : decode cX3_passDay 20 = .ok (.invokevirtual 104, 3) := by decide +kernel
theorem dX3_passDay_23 : decode cX3_passDay 23 = .ok (.ifCond .eq 16, 3) := by decide +kernel
theorem dX3_passDay_26 : decode cX3_passDay 26 = .ok (.aload_n 0, 1) := by decide +kernel
theorem dX3_passDay_27 : decode cX3_passDay 27 = .ok (.dup, 1) := by decide +kernel
theorem dX3_passDay_28 : decode cX3_passDay 28 = .ok (.getfield 70, 3) := by decide +kernel
theorem dX3_passDay_31 : decode cX3_passDay 31 = .ok (.iconst 1, 1) := by decide +kernel
theorem dX3_passDay_32 : decode cX3_passDay 32 = .ok (.iadd, 1) := by decide +kernel
theorem dX3_passDay_33 : decode cX3_passDay 33 = .ok (.putfield 70, 3) := by decide +kernel
theorem dX3_passDay_36 : decode cX3_passDay 36 = .ok (.goto 7, 3) := by decide +kernel
theorem dX3_passDay_39 : decode cX3_passDay 39 = .ok (.aload_n 0, 1) := by decide +kernel
theorem dX3_passDay_40 : decode cX3_passDay 40 = .ok (.invokevirtual 107, 3) := by decide +kernel
theorem dX3_passDay_43 : decode cX3_passDay 43 = .ok (.aload_n 0, 1) := by decide +kernel
theorem dX3_passDay_44 : decode cX3_passDay 44 = .ok (.dup, 1) := by decide +kernel
theorem dX3_passDay_45 : decode cX3_passDay 45 = .ok (.getfield 60, 3) := by decide +kernel
theorem dX3_passDay_48 : decode cX3_passDay 48 = .ok (.iconst 1, 1) := by decide +kernel
theorem dX3_passDay_49 : decode cX3_passDay 49 = .ok (.iadd, 1) := by decide +kernel
theorem dX3_passDay_50 : decode cX3_passDay 50 = .ok (.putfield 60, 3) := by decide +kernel
theorem dX3_passDay_53 : decode cX3_passDay 53 = .ok (.return_, 1) := by decide +kernel
theorem dX3_loseOldCane_0 : decode cX3_loseOldCane 0 = .ok (.iconst 0, 1) := by decide +kernel
theorem dX3_loseOldCane_1 : decode cX3_loseOldCane 1 = .ok (.istore_n 1, 1) := by decide +kernel
theorem dX3_loseOldCane_2 : decode cX3_loseOldCane 2 = .ok (.iload_n 1, 1) := by decide +kernel
theorem dX3_loseOldCane_3 : decode cX3_loseOldCane 3 = .ok (.aload_n 0, 1) := by decide +kernel
theorem dX3_loseOldCane_4 : decode cX3_loseOldCane 4 = .ok (.getfield 25, 3) := by decide +kernel
theorem dX3_loseOldCane_7 : decode cX3_loseOldCane 7 = .ok (.getfield 110, 3) := by decide +kernel
theorem dX3_loseOldCane_10 : decode cX3_loseOldCane 10 = .ok (.if_icmp .ge 60, 3) := by decide +kernel
theorem dX3_loseOldCane_13 : decode cX3_loseOldCane 13 = .ok (.aload_n 0, 1) := by decide +kernel
theorem dX3_loseOldCane_14 : decode cX3_loseOldCane 14 = .ok (.getfield 60, 3) := by decide +kernel
theorem dX3_loseOldCane_17 : decode cX3_loseOldCane 17 = .ok (.aload_n 0, 1) := by decide +kernel
theorem dX3_loseOldCane_18 : decode cX3_loseOldCane 18 = .ok (.getfield 25, 3) := by decide +kernel
theorem dX3_loseOldCane_21 : decode cX3_loseOldCane 21 = .ok (.getfield 113, 3) := by decide +kernel
theorem dX3_loseOldCane_24 : decode cX3_loseOldCane 24 = .ok (.iload_n 1, 1) := by decide +kernel
theorem dX3_loseOldCane_25 : decode cX3_loseOldCane 25 = .ok (.iaload, 1) := by decide +kernel
theorem dX3_loseOldCane_26 : decode cX3_loseOldCane 26 = .ok (.isub, 1) := by decide +kernel
theorem dX3_loseOldCane_27 : decode cX3_loseOldCane 27 = .ok (.aload_n 0, 1) := by decide +kernel
theorem dX3_loseOldCane_28 : decode cX3_loseOldCane 28 = .ok (.getfield 9, 3) := by decide +kernel
theorem dX3_loseOldCane_31 : decode cX3_loseOldCane 31 = .ok (.iconst 5, 1) := by decide +kernel
theorem dX3_loseOldCane_32 : decode cX3_loseOldCane 32 = .ok (.iaload, 1) := by decide +kernel
theorem dX3_loseOldCane_33 : decode cX3_loseOldCane 33 = .ok (.if_icmp .le 31, 3) := by decide +kernel
theorem dX3_loseOldCane_36 : decode cX3_loseOldCane 36 = .ok (.aload_n 0, 1) := by decide +kernel
theorem dX3_loseOldCane_37 : decode cX3_loseOldCane 37 = .ok (.getfield 18, 3) := by decide +kernel
theorem dX3_loseOldCane_40 : decode cX3_loseOldCane 40 = .ok (.getfield 116, 3) := by decide +kernel
theorem dX3_loseOldCane_43 : decode cX3_loseOldCane 43 = .ok (.aload_n 0, 1) := by decide +kernel
theorem dX3_loseOldCane_44 : decode cX3_loseOldCane 44 = .ok (.getfield 25, 3) := by decide +kernel
theorem dX3_loseOldCane_47 : decode cX3_loseOldCane 47 = .ok (.getfield 119, 3) := by decide +kernel
theorem dX3_loseOldCane_50 : decode cX3_loseOldCane 50 = .ok (.iload_n 1, 1) := by decide +kernel
theorem dX3_loseOldCane_51 : decode cX3_loseOldCane 51 = .ok (.iaload, 1) := by decide +kernel
theorem dX3_loseOldCane_52 : decode cX3_loseOldCane 52 = .ok (.dup2, 1) := by decide +kernel
theorem dX3_loseOldCane_53 : decode cX3_loseOldCane 53 = .ok (.iaload, 1) := by decide +kernel
theorem dX3_loseOldCane_54 : decode cX3_loseOldCane 54 = .ok (.aload_n 0, 1) := by decide +kernel
theorem dX3_loseOldCane_55 : decode cX3_loseOldCane 55 = .ok (.getfield 25, 3) := by decide +kernel
theorem dX3_loseOldCane_58 : decode cX3_loseOldCane 58 = .ok (.iload_n 1, 1) := by decide +kernel
theorem dX3_loseOldCane_59 : decode cX3_loseOldCane 59 = .ok (.invokevirtual 122, 3) := by decide +kernel
theorem dX3_loseOldCane_62 : decode cX3_loseOldCane 62 = .ok (.iadd, 1) := by decide +kernel
theorem dX3_loseOldCane_63 : decode cX3_loseOldCane 63 = .ok (.iastore, 1) := by decide +kernel
theorem dX3_loseOldCane_64 : decode cX3_loseOldCane 64 = .ok (.iinc 1 1, 3) := by decide +kernel
theorem dX3_loseOldCane_67 : decode cX3_loseOldCane 67 = .ok (.goto (-65), 3) := by decide +kernel
theorem dX3_loseOldCane_70 : decode cX3_loseOldCane 70 = .ok (.return_, 1) := by decide +kernel
theorem dX3_bringLoads_0 : decode cX3_bringLoads 0 = .ok (.iconst 0, 1) := by decide +kernel
theorem dX3_bringLoads_1 : decode cX3_bringLoads 1 = .ok (.istore_n 1, 1) := by decide +kernel
theorem dX3_bringLoads_2 : decode cX3_bringLoads 2 = .ok (.iload_n 1, 1) := by decide +kernel
theorem dX3_bringLoads_3 : decode cX3_bringLoads 3 = .ok (.aload_n 0, 1) := by decide +kernel
theorem dX3_bringLoads_4 : decode cX3_bringLoads 4 = .ok (.getfield 9, 3) := by decide +kernel
theorem dX3_bringLoads_7 : decode cX3_bringLoads 7 = .ok (.iconst 0, 1) := by decide +kernel
theorem dX3_bringLoads_8 : decode cX3_bringLoads 8 = .ok (.iaload, 1) := by decide +kernel
theorem dX3_bringLoads_9 : decode cX3_bringLoads 9 = .ok (.if_icmp .ge 26, 3) := by decide +kernel
theorem dX3_bringLoads_12 : decode cX3_bringLoads 12 = .ok (.aload_n 0, 1) := by decide +kernel
theorem dX3_bringLoads_13 : decode cX3_bringLoads 13 = .ok (.invokevirtual 126, 3) := by decide +kernel
theorem dX3_bringLoads_16 : decode cX3_bringLoads 16 = .ok (.istore_n 2, 1) := by decide +kernel
theorem dX3_bringLoads_17 : decode cX3_bringLoads 17 = .ok (.iload_n 2, 1) := by decide +kernel
theorem dX3_bringLoads_18 : decode cX3_bringLoads 18 = .ok (.bipush (-6), 2) := by decide +kernel
theorem dX3_bringLoads_20 : decode cX3_bringLoads 20 = .ok (.if_icmp .ne 4, 3) := by decide +kernel
theorem dX3_bringLoads_23 : decode cX3_bringLoads 23 = .ok (.return_, 1) := by decide +kernel
theorem dX3_bringLoads_24 : decode cX3_bringLoads 24 = .ok (.aload_n 0, 1) := by decide +kernel
theorem dX3_bringLoads_25 : decode cX3_bringLoads 25 = .ok (.iload_n 2, 1) := by decide +kernel
theorem dX3_bringLoads_26 : decode cX3_bringLoads 26 = .ok (.invokevirtual 130, 3) := by decide +kernel
theorem dX3_bringLoads_29 : decode cX3_bringLoads 29 = .ok (.iinc 1 1, 3) := by decide +kernel
theorem dX3_bringLoads_32 : decode cX3_bringLoads 32 = .ok (.goto (-30), 3) := by decide +kernel
theorem dX3_bringLoads_35 : decode cX3_bringLoads 35 = .ok (.return_, 1) := by decide +kernel
theorem dX3_nextField_0 : decode cX3_nextField 0 = .ok (.aload_n 0, 1) := by decide +kernel
theorem dX3_nextField_1 : decode cX3_nextField 1 = .ok (.invokevirtual 134, 3) := by decide +kernel
theorem dX3_nextField_4 : decode cX3_nextField 4 = .ok (.ifCond .gt 6, 3) := by decide +kernel
theorem dX3_nextField_7 : decode cX3_nextField 7 = .ok (.bipush (-6), 2) := by decide +kernel
theorem dX3_nextField_9 : decode cX3_nextField 9 = .ok (.ireturn, 1) := by decide +kernel
theorem dX3_nextField_10 : decode cX3_nextField 10 = .ok (.bipush (-6), 2) := by decide +kernel
theorem dX3_nextField_12 : decode cX3_nextField 12 = .ok (.istore_n 1, 1) := by decide +kernel
theorem dX3_nextField_13 : decode cX3_nextField 13 = .ok (.iconst 0, 1) := by decide +kernel
theorem dX3_nextField_14 : decode cX3_nextField 14 = .ok (.istore_n 2, 1) := by decide +kernel
theorem dX3_nextField_15 : decode cX3_nextField 15 = .ok (.iload_n 2, 1) := by decide +kernel
theorem dX3_nextField_16 : decode cX3_nextField 16 = .ok (.aload_n 0, 1) := by decide +kernel
theorem dX3_nextField_17 : decode cX3_nextField 17 = .ok (.getfield 25, 3) := by decide +kernel
theorem dX3_nextField_20 : decode cX3_nextField 20 = .ok (.getfield 110, 3) := by decide +kernel
theorem dX3_nextField_23 : decode cX3_nextField 23 = .ok (.if_icmp .ge 53, 3) := by decide +kernel
theorem dX3_nextField_26 : decode cX3_nextField 26 = .ok (.aload_n 0, 1) := by decide +kernel
theorem dX3_nextField_27 : decode cX3_nextField 27 = .ok (.getfield 25, 3) := by decide +kernel
theorem dX3_nextField_30 : decode cX3_nextField 30 = .ok (.iload_n 2, 1) := by decide +kernel
theorem dX3_nextField_31 : decode cX3_nextField 31 = .ok (.aload_n 0, 1) := by decide +kernel
theorem dX3_nextField_32 : decode cX3_nextField 32 = .ok (.getfield 60, 3) := by decide +kernel
theorem dX3_nextField_35 : decode cX3_nextField 35 = .ok (.invokevirtual 137, 3) := by decide +kernel
theorem dX3_nextField_38 : decode cX3_nextField 38 = .ok (.iconst 1, 1) := by decide +kernel
theorem dX3_nextField_39 : decode cX3_nextField 39 = .ok (.if_icmp .ne 31, 3) := by decide +kernel
theorem dX3_nextField_42 : decode cX3_nextField 42 = .ok (.aload_n 0, 1) := by decide +kernel
theorem dX3_nextField_43 : decode cX3_nextField 43 = .ok (.iload_n 2, 1) := by decide +kernel
theorem dX3_nextField_44 : decode cX3_nextField 44 = .ok (.invokevirtual 141, 3) := by decide +kernel
theorem dX3_nextField_47 : decode cX3_nextField 47 = .ok (.ifCond .gt 6, 3) := by decide +kernel
theorem dX3_nextField_50 : decode cX3_nextField 50 = .ok (.goto 20, 3) := by decide +kernel
theorem dX3_nextField_53 : decode cX3_nextField 53 = .ok (.iload_n 1, 1) := by decide +kernel
theorem dX3_nextField_54 : decode cX3_nextField 54 = .ok (.bipush (-6), 2) := by decide +kernel
theorem dX3_nextField_56 : decode cX3_nextField 56 = .ok (.if_icmp .eq 12, 3) := by decide +kernel
theorem dX3_nextField_59 : decode cX3_nextField 59 = .ok (.aload_n 0, 1) := by decide +kernel
theorem dX3_nextField_60 : decode cX3_nextField 60 = .ok (.iload_n 2, 1) := by decide +kernel
theorem dX3_nextField_61 : decode cX3_nextField 61 = .ok (.iload_n 1, 1) := by decide +kernel
theorem dX3_nextField_62 : decode cX3_nextField 62 = .ok (.invokevirtual 144, 3) := by decide +kernel
theorem dX3_nextField_65 : decode cX3_nextField 65 = .ok (.ifCond .eq 5, 3) := by decide +kernel
theorem dX3_nextField_68 : decode cX3_nextField 68 = .ok (.iload_n 2, 1) := by decide +kernel
theorem dX3_nextField_69 : decode cX3_nextField 69 = .ok (.istore_n 1, 1) := by decide +kernel
theorem dX3_nextField_70 : decode cX3_nextField 70 = .ok (.iinc 2 1, 3) := by decide +kernel
theorem dX3_nextField_73 : decode cX3_nextField 73 = .ok (.goto (-58), 3) := by decide +kernel
theorem dX3_nextField_76 : decode cX3_nextField 76 = .ok (.iload_n 1, 1) := by decide +kernel
theorem dX3_nextField_77 : decode cX3_nextField 77 = .ok (.ireturn, 1) := by decide +kernel
theorem dX3_goesAhead_0 : decode cX3_goesAhead 0 = .ok (.aload_n 0, 1) := by decide +kernel
theorem dX3_goesAhead_1 : decode cX3_goesAhead 1 = .ok (.getfield 25, 3) := by decide +kernel
theorem dX3_goesAhead_4 : decode cX3_goesAhead 4 = .ok (.getfield 113, 3) := by decide +kernel
theorem dX3_goesAhead_7 : decode cX3_goesAhead 7 = .ok (.astore_n 3, 1) := by decide +kernel
theorem dX3_goesAhead_8 : decode cX3_goesAhead 8 = .ok (.aload_n 0, 1) := by decide +kernel
theorem dX3_goesAhead_9 : decode cX3_goesAhead 9 = .ok (.getfield 25, 3) := by decide +kernel
theorem dX3_goesAhead_12 : decode cX3_goesAhead 12 = .ok (.getfield 119, 3) := by decide +kernel
theorem dX3_goesAhead_15 : decode cX3_goesAhead 15 = .ok (.astore 4, 2) := by decide +kernel
theorem dX3_goesAhead_17 : decode cX3_goesAhead 17 = .ok (.aload_n 3, 1) := by decide +kernel
theorem dX3_goesAhead_18 : decode cX3_goesAhead 18 = .ok (.iload_n 1, 1) := by decide +kernel
theorem dX3_goesAhead_19 : decode cX3_goesAhead 19 = .ok (.iaload, 1) := by decide +kernel
theorem dX3_goesAhead_20 : decode cX3_goesAhead 20 = .ok (.aload_n 3, 1) := by decide +kernel
theorem dX3_goesAhead_21 : decode cX3_goesAhead 21 = .ok (.iload_n 2, 1) := by decide +kernel
theorem dX3_goesAhead_22 : decode cX3_goesAhead 22 = .ok (.iaload, 1) := by decide +kernel
theorem dX3_goesAhead_23 : decode cX3_goesAhead 23 = .ok (.if_icmp .eq 18, 3) := by decide +kernel
theorem dX3_goesAhead_26 : decode cX3_goesAhead 26 = .ok (.aload_n 3, 1) := by decide +kernel
theorem dX3_goesAhead_27 : decode cX3_goesAhead 27 = .ok (.iload_n 1, 1) := by decide +kernel
theorem dX3_goesAhead_28 : decode cX3_goesAhead 28 = .ok (.iaload, 1) := by decide +kernel
theorem dX3_goesAhead_29 : decode cX3_goesAhead 29 = .ok (.aload_n 3, 1) := by decide +kernel
theorem dX3_goesAhead_30 : decode cX3_goesAhead 30 = .ok (.iload_n 2, 1) := by decide +kernel
theorem dX3_goesAhead_31 : decode cX3_goesAhead 31 = .ok (.iaload, 1) := by decide +kernel
theorem dX3_goesAhead_32 : decode cX3_goesAhead 32 = .ok (.if_icmp .ge 7, 3) := by decide +kernel
theorem dX3_goesAhead_35 : decode cX3_goesAhead 35 = .ok (.iconst 1, 1) := by decide +kernel
theorem dX3_goesAhead_36 : decode cX3_goesAhead 36 = .ok (.goto 4, 3) := by decide +kernel
theorem dX3_goesAhead_39 : decode cX3_goesAhead 39 = .ok (.iconst 0, 1) := by decide +kernel
theorem dX3_goesAhead_40 : decode cX3_goesAhead 40 = .ok (.ireturn, 1) := by decide +kernel
theorem dX3_goesAhead_41 : decode cX3_goesAhead 41 = .ok (.aload_n 0, 1) := by decide +kernel
theorem dX3_goesAhead_42 : decode cX3_goesAhead 42 = .ok (.getfield 18, 3) := by decide +kernel
theorem dX3_goesAhead_45 : decode cX3_goesAhead 45 = .ok (.getfield 87, 3) := by decide +kernel
theorem dX3_goesAhead_48 : decode cX3_goesAhead 48 = .ok (.aload 4, 2) := by decide +kernel
theorem dX3_goesAhead_50 : decode cX3_goesAhead 50 = .ok (.iload_n 1, 1) := by decide +kernel
theorem dX3_goesAhead_51 : decode cX3_goesAhead 51 = .ok (.iaload, 1) := by decide +kernel
theorem dX3_goesAhead_52 : decode cX3_goesAhead 52 = .ok (.iaload, 1) := by decide +kernel
theorem dX3_goesAhead_53 : decode cX3_goesAhead 53 = .ok (.aload_n 0, 1) := by decide +kernel
theorem dX3_goesAhead_54 : decode cX3_goesAhead 54 = .ok (.getfield 18, 3) := by decide +kernel
theorem dX3_goesAhead_57 : decode cX3_goesAhead 57 = .ok (.getfield 87, 3) := by decide +kernel
theorem dX3_goesAhead_60 : decode cX3_goesAhead 60 = .ok (.aload 4, 2) := by decide +kernel
theorem dX3_goesAhead_62 : decode cX3_goesAhead 62 = .ok (.iload_n 2, 1) := by decide +kernel
theorem dX3_goesAhead_63 : decode cX3_goesAhead 63 = .ok (.iaload, 1) := by decide +kernel
theorem dX3_goesAhead_64 : decode cX3_goesAhead 64 = .ok (.iaload, 1) := by decide +kernel
theorem dX3_goesAhead_65 : decode cX3_goesAhead 65 = .ok (.if_icmp .le 7, 3) := by decide +kernel
theorem dX3_goesAhead_68 : decode cX3_goesAhead 68 = .ok (.iconst 1, 1) := by decide +kernel
theorem dX3_goesAhead_69 : decode cX3_goesAhead 69 = .ok (.goto 4, 3) := by decide +kernel
theorem dX3_goesAhead_72 : decode cX3_goesAhead 72 = .ok (.iconst 0, 1) := by decide +kernel
theorem dX3_goesAhead_73 : decode cX3_goesAhead 73 = .ok (.ireturn, 1) := by decide +kernel
theorem dX3_quotaOf_0 : decode cX3_quotaOf 0 = .ok (.aload_n 0, 1) := by decide +kernel
theorem dX3_quotaOf_1 : decode cX3_quotaOf 1 = .ok (.getfield 18, 3) := by decide +kernel
theorem dX3_quotaOf_4 : decode cX3_quotaOf 4 = .ok (.getfield 87, 3) := by decide +kernel
theorem dX3_quotaOf_7 : decode cX3_quotaOf 7 = .ok (.aload_n 0, 1) := by decide +kernel
end
section
theorem dX3_quotaOf_8 : decode cX3_quotaOf 8 = .ok (.getfield 25, 3) := by decide +kernel
theorem dX3_quotaOf_11 : decode cX3_quotaOf 11 = .ok (.getfield 119, 3) := by decide +kernel
theorem dX3_quotaOf_14 : decode cX3_quotaOf 14 = .ok (.iload_n 1, 1) := by decide +kernel
theorem dX3_quotaOf_15 : decode cX3_quotaOf 15 = .ok (.iaload, 1) := by decide +kernel
theorem dX3_quotaOf_16 : decode cX3_quotaOf 16 = .ok (.iaload, 1) := by decide +kernel
theorem dX3_quotaOf_17 : decode cX3_quotaOf 17 = .ok (.ireturn, 1) := by decide +kernel
theorem dX3_room_0 : decode cX3_room 0 = .ok (.aload_n 0, 1) := by decide +kernel
theorem dX3_room_1 : decode cX3_room 1 = .ok (.getfield 39, 3) := by decide +kernel
theorem dX3_room_4 : decode cX3_room 4 = .ok (.getfield 148, 3) := by decide +kernel
theorem dX3_room_7 : decode cX3_room 7 = .ok (.sipush 400, 3) := by decide +kernel
theorem dX3_room_10 : decode cX3_room 10 = .ok (.if_icmp .ge 20, 3) := by decide +kernel
theorem dX3_room_13 : decode cX3_room 13 = .ok (.aload_n 0, 1) := by decide +kernel
theorem dX3_room_14 : decode cX3_room 14 = .ok (.getfield 9, 3) := by decide +kernel
theorem dX3_room_17 : decode cX3_room 17 = .ok (.iconst 3, 1) := by decide +kernel
theorem dX3_room_18 : decode cX3_room 18 = .ok (.iaload, 1) := by decide +kernel
theorem dX3_room_19 : decode cX3_room 19 = .ok (.aload_n 0, 1) := by decide +kernel
theorem dX3_room_20 : decode cX3_room 20 = .ok (.getfield 39, 3) := by decide +kernel
theorem dX3_room_23 : decode cX3_room 23 = .ok (.getfield 151, 3) := by decide +kernel
theorem dX3_room_26 : decode cX3_room 26 = .ok (.isub, 1) := by decide +kernel
theorem dX3_room_27 : decode cX3_room 27 = .ok (.goto 4, 3) := by decide +kernel
theorem dX3_room_30 : decode cX3_room 30 = .ok (.iconst 0, 1) := by decide +kernel
theorem dX3_room_31 : decode cX3_room 31 = .ok (.ireturn, 1) := by decide +kernel
theorem dX3_bringLoad_0 : decode cX3_bringLoad 0 = .ok (.aload_n 0, 1) := by decide +kernel
theorem dX3_bringLoad_1 : decode cX3_bringLoad 1 = .ok (.getfield 9, 3) := by decide +kernel
theorem dX3_bringLoad_4 : decode cX3_bringLoad 4 = .ok (.iconst 1, 1) := by decide +kernel
theorem dX3_bringLoad_5 : decode cX3_bringLoad 5 = .ok (.iaload, 1) := by decide +kernel
theorem dX3_bringLoad_6 : decode cX3_bringLoad 6 = .ok (.aload_n 0, 1) := by decide +kernel
theorem dX3_bringLoad_7 : decode cX3_bringLoad 7 = .ok (.getfield 25, 3) := by decide +kernel
theorem dX3_bringLoad_10 : decode cX3_bringLoad 10 = .ok (.getfield 154, 3) := by decide +kernel
theorem dX3_bringLoad_13 : decode cX3_bringLoad 13 = .ok (.iload_n 1, 1) := by decide +kernel
theorem dX3_bringLoad_14 : decode cX3_bringLoad 14 = .ok (.iaload, 1) := by decide +kernel
theorem dX3_bringLoad_15 : decode cX3_bringLoad 15 = .ok (.invokestatic 157, 3) := by decide +kernel
theorem dX3_bringLoad_18 : decode cX3_bringLoad 18 = .ok (.istore_n 2, 1) := by decide +kernel
theorem dX3_bringLoad_19 : decode cX3_bringLoad 19 = .ok (.iload_n 2, 1) := by decide +kernel
theorem dX3_bringLoad_20 : decode cX3_bringLoad 20 = .ok (.aload_n 0, 1) := by decide +kernel
theorem dX3_bringLoad_21 : decode cX3_bringLoad 21 = .ok (.iload_n 1, 1) := by decide +kernel
theorem dX3_bringLoad_22 : decode cX3_bringLoad 22 = .ok (.invokevirtual 141, 3) := by decide +kernel
theorem dX3_bringLoad_25 : decode cX3_bringLoad 25 = .ok (.aload_n 0, 1) := by decide +kernel
theorem dX3_bringLoad_26 : decode cX3_bringLoad 26 = .ok (.invokevirtual 134, 3) := by decide +kernel
theorem dX3_bringLoad_29 : decode cX3_bringLoad 29 = .ok (.invokestatic 157, 3) := by decide +kernel
theorem dX3_bringLoad_32 : decode cX3_bringLoad 32 = .ok (.invokestatic 157, 3) := by decide +kernel
theorem dX3_bringLoad_35 : decode cX3_bringLoad 35 = .ok (.istore_n 3, 1) := by decide +kernel
theorem dX3_bringLoad_36 : decode cX3_bringLoad 36 = .ok (.aload_n 0, 1) := by decide +kernel
theorem dX3_bringLoad_37 : decode cX3_bringLoad 37 = .ok (.getfield 25, 3) := by decide +kernel
theorem dX3_bringLoad_40 : decode cX3_bringLoad 40 = .ok (.getfield 119, 3) := by decide +kernel
theorem dX3_bringLoad_43 : decode cX3_bringLoad 43 = .ok (.iload_n 1, 1) := by decide +kernel
theorem dX3_bringLoad_44 : decode cX3_bringLoad 44 = .ok (.iaload, 1) := by decide +kernel
theorem dX3_bringLoad_45 : decode cX3_bringLoad 45 = .ok (.istore 4, 2) := by decide +kernel
theorem dX3_bringLoad_47 : decode cX3_bringLoad 47 = .ok (.aload_n 0, 1) := by decide +kernel
theorem dX3_bringLoad_48 : decode cX3_bringLoad 48 = .ok (.getfield 18, 3) := by decide +kernel
theorem dX3_bringLoad_51 : decode cX3_bringLoad 51 = .ok (.getfield 87, 3) := by decide +kernel
theorem dX3_bringLoad_54 : decode cX3_bringLoad 54 = .ok (.iload 4, 2) := by decide +kernel
theorem dX3_bringLoad_56 : decode cX3_bringLoad 56 = .ok (.dup2, 1) := by decide +kernel
theorem dX3_bringLoad_57 : decode cX3_bringLoad 57 = .ok (.iaload, 1) := by decide +kernel
theorem dX3_bringLoad_58 : decode cX3_bringLoad 58 = .ok (.iload_n 3, 1) := by decide +kernel
theorem dX3_bringLoad_59 : decode cX3_bringLoad 59 = .ok (.isub, 1) := by decide +kernel
theorem dX3_bringLoad_60 : decode cX3_bringLoad 60 = .ok (.iastore, 1) := by decide +kernel
theorem dX3_bringLoad_61 : decode cX3_bringLoad 61 = .ok (.aload_n 0, 1) := by decide +kernel
theorem dX3_bringLoad_62 : decode cX3_bringLoad 62 = .ok (.getfield 18, 3) := by decide +kernel
theorem dX3_bringLoad_65 : decode cX3_bringLoad 65 = .ok (.getfield 162, 3) := by decide +kernel
theorem dX3_bringLoad_68 : decode cX3_bringLoad 68 = .ok (.iload 4, 2) := by decide +kernel
theorem dX3_bringLoad_70 : decode cX3_bringLoad 70 = .ok (.dup2, 1) := by decide +kernel
theorem dX3_bringLoad_71 : decode cX3_bringLoad 71 = .ok (.iaload, 1) := by decide +kernel
theorem dX3_bringLoad_72 : decode cX3_bringLoad 72 = .ok (.iload_n 3, 1) := by decide +kernel
theorem dX3_bringLoad_73 : decode cX3_bringLoad 73 = .ok (.iadd, 1) := by decide +kernel
theorem dX3_bringLoad_74 : decode cX3_bringLoad 74 = .ok (.iastore, 1) := by decide +kernel
theorem dX3_bringLoad_75 : decode cX3_bringLoad 75 = .ok (.aload_n 0, 1) := by decide +kernel
theorem dX3_bringLoad_76 : decode cX3_bringLoad 76 = .ok (.getfield 25, 3) := by decide +kernel
theorem dX3_bringLoad_79 : decode cX3_bringLoad 79 = .ok (.getfield 154, 3) := by decide +kernel
theorem dX3_bringLoad_82 : decode cX3_bringLoad 82 = .ok (.iload_n 1, 1) := by decide +kernel
theorem dX3_bringLoad_83 : decode cX3_bringLoad 83 = .ok (.dup2, 1) := by decide +kernel
theorem dX3_bringLoad_84 : decode cX3_bringLoad 84 = .ok (.iaload, 1) := by decide +kernel
theorem dX3_bringLoad_85 : decode cX3_bringLoad 85 = .ok (.iload_n 3, 1) := by decide +kernel
theorem dX3_bringLoad_86 : decode cX3_bringLoad 86 = .ok (.isub, 1) := by decide +kernel
theorem dX3_bringLoad_87 : decode cX3_bringLoad 87 = .ok (.iastore, 1) := by decide +kernel
theorem dX3_bringLoad_88 : decode cX3_bringLoad 88 = .ok (.aload_n 0, 1) := by decide +kernel
theorem dX3_bringLoad_89 : decode cX3_bringLoad 89 = .ok (.getfield 25, 3) := by decide +kernel
theorem dX3_bringLoad_92 : decode cX3_bringLoad 92 = .ok (.getfield 165, 3) := by decide +kernel
theorem dX3_bringLoad_95 : decode cX3_bringLoad 95 = .ok (.iload_n 1, 1) := by decide +kernel
theorem dX3_bringLoad_96 : decode cX3_bringLoad 96 = .ok (.dup2, 1) := by decide +kernel
theorem dX3_bringLoad_97 : decode cX3_bringLoad 97 = .ok (.iaload, 1) := by decide +kernel
theorem dX3_bringLoad_98 : decode cX3_bringLoad 98 = .ok (.iload_n 3, 1) := by decide +kernel
theorem dX3_bringLoad_99 : decode cX3_bringLoad 99 = .ok (.iadd, 1) := by decide +kernel
theorem dX3_bringLoad_100 : decode cX3_bringLoad 100 = .ok (.iastore, 1) := by decide +kernel
theorem dX3_bringLoad_101 : decode cX3_bringLoad 101 = .ok (.aload_n 0, 1) := by decide +kernel
theorem dX3_bringLoad_102 : decode cX3_bringLoad 102 = .ok (.getfield 39, 3) := by decide +kernel
theorem dX3_bringLoad_105 : decode cX3_bringLoad 105 = .ok (.iload_n 1, 1) := by decide +kernel
theorem dX3_bringLoad_106 : decode cX3_bringLoad 106 = .ok (.iload_n 3, 1) := by decide +kernel
theorem dX3_bringLoad_107 : decode cX3_bringLoad 107 = .ok (.aload_n 0, 1) := by decide +kernel
theorem dX3_bringLoad_108 : decode cX3_bringLoad 108 = .ok (.getfield 60, 3) := by decide +kernel
theorem dX3_bringLoad_111 : decode cX3_bringLoad 111 = .ok (.invokevirtual 168, 3) := by decide +kernel
theorem dX3_bringLoad_114 : decode cX3_bringLoad 114 = .ok (.aload_n 0, 1) := by decide +kernel
theorem dX3_bringLoad_115 : decode cX3_bringLoad 115 = .ok (.dup, 1) := by decide +kernel
theorem dX3_bringLoad_116 : decode cX3_bringLoad 116 = .ok (.getfield 67, 3) := by decide +kernel
theorem dX3_bringLoad_119 : decode cX3_bringLoad 119 = .ok (.iconst 1, 1) := by decide +kernel
theorem dX3_bringLoad_120 : decode cX3_bringLoad 120 = .ok (.iadd, 1) := by decide +kernel
theorem dX3_bringLoad_121 : decode cX3_bringLoad 121 = .ok (.putfield 67, 3) := by decide +kernel
theorem dX3_bringLoad_124 : decode cX3_bringLoad 124 = .ok (.return_, 1) := by decide +kernel
theorem dX3_crush_0 : decode cX3_crush 0 = .ok (.aload_n 0, 1) := by decide +kernel
theorem dX3_crush_1 : decode cX3_crush 1 = .ok (.getfield 9, 3) := by decide +kernel
theorem dX3_crush_4 : decode cX3_crush 4 = .ok (.iconst 2, 1) := by decide +kernel
theorem dX3_crush_5 : decode cX3_crush 5 = .ok (.iaload, 1) := by decide +kernel
theorem dX3_crush_6 : decode cX3_crush 6 = .ok (.istore_n 1, 1) := by decide +kernel
theorem dX3_crush_7 : decode cX3_crush 7 = .ok (.iconst 0, 1) := by decide +kernel
theorem dX3_crush_8 : decode cX3_crush 8 = .ok (.istore_n 2, 1) := by decide +kernel
theorem dX3_crush_9 : decode cX3_crush 9 = .ok (.iconst 0, 1) := by decide +kernel
theorem dX3_crush_10 : decode cX3_crush 10 = .ok (.istore_n 3, 1) := by decide +kernel
theorem dX3_crush_11 : decode cX3_crush 11 = .ok (.iload_n 3, 1) := by decide +kernel
theorem dX3_crush_12 : decode cX3_crush 12 = .ok (.aload_n 0, 1) := by decide +kernel
theorem dX3_crush_13 : decode cX3_crush 13 = .ok (.getfield 39, 3) := by decide +kernel
theorem dX3_crush_16 : decode cX3_crush 16 = .ok (.getfield 148, 3) := by decide +kernel
theorem dX3_crush_19 : decode cX3_crush 19 = .ok (.if_icmp .ge 64, 3) := by decide +kernel
theorem dX3_crush_22 : decode cX3_crush 22 = .ok (.iload_n 1, 1) := by decide +kernel
theorem dX3_crush_23 : decode cX3_crush 23 = .ok (.ifCond .le 60, 3) := by decide +kernel
theorem dX3_crush_26 : decode cX3_crush 26 = .ok (.iload_n 1, 1) := by decide +kernel
theorem dX3_crush_27 : decode cX3_crush 27 = .ok (.aload_n 0, 1) := by decide +kernel
theorem dX3_crush_28 : decode cX3_crush 28 = .ok (.getfield 39, 3) := by decide +kernel
theorem dX3_crush_31 : decode cX3_crush 31 = .ok (.getfield 171, 3) := by decide +kernel
theorem dX3_crush_34 : decode cX3_crush 34 = .ok (.iload_n 3, 1) := by decide +kernel
theorem dX3_crush_35 : decode cX3_crush 35 = .ok (.iaload, 1) := by decide +kernel
theorem dX3_crush_36 : decode cX3_crush 36 = .ok (.invokestatic 157, 3) := by decide +kernel
theorem dX3_crush_39 : decode cX3_crush 39 = .ok (.istore 4, 2) := by decide +kernel
theorem dX3_crush_41 : decode cX3_crush 41 = .ok (.aload_n 0, 1) := by decide +kernel
theorem dX3_crush_42 : decode cX3_crush 42 = .ok (.aload_n 0, 1) := by decide +kernel
theorem dX3_crush_43 : decode cX3_crush 43 = .ok (.getfield 39, 3) := by decide +kernel
theorem dX3_crush_46 : decode cX3_crush 46 = .ok (.getfield 174, 3) := by decide +kernel
theorem dX3_crush_49 : decode cX3_crush 49 = .ok (.iload_n 3, 1) := by decide +kernel
theorem dX3_crush_50 : decode cX3_crush 50 = .ok (.iaload, 1) := by decide +kernel
theorem dX3_crush_51 : decode cX3_crush 51 = .ok (.iload 4, 2) := by decide +kernel
theorem dX3_crush_53 : decode cX3_crush 53 = .ok (.invokevirtual 177, 3) := by decide +kernel
theorem dX3_crush_56 : decode cX3_crush 56 = .ok (.iload_n 1, 1) := by decide +kernel
theorem dX3_crush_57 : decode cX3_crush 57 = .ok (.iload 4, 2) := by decide +kernel
theorem dX3_crush_59 : decode cX3_crush 59 = .ok (.isub, 1) := by decide +kernel
theorem dX3_crush_60 : decode cX3_crush 60 = .ok (.istore_n 1, 1) := by decide +kernel
theorem dX3_crush_61 : decode cX3_crush 61 = .ok (.aload_n 0, 1) := by decide +kernel
theorem dX3_crush_62 : decode cX3_crush 62 = .ok (.getfield 39, 3) := by decide +kernel
theorem dX3_crush_65 : decode cX3_crush 65 = .ok (.iload_n 3, 1) := by decide +kernel
theorem dX3_crush_66 : decode cX3_crush 66 = .ok (.iload 4, 2) := by decide +kernel
theorem dX3_crush_68 : decode cX3_crush 68 = .ok (.invokevirtual 181, 3) := by decide +kernel
theorem dX3_crush_71 : decode cX3_crush 71 = .ok (.ifCond .ne 6, 3) := by decide +kernel
theorem dX3_crush_74 : decode cX3_crush 74 = .ok (.iinc 2 1, 3) := by decide +kernel
theorem dX3_crush_77 : decode cX3_crush 77 = .ok (.iinc 3 1, 3) := by decide +kernel
theorem dX3_crush_80 : decode cX3_crush 80 = .ok (.goto (-69), 3) := by decide +kernel
theorem dX3_crush_83 : decode cX3_crush 83 = .ok (.aload_n 0, 1) := by decide +kernel
theorem dX3_crush_84 : decode cX3_crush 84 = .ok (.getfield 39, 3) := by decide +kernel
theorem dX3_crush_87 : decode cX3_crush 87 = .ok (.iload_n 2, 1) := by decide +kernel
theorem dX3_crush_88 : decode cX3_crush 88 = .ok (.invokevirtual 184, 3) := by decide +kernel
theorem dX3_crush_91 : decode cX3_crush 91 = .ok (.return_, 1) := by decide +kernel
theorem dX3_crushPart_0 : decode cX3_crushPart 0 = .ok (.aload_n 0, 1) := by decide +kernel
theorem dX3_crushPart_1 : decode cX3_crushPart 1 = .ok (.getfield 25, 3) := by decide +kernel
theorem dX3_crushPart_4 : decode cX3_crushPart 4 = .ok (.getfield 119, 3) := by decide +kernel
theorem dX3_crushPart_7 : decode cX3_crushPart 7 = .ok (.iload_n 1, 1) := by decide +kernel
theorem dX3_crushPart_8 : decode cX3_crushPart 8 = .ok (.iaload, 1) := by decide +kernel
theorem dX3_crushPart_9 : decode cX3_crushPart 9 = .ok (.istore_n 3, 1) := by decide +kernel
theorem dX3_crushPart_10 : decode cX3_crushPart 10 = .ok (.aload_n 0, 1) := by decide +kernel
theorem dX3_crushPart_11 : decode cX3_crushPart 11 = .ok (.getfield 25, 3) := by decide +kernel
theorem dX3_crushPart_14 : decode cX3_crushPart 14 = .ok (.iload_n 1, 1) := by decide +kernel
theorem dX3_crushPart_15 : decode cX3_crushPart 15 = .ok (.aload_n 0, 1) := by decide +kernel
theorem dX3_crushPart_16 : decode cX3_crushPart 16 = .ok (.getfield 60, 3) := by decide +kernel
theorem dX3_crushPart_19 : decode cX3_crushPart 19 = .ok (.aload_n 0, 1) := by decide +kernel
theorem dX3_crushPart_20 : decode cX3_crushPart 20 = .ok (.getfield 9, 3) := by decide +kernel
theorem dX3_crushPart_23 : decode cX3_crushPart 23 = .ok (.iconst 4, 1) := by decide +kernel
theorem dX3_crushPart_24 : decode cX3_crushPart 24 = .ok (.iaload, 1) := by decide +kernel
theorem dX3_crushPart_25 : decode cX3_crushPart 25 = .ok (.invokevirtual 187, 3) := by decide +kernel
theorem dX3_crushPart_28 : decode cX3_crushPart 28 = .ok (.istore 4, 2) := by decide +kernel
theorem dX3_crushPart_30 : decode cX3_crushPart 30 = .ok (.aload_n 0, 1) := by decide +kernel
theorem dX3_crushPart_31 : decode cX3_crushPart 31 = .ok (.dup, 1) := by decide +kernel
theorem dX3_crushPart_32 : decode cX3_crushPart 32 = .ok (.getfield 64, 3) := by decide +kernel
theorem dX3_crushPart_35 : decode cX3_crushPart 35 = .ok (.iload_n 2, 1) := by decide +kernel
theorem dX3_crushPart_36 : decode cX3_crushPart 36 = .ok (.iload 4, 2) := by decide +kernel
theorem dX3_crushPart_38 : decode cX3_crushPart 38 = .ok (.imul, 1) := by decide +kernel
theorem dX3_crushPart_39 : decode cX3_crushPart 39 = .ok (.bipush 100, 2) := by decide +kernel
theorem dX3_crushPart_41 : decode cX3_crushPart 41 = .ok (.idiv, 1) := by decide +kernel
theorem dX3_crushPart_42 : decode cX3_crushPart 42 = .ok (.iadd, 1) := by decide +kernel
theorem dX3_crushPart_43 : decode cX3_crushPart 43 = .ok (.putfield 64, 3) := by decide +kernel
theorem dX3_crushPart_46 : decode cX3_crushPart 46 = .ok (.aload_n 0, 1) := by decide +kernel
theorem dX3_crushPart_47 : decode cX3_crushPart 47 = .ok (.getfield 18, 3) := by decide +kernel
theorem dX3_crushPart_50 : decode cX3_crushPart 50 = .ok (.getfield 191, 3) := by decide +kernel
theorem dX3_crushPart_53 : decode cX3_crushPart 53 = .ok (.iload_n 3, 1) := by decide +kernel
theorem dX3_crushPart_54 : decode cX3_crushPart 54 = .ok (.dup2, 1) := by decide +kernel
theorem dX3_crushPart_55 : decode cX3_crushPart 55 = .ok (.iaload, 1) := by decide +kernel
theorem dX3_crushPart_56 : decode cX3_crushPart 56 = .ok (.iload_n 2, 1) := by decide +kernel
theorem dX3_crushPart_57 : decode cX3_crushPart 57 = .ok (.iload 4, 2) := by decide +kernel
theorem dX3_crushPart_59 : decode cX3_crushPart 59 = .ok (.imul, 1) := by decide +kernel
theorem dX3_crushPart_60 : decode cX3_crushPart 60 = .ok (.aload_n 0, 1) := by decide +kernel
theorem dX3_crushPart_61 : decode cX3_crushPart 61 = .ok (.getfield 9, 3) := by decide +kernel
theorem dX3_crushPart_64 : decode cX3_crushPart 64 = .ok (.bipush 6, 2) := by decide +kernel
theorem dX3_crushPart_66 : decode cX3_crushPart 66 = .ok (.iaload, 1) := by decide +kernel
theorem dX3_crushPart_67 : decode cX3_crushPart 67 = .ok (.imul, 1) := by decide +kernel
theorem dX3_crushPart_68 : decode cX3_crushPart 68 = .ok (.bipush 100, 2) := by decide +kernel
theorem dX3_crushPart_70 : decode cX3_crushPart 70 = .ok (.idiv, 1) := by decide +kernel
theorem dX3_crushPart_71 : decode cX3_crushPart 71 = .ok (.iadd, 1) := by decide +kernel
theorem dX3_crushPart_72 : decode cX3_crushPart 72 = .ok (.iastore, 1) := by decide +kernel
theorem dX3_crushPart_73 : decode cX3_crushPart 73 = .ok (.aload_n 0, 1) := by decide +kernel
theorem dX3_crushPart_74 : decode cX3_crushPart 74 = .ok (.getfield 18, 3) := by decide +kernel
theorem dX3_crushPart_77 : decode cX3_crushPart 77 = .ok (.getfield 194, 3) := by decide +kernel
theorem dX3_crushPart_80 : decode cX3_crushPart 80 = .ok (.iload_n 3, 1) := by decide +kernel
theorem dX3_crushPart_81 : decode cX3_crushPart 81 = .ok (.dup2, 1) := by decide +kernel
theorem dX3_crushPart_82 : decode cX3_crushPart 82 = .ok (.iaload, 1) := by decide +kernel
theorem dX3_crushPart_83 : decode cX3_crushPart 83 = .ok (.iload_n 2, 1) := by decide +kernel
theorem dX3_crushPart_84 : decode cX3_crushPart 84 = .ok (.iadd, 1) := by decide +kernel
theorem dX3_crushPart_85 : decode cX3_crushPart 85 = .ok (.iastore, 1) := by decide +kernel
theorem dX3_crushPart_86 : decode cX3_crushPart 86 = .ok (.aload_n 0, 1) := by decide +kernel
theorem dX3_crushPart_87 : decode cX3_crushPart 87 = .ok (.getfield 25, 3) := by decide +kernel
theorem dX3_crushPart_90 : decode cX3_crushPart 90 = .ok (.getfield 165, 3) := by decide +kernel
theorem dX3_crushPart_93 : decode cX3_crushPart 93 = .ok (.iload_n 1, 1) := by decide +kernel
theorem dX3_crushPart_94 : decode cX3_crushPart 94 = .ok (.dup2, 1) := by decide +kernel
theorem dX3_crushPart_95 : decode cX3_crushPart 95 = .ok (.iaload, 1) := by decide +kernel
theorem dX3_crushPart_96 : decode cX3_crushPart 96 = .ok (.iload_n 2, 1) := by decide +kernel
theorem dX3_crushPart_97 : decode cX3_crushPart 97 = .ok (.isub, 1) := by decide +kernel
theorem dX3_crushPart_98 : decode cX3_crushPart 98 = .ok (.iastore, 1) := by decide +kernel
theorem dX3_crushPart_99 : decode cX3_crushPart 99 = .ok (.aload_n 0, 1) := by decide +kernel
theorem dX3_crushPart_100 : decode cX3_crushPart 100 = .ok (.getfield 25, 3) := by decide +kernel
theorem dX3_crushPart_103 : decode cX3_crushPart 103 = .ok (.getfield 197, 3) := by decide +kernel
theorem dX3_crushPart_106 : decode cX3_crushPart 106 = .ok (.iload_n 1, 1) := by decide +kernel
theorem dX3_crushPart_107 : decode cX3_crushPart 107 = .ok (.dup2, 1) := by decide +kernel
theorem dX3_crushPart_108 : decode cX3_crushPart 108 = .ok (.iaload, 1) := by decide +kernel
theorem dX3_crushPart_109 : decode cX3_crushPart 109 = .ok (.iload_n 2, 1) := by decide +kernel
theorem dX3_crushPart_110 : decode cX3_crushPart 110 = .ok (.iadd, 1) := by decide +kernel
theorem dX3_crushPart_111 : decode cX3_crushPart 111 = .ok (.iastore, 1) := by decide +kernel
theorem dX3_crushPart_112 : decode cX3_crushPart 112 = .ok (.return_, 1) := by decide +kernel
theorem dX3_numberOfField_0 : decode cX3_numberOfField 0 = .ok (.iload_n 1, 1) := by decide +kernel
theorem dX3_numberOfField_1 : decode cX3_numberOfField 1 = .ok (.iconst 0, 1) := by decide +kernel
theorem dX3_numberOfField_2 : decode cX3_numberOfField 2 = .ok (.aload_n 0, 1) := by decide +kernel
theorem dX3_numberOfField_3 : decode cX3_numberOfField 3 = .ok (.getfield 25, 3) := by decide +kernel
theorem dX3_numberOfField_6 : decode cX3_numberOfField 6 = .ok (.getfield 110, 3) := by decide +kernel
theorem dX3_numberOfField_9 : decode cX3_numberOfField 9 = .ok (.iconst 1, 1) := by decide +kernel
theorem dX3_numberOfField_10 : decode cX3_numberOfField 10 = .ok (.isub, 1) := by decide +kernel
theorem dX3_numberOfField_11 : decode cX3_numberOfField 11 = .ok (.invokestatic 73, 3) := by decide +kernel
theorem dX3_numberOfField_14 : decode cX3_numberOfField 14 = .ok (.ifCond .ne 5, 3) := by decide +kernel
theorem dX3_numberOfField_17 : decode cX3_numberOfField 17 = .ok (.iconst (-1), 1) := by decide +kernel
theorem dX3_numberOfField_18 : decode cX3_numberOfField 18 = .ok (.ireturn, 1) := by decide +kernel
theorem dX3_numberOfField_19 : decode cX3_numberOfField 19 = .ok (.iload_n 2, 1) := by decide +kernel
theorem dX3_numberOfField_20 : decode cX3_numberOfField 20 = .ok (.tableswitch 168 0 9 #[56, 66, 76, 86, 96, 109, 119, 129, 139, 149], 56) := by decide +kernel
theorem dX3_numberOfField_76 : decode cX3_numberOfField 76 = .ok (.aload_n 0, 1) := by decide +kernel
theorem dX3_numberOfField_77 : decode cX3_numberOfField 77 = .ok (.getfield 25, 3) := by decide +kernel
theorem dX3_numberOfField_80 : decode cX3_numberOfField 80 = .ok (.getfield 119, 3) := by decide +kernel
theorem dX3_numberOfField_83 : decode cX3_numberOfField 83 = .ok (.iload_n 1, 1) := by decide +kernel
theorem dX3_numberOfField_84 : decode cX3_numberOfField 84 = .ok (.iaload, 1) := by decide +kernel
theorem dX3_numberOfField_85 : decode cX3_numberOfField 85 = .ok (.ireturn, 1) := by decide +kernel
theorem dX3_numberOfField_86 : decode cX3_numberOfField 86 = .ok (.aload_n 0, 1) := by decide +kernel
theorem dX3_numberOfField_87 : decode cX3_numberOfField 87 = .ok (.getfield 25, 3) := by decide +kernel
theorem dX3_numberOfField_90 : decode cX3_numberOfField 90 = .ok (.getfield 198, 3) := by decide +kernel
theorem dX3_numberOfField_93 : decode cX3_numberOfField 93 = .ok (.iload_n 1, 1) := by decide +kernel
theorem dX3_numberOfField_94 : decode cX3_numberOfField 94 = .ok (.iaload, 1) := by decide +kernel
theorem dX3_numberOfField_95 : decode cX3_numberOfField 95 = .ok (.ireturn, 1) := by decide +kernel
theorem dX3_numberOfField_96 : decode cX3_numberOfField 96 = .ok (.aload_n 0, 1) := by decide +kernel
theorem dX3_numberOfField_97 : decode cX3_numberOfField 97 = .ok (.getfield 25, 3) := by decide +kernel
theorem dX3_numberOfField_100 : decode cX3_numberOfField 100 = .ok (.getfield 199, 3) := by decide +kernel
theorem dX3_numberOfField_103 : decode cX3_numberOfField 103 = .ok (.iload_n 1, 1) := by decide +kernel
theorem dX3_numberOfField_104 : decode cX3_numberOfField 104 = .ok (.iaload, 1) := by decide +kernel
theorem dX3_numberOfField_105 : decode cX3_numberOfField 105 = .ok (.ireturn, 1) := by decide +kernel
theorem dX3_numberOfField_106 : decode cX3_numberOfField 106 = .ok (.aload_n 0, 1) := by decide +kernel
theorem dX3_numberOfField_107 : decode cX3_numberOfField 107 = .ok (.getfield 25, 3) := by decide +kernel
theorem dX3_numberOfField_110 : decode cX3_numberOfField 110 = .ok (.getfield 113, 3) := by decide +kernel
theorem dX3_numberOfField_113 : decode cX3_numberOfField 113 = .ok (.iload_n 1, 1) := by decide +kernel
theorem dX3_numberOfField_114 : decode cX3_numberOfField 114 = .ok (.iaload, 1) := by decide +kernel
theorem dX3_numberOfField_115 : decode cX3_numberOfField 115 = .ok (.ireturn, 1) := by decide +kernel
theorem dX3_numberOfField_116 : decode cX3_numberOfField 116 = .ok (.aload_n 0, 1) := by decide +kernel
theorem dX3_numberOfField_117 : decode cX3_numberOfField 117 = .ok (.getfield 25, 3) := by decide +kernel
theorem dX3_numberOfField_120 : decode cX3_numberOfField 120 = .ok (.iload_n 1, 1) := by decide +kernel
theorem dX3_numberOfField_121 : decode cX3_numberOfField 121 = .ok (.aload_n 0, 1) := by decide +kernel
theorem dX3_numberOfField_122 : decode cX3_numberOfField 122 = .ok (.getfield 60, 3) := by decide +kernel
theorem dX3_numberOfField_125 : decode cX3_numberOfField 125 = .ok (.invokevirtual 137, 3) := by decide +kernel
theorem dX3_numberOfField_128 : decode cX3_numberOfField 128 = .ok (.ireturn, 1) := by decide +kernel
theorem dX3_numberOfField_129 : decode cX3_numberOfField 129 = .ok (.aload_n 0, 1) := by decide +kernel
theorem dX3_numberOfField_130 : decode cX3_numberOfField 130 = .ok (.getfield 25, 3) := by decide +kernel
theorem dX3_numberOfField_133 : decode cX3_numberOfField 133 = .ok (.getfield 154, 3) := by decide +kernel
theorem dX3_numberOfField_136 : decode cX3_numberOfField 136 = .ok (.iload_n 1, 1) := by decide +kernel
theorem dX3_numberOfField_137 : decode cX3_numberOfField 137 = .ok (.iaload, 1) := by decide +kernel
theorem dX3_numberOfField_138 : decode cX3_numberOfField 138 = .ok (.ireturn, 1) := by decide +kernel
theorem dX3_numberOfField_139 : decode cX3_numberOfField 139 = .ok (.aload_n 0, 1) := by decide +kernel
theorem dX3_numberOfField_140 : decode cX3_numberOfField 140 = .ok (.getfield 25, 3) := by decide +kernel
theorem dX3_numberOfField_143 : decode cX3_numberOfField 143 = .ok (.getfield 165, 3) := by decide +kernel
theorem dX3_numberOfField_146 : decode cX3_numberOfField 146 = .ok (.iload_n 1, 1) := by decide +kernel
theorem dX3_numberOfField_147 : decode cX3_numberOfField 147 = .ok (.iaload, 1) := by decide +kernel
theorem dX3_numberOfField_148 : decode cX3_numberOfField 148 = .ok (.ireturn, 1) := by decide +kernel
theorem dX3_numberOfField_149 : decode cX3_numberOfField 149 = .ok (.aload_n 0, 1) := by decide +kernel
theorem dX3_numberOfField_150 : decode cX3_numberOfField 150 = .ok (.getfield 25, 3) := by decide +kernel
theorem dX3_numberOfField_153 : decode cX3_numberOfField 153 = .ok (.getfield 197, 3) := by decide +kernel
theorem dX3_numberOfField_156 : decode cX3_numberOfField 156 = .ok (.iload_n 1, 1) := by decide +kernel
theorem dX3_numberOfField_157 : decode cX3_numberOfField 157 = .ok (.iaload, 1) := by decide +kernel
theorem dX3_numberOfField_158 : decode cX3_numberOfField 158 = .ok (.ireturn, 1) := by decide +kernel
theorem dX3_numberOfField_159 : decode cX3_numberOfField 159 = .ok (.aload_n 0, 1) := by decide +kernel
theorem dX3_numberOfField_160 : decode cX3_numberOfField 160 = .ok (.getfield 25, 3) := by decide +kernel
theorem dX3_numberOfField_163 : decode cX3_numberOfField 163 = .ok (.getfield 202, 3) := by decide +kernel
theorem dX3_numberOfField_166 : decode cX3_numberOfField 166 = .ok (.iload_n 1, 1) := by decide +kernel
theorem dX3_numberOfField_167 : decode cX3_numberOfField 167 = .ok (.iaload, 1) := by decide +kernel
theorem dX3_numberOfField_168 : decode cX3_numberOfField 168 = .ok (.ireturn, 1) := by decide +kernel
theorem dX3_numberOfField_169 : decode cX3_numberOfField 169 = .ok (.aload_n 0, 1) := by decide +kernel
theorem dX3_numberOfField_170 : decode cX3_numberOfField 170 = .ok (.getfield 25, 3) := by decide +kernel
theorem dX3_numberOfField_173 : decode cX3_numberOfField 173 = .ok (.iload_n 1, 1) := by decide +kernel
theorem dX3_numberOfField_174 : decode cX3_numberOfField 174 = .ok (.aload_n 0, 1) := by decide +kernel
theorem dX3_numberOfField_175 : decode cX3_numberOfField 175 = .ok (.getfield 60, 3) := by decide +kernel
theorem dX3_numberOfField_178 : decode cX3_numberOfField 178 = .ok (.aload_n 0, 1) := by decide +kernel
theorem dX3_numberOfField_179 : decode cX3_numberOfField 179 = .ok (.getfield 9, 3) := by decide +kernel
theorem dX3_numberOfField_182 : decode cX3_numberOfField 182 = .ok (.iconst 4, 1) := by decide +kernel
theorem dX3_numberOfField_183 : decode cX3_numberOfField 183 = .ok (.iaload, 1) := by decide +kernel
theorem dX3_numberOfField_184 : decode cX3_numberOfField 184 = .ok (.invokevirtual 187, 3) := by decide +kernel
theorem dX3_numberOfField_187 : decode cX3_numberOfField 187 = .ok (.ireturn, 1) := by decide +kernel
theorem dX3_numberOfField_188 : decode cX3_numberOfField 188 = .ok (.bipush (-2), 2) := by decide +kernel
theorem dX3_numberOfField_190 : decode cX3_numberOfField 190 = .ok (.ireturn, 1) := by decide +kernel
theorem dX3_numberOfGrower_0 : decode cX3_numberOfGrower 0 = .ok (.iload_n 1, 1) := by decide +kernel
theorem dX3_numberOfGrower_1 : decode cX3_numberOfGrower 1 = .ok (.invokestatic 83, 3) := by decide +kernel
theorem dX3_numberOfGrower_4 : decode cX3_numberOfGrower 4 = .ok (.ifCond .ne 5, 3) := by decide +kernel
theorem dX3_numberOfGrower_7 : decode cX3_numberOfGrower 7 = .ok (.iconst (-1), 1) := by decide +kernel
theorem dX3_numberOfGrower_8 : decode cX3_numberOfGrower 8 = .ok (.ireturn, 1) := by decide +kernel
theorem dX3_numberOfGrower_9 : decode cX3_numberOfGrower 9 = .ok (.iload_n 2, 1) := by decide +kernel
theorem dX3_numberOfGrower_10 : decode cX3_numberOfGrower 10 = .ok (.tableswitch 101 0 5 #[38, 48, 58, 68, 78, 88], 38) := by decide +kernel
theorem dX3_numberOfGrower_48 : decode cX3_numberOfGrower 48 = .ok (.aload_n 0, 1) := by decide +kernel
theorem dX3_numberOfGrower_49 : decode cX3_numberOfGrower 49 = .ok (.getfield 18, 3) := by decide +kernel
theorem dX3_numberOfGrower_52 : decode cX3_numberOfGrower 52 = .ok (.getfield 87, 3) := by decide +kernel
theorem dX3_numberOfGrower_55 : decode cX3_numberOfGrower 55 = .ok (.iload_n 1, 1) := by decide +kernel
theorem dX3_numberOfGrower_56 : decode cX3_numberOfGrower 56 = .ok (.iaload, 1) := by decide +kernel
theorem dX3_numberOfGrower_57 : decode cX3_numberOfGrower 57 = .ok (.ireturn, 1) := by decide +kernel
theorem dX3_numberOfGrower_58 : decode cX3_numberOfGrower 58 = .ok (.aload_n 0, 1) := by decide +kernel
theorem dX3_numberOfGrower_59 : decode cX3_numberOfGrower 59 = .ok (.getfield 18, 3) := by decide +kernel
theorem dX3_numberOfGrower_62 : decode cX3_numberOfGrower 62 = .ok (.getfield 162, 3) := by decide +kernel
theorem dX3_numberOfGrower_65 : decode cX3_numberOfGrower 65 = .ok (.iload_n 1, 1) := by decide +kernel
theorem dX3_numberOfGrower_66 : decode cX3_numberOfGrower 66 = .ok (.iaload, 1) := by decide +kernel
theorem dX3_numberOfGrower_67 : decode cX3_numberOfGrower 67 = .ok (.ireturn, 1) := by decide +kernel
theorem dX3_numberOfGrower_68 : decode cX3_numberOfGrower 68 = .ok (.aload_n 0, 1) := by decide +kernel
theorem dX3_numberOfGrower_69 : decode cX3_numberOfGrower 69 = .ok (.getfield 18, 3) := by decide +kernel
theorem dX3_numberOfGrower_72 : decode cX3_numberOfGrower 72 = .ok (.getfield 194, 3) := by decide +kernel
theorem dX3_numberOfGrower_75 : decode cX3_numberOfGrower 75 = .ok (.iload_n 1, 1) := by decide +kernel
theorem dX3_numberOfGrower_76 : decode cX3_numberOfGrower 76 = .ok (.iaload, 1) := by decide +kernel
theorem dX3_numberOfGrower_77 : decode cX3_numberOfGrower 77 = .ok (.ireturn, 1) := by decide +kernel
theorem dX3_numberOfGrower_78 : decode cX3_numberOfGrower 78 = .ok (.aload_n 0, 1) := by decide +kernel
theorem dX3_numberOfGrower_79 : decode cX3_numberOfGrower 79 = .ok (.getfield 18, 3) := by decide +kernel
theorem dX3_numberOfGrower_82 : decode cX3_numberOfGrower 82 = .ok (.getfield 116, 3) := by decide +kernel
theorem dX3_numberOfGrower_85 : decode cX3_numberOfGrower 85 = .ok (.iload_n 1, 1) := by decide +kernel
theorem dX3_numberOfGrower_86 : decode cX3_numberOfGrower 86 = .ok (.iaload, 1) := by decide +kernel
theorem dX3_numberOfGrower_87 : decode cX3_numberOfGrower 87 = .ok (.ireturn, 1) := by decide +kernel
theorem dX3_numberOfGrower_88 : decode cX3_numberOfGrower 88 = .ok (.aload_n 0, 1) := by decide +kernel
theorem dX3_numberOfGrower_89 : decode cX3_numberOfGrower 89 = .ok (.getfield 18, 3) := by decide +kernel
theorem dX3_numberOfGrower_92 : decode cX3_numberOfGrower 92 = .ok (.getfield 191, 3) := by decide +kernel
theorem dX3_numberOfGrower_95 : decode cX3_numberOfGrower 95 = .ok (.iload_n 1, 1) := by decide +kernel
theorem dX3_numberOfGrower_96 : decode cX3_numberOfGrower 96 = .ok (.iaload, 1) := by decide +kernel
theorem dX3_numberOfGrower_97 : decode cX3_numberOfGrower 97 = .ok (.ireturn, 1) := by decide +kernel
theorem dX3_numberOfGrower_98 : decode cX3_numberOfGrower 98 = .ok (.aload_n 0, 1) := by decide +kernel
theorem dX3_numberOfGrower_99 : decode cX3_numberOfGrower 99 = .ok (.getfield 25, 3) := by decide +kernel
theorem dX3_numberOfGrower_102 : decode cX3_numberOfGrower 102 = .ok (.iload_n 1, 1) := by decide +kernel
theorem dX3_numberOfGrower_103 : decode cX3_numberOfGrower 103 = .ok (.aload_n 0, 1) := by decide +kernel
theorem dX3_numberOfGrower_104 : decode cX3_numberOfGrower 104 = .ok (.getfield 60, 3) := by decide +kernel
theorem dX3_numberOfGrower_107 : decode cX3_numberOfGrower 107 = .ok (.invokevirtual 203, 3) := by decide +kernel
theorem dX3_numberOfGrower_110 : decode cX3_numberOfGrower 110 = .ok (.ireturn, 1) := by decide +kernel
theorem dX3_numberOfGrower_111 : decode cX3_numberOfGrower 111 = .ok (.bipush (-2), 2) := by decide +kernel
theorem dX3_numberOfGrower_113 : decode cX3_numberOfGrower 113 = .ok (.ireturn, 1) := by decide +kernel
theorem dX3_numberOfAll_0 : decode cX3_numberOfAll 0 = .ok (.iload_n 1, 1) := by decide +kernel
theorem dX3_numberOfAll_1 : decode cX3_numberOfAll 1 = .ok (.bipush 11, 2) := by decide +kernel
theorem dX3_numberOfAll_3 : decode cX3_numberOfAll 3 = .ok (.bipush 17, 2) := by decide +kernel
theorem dX3_numberOfAll_5 : decode cX3_numberOfAll 5 = .ok (.invokestatic 73, 3) := by decide +kernel
theorem dX3_numberOfAll_8 : decode cX3_numberOfAll 8 = .ok (.ifCond .eq 13, 3) := by decide +kernel
theorem dX3_numberOfAll_11 : decode cX3_numberOfAll 11 = .ok (.aload_n 0, 1) := by decide +kernel
theorem dX3_numberOfAll_12 : decode cX3_numberOfAll 12 = .ok (.getfield 9, 3) := by decide +kernel
theorem dX3_numberOfAll_15 : decode cX3_numberOfAll 15 = .ok (.iload_n 1, 1) := by decide +kernel
theorem dX3_numberOfAll_16 : decode cX3_numberOfAll 16 = .ok (.bipush 11, 2) := by decide +kernel
theorem dX3_numberOfAll_18 : decode cX3_numberOfAll 18 = .ok (.isub, 1) := by decide +kernel
theorem dX3_numberOfAll_19 : decode cX3_numberOfAll 19 = .ok (.iaload, 1) := by decide +kernel
theorem dX3_numberOfAll_20 : decode cX3_numberOfAll 20 = .ok (.ireturn, 1) := by decide +kernel
theorem dX3_numberOfAll_21 : decode cX3_numberOfAll 21 = .ok (.iload_n 1, 1) := by decide +kernel
theorem dX3_numberOfAll_22 : decode cX3_numberOfAll 22 = .ok (.tableswitch 134 0 10 #[58, 63, 71, 79, 87, 95, 103, 108, 116, 124, 129], 58) := by decide +kernel
theorem dX3_numberOfAll_80 : decode cX3_numberOfAll 80 = .ok (.aload_n 0, 1) := by decide +kernel
theorem dX3_numberOfAll_81 : decode cX3_numberOfAll 81 = .ok (.getfield 60, 3) := by decide +kernel
theorem dX3_numberOfAll_84 : decode cX3_numberOfAll 84 = .ok (.ireturn, 1) := by decide +kernel
theorem dX3_numberOfAll_85 : decode cX3_numberOfAll 85 = .ok (.aload_n 0, 1) := by decide +kernel
theorem dX3_numberOfAll_86 : decode cX3_numberOfAll 86 = .ok (.getfield 25, 3) := by decide +kernel
theorem dX3_numberOfAll_89 : decode cX3_numberOfAll 89 = .ok (.getfield 110, 3) := by decide +kernel
theorem dX3_numberOfAll_92 : decode cX3_numberOfAll 92 = .ok (.ireturn, 1) := by decide +kernel
theorem dX3_numberOfAll_93 : decode cX3_numberOfAll 93 = .ok (.aload_n 0, 1) := by decide +kernel
theorem dX3_numberOfAll_94 : decode cX3_numberOfAll 94 = .ok (.getfield 32, 3) := by decide +kernel
theorem dX3_numberOfAll_97 : decode cX3_numberOfAll 97 = .ok (.getfield 206, 3) := by decide +kernel
theorem dX3_numberOfAll_100 : decode cX3_numberOfAll 100 = .ok (.ireturn, 1) := by decide +kernel
theorem dX3_numberOfAll_101 : decode cX3_numberOfAll 101 = .ok (.aload_n 0, 1) := by decide +kernel
theorem dX3_numberOfAll_102 : decode cX3_numberOfAll 102 = .ok (.getfield 39, 3) := by decide +kernel
theorem dX3_numberOfAll_105 : decode cX3_numberOfAll 105 = .ok (.getfield 151, 3) := by decide +kernel
theorem dX3_numberOfAll_108 : decode cX3_numberOfAll 108 = .ok (.ireturn, 1) := by decide +kernel
theorem dX3_numberOfAll_109 : decode cX3_numberOfAll 109 = .ok (.aload_n 0, 1) := by decide +kernel
theorem dX3_numberOfAll_110 : decode cX3_numberOfAll 110 = .ok (.getfield 39, 3) := by decide +kernel
theorem dX3_numberOfAll_113 : decode cX3_numberOfAll 113 = .ok (.getfield 148, 3) := by decide +kernel
theorem dX3_numberOfAll_116 : decode cX3_numberOfAll 116 = .ok (.ireturn, 1) := by decide +kernel
theorem dX3_numberOfAll_117 : decode cX3_numberOfAll 117 = .ok (.aload_n 0, 1) := by decide +kernel
theorem dX3_numberOfAll_118 : decode cX3_numberOfAll 118 = .ok (.getfield 18, 3) := by decide +kernel
theorem dX3_numberOfAll_121 : decode cX3_numberOfAll 121 = .ok (.invokevirtual 207, 3) := by decide +kernel
theorem dX3_numberOfAll_124 : decode cX3_numberOfAll 124 = .ok (.ireturn, 1) := by decide +kernel
theorem dX3_numberOfAll_125 : decode cX3_numberOfAll 125 = .ok (.aload_n 0, 1) := by decide +kernel
theorem dX3_numberOfAll_126 : decode cX3_numberOfAll 126 = .ok (.getfield 64, 3) := by decide +kernel
theorem dX3_numberOfAll_129 : decode cX3_numberOfAll 129 = .ok (.ireturn, 1) := by decide +kernel
theorem dX3_numberOfAll_130 : decode cX3_numberOfAll 130 = .ok (.aload_n 0, 1) := by decide +kernel
theorem dX3_numberOfAll_131 : decode cX3_numberOfAll 131 = .ok (.getfield 18, 3) := by decide +kernel
theorem dX3_numberOfAll_134 : decode cX3_numberOfAll 134 = .ok (.invokevirtual 210, 3) := by decide +kernel
theorem dX3_numberOfAll_137 : decode cX3_numberOfAll 137 = .ok (.ireturn, 1) := by decide +kernel
theorem dX3_numberOfAll_138 : decode cX3_numberOfAll 138 = .ok (.aload_n 0, 1) := by decide +kernel
theorem dX3_numberOfAll_139 : decode cX3_numberOfAll 139 = .ok (.getfield 18, 3) := by decide +kernel
theorem dX3_numberOfAll_142 : decode cX3_numberOfAll 142 = .ok (.invokevirtual 213, 3) := by decide +kernel
theorem dX3_numberOfAll_145 : decode cX3_numberOfAll 145 = .ok (.ireturn, 1) := by decide +kernel
theorem dX3_numberOfAll_146 : decode cX3_numberOfAll 146 = .ok (.aload_n 0, 1) := by decide +kernel
theorem dX3_numberOfAll_147 : decode cX3_numberOfAll 147 = .ok (.getfield 67, 3) := by decide +kernel
theorem dX3_numberOfAll_150 : decode cX3_numberOfAll 150 = .ok (.ireturn, 1) := by decide +kernel
theorem dX3_numberOfAll_151 : decode cX3_numberOfAll 151 = .ok (.aload_n 0, 1) := by decide +kernel
theorem dX3_numberOfAll_152 : decode cX3_numberOfAll 152 = .ok (.getfield 70, 3) := by decide +kernel
theorem dX3_numberOfAll_155 : decode cX3_numberOfAll 155 = .ok (.ireturn, 1) := by decide +kernel
theorem dX3_numberOfAll_156 : decode cX3_numberOfAll 156 = .ok (.bipush (-2), 2) := by decide +kernel
theorem dX3_numberOfAll_158 : decode cX3_numberOfAll 158 = .ok (.ireturn, 1) := by decide +kernel
theorem dX4_init_0 : decode cX4_init 0 = .ok (.aload_n 0, 1) := by decide +kernel
theorem dX4_init_1 : decode cX4_init 1 = .ok (.invokespecial 3, 3) := by decide +kernel
theorem dX4_init_4 : decode cX4_init 4 = .ok (.aload_n 0, 1) := by decide +kernel
theorem dX4_init_5 : decode cX4_init 5 = .ok (.bipush 80, 2) := by decide +kernel
theorem dX4_init_7 : decode cX4_init 7 = .ok (.newarray .char, 2) := by decide +kernel
theorem dX4_init_9 : decode cX4_init 9 = .ok (.putfield 9, 3) := by decide +kernel
theorem dX4_init_12 : decode cX4_init 12 = .ok (.aload_n 0, 1) := by decide +kernel
theorem dX4_init_13 : decode cX4_init 13 = .ok (.iconst 4, 1) := by decide +kernel
theorem dX4_init_14 : decode cX4_init 14 = .ok (.newarray .int, 2) := by decide +kernel
theorem dX4_init_16 : decode cX4_init 16 = .ok (.putfield 15, 3) := by decide +kernel
theorem dX4_init_19 : decode cX4_init 19 = .ok (.return_, 1) := by decide +kernel
theorem dX4_append_0 : decode cX4_append 0 = .ok (.lload_n 1, 1) := by decide +kernel
theorem dX4_append_1 : decode cX4_append 1 = .ok (.invokestatic 19, 3) := by decide +kernel
theorem dX4_append_4 : decode cX4_append 4 = .ok (.istore_n 3, 1) := by decide +kernel
theorem dX4_append_5 : decode cX4_append 5 = .ok (.iload_n 3, 1) := by decide +kernel
theorem dX4_append_6 : decode cX4_append 6 = .ok (.ifCond .ne 6, 3) := by decide +kernel
theorem dX4_append_9 : decode cX4_append 9 = .ok (.bipush (-2), 2) := by decide +kernel
theorem dX4_append_11 : decode cX4_append 11 = .ok (.ireturn, 1) := by decide +kernel
theorem dX4_append_12 : decode cX4_append 12 = .ok (.aload_n 0, 1) := by decide +kernel
theorem dX4_append_13 : decode cX4_append 13 = .ok (.getfield 23, 3) := by decide +kernel
theorem dX4_append_16 : decode cX4_append 16 = .ok (.iload_n 3, 1) := by decide +kernel
theorem dX4_append_17 : decode cX4_append 17 = .ok (.iadd, 1) := by decide +kernel
theorem dX4_append_18 : decode cX4_append 18 = .ok (.bipush 80, 2) := by decide +kernel
theorem dX4_append_20 : decode cX4_append 20 = .ok (.if_icmp .le 6, 3) := by decide +kernel
theorem dX4_append_23 : decode cX4_append 23 = .ok (.bipush (-4), 2) := by decide +kernel
theorem dX4_append_25 : decode cX4_append 25 = .ok (.ireturn, 1) := by decide +kernel
theorem dX4_append_26 : decode cX4_append 26 = .ok (.iconst 0, 1) := by decide +kernel
theorem dX4_append_27 : decode cX4_append 27 = .ok (.istore 4, 2) := by decide +kernel
theorem dX4_append_29 : decode cX4_append 29 = .ok (.iload 4, 2) := by decide +kernel
theorem dX4_append_31 : decode cX4_append 31 = .ok (.iload_n 3, 1) := by decide +kernel
theorem dX4_append_32 : decode cX4_append 32 = .ok (.if_icmp .ge 38, 3) := by decide +kernel
theorem dX4_append_35 : decode cX4_append 35 = .ok (.aload_n 0, 1) := by decide +kernel
theorem dX4_append_36 : decode cX4_append 36 = .ok (.getfield 9, 3) := by decide +kernel
theorem dX4_append_39 : decode cX4_append 39 = .ok (.aload_n 0, 1) := by decide +kernel
theorem dX4_append_40 : decode cX4_append 40 = .ok (.getfield 23, 3) := by decide +kernel
theorem dX4_append_43 : decode cX4_append 43 = .ok (.iload_n 3, 1) := by decide +kernel
theorem dX4_append_44 : decode cX4_append 44 = .ok (.iadd, 1) := by decide +kernel
theorem dX4_append_45 : decode cX4_append 45 = .ok (.iconst 1, 1) := by decide +kernel
theorem dX4_append_46 : decode cX4_append 46 = .ok (.isub, 1) := by decide +kernel
theorem dX4_append_47 : decode cX4_append 47 = .ok (.iload 4, 2) := by decide +kernel
theorem dX4_append_49 : decode cX4_append 49 = .ok (.isub, 1) := by decide +kernel
theorem dX4_append_50 : decode cX4_append 50 = .ok (.lload_n 1, 1) := by decide +kernel
theorem dX4_append_51 : decode cX4_append 51 = .ok (.bipush 8, 2) := by decide +kernel
theorem dX4_append_53 : decode cX4_append 53 = .ok (.iload 4, 2) := by decide +kernel
theorem dX4_append_55 : decode cX4_append 55 = .ok (.imul, 1) := by decide +kernel
theorem dX4_append_56 : decode cX4_append 56 = .ok (.lushr, 1) := by decide +kernel
theorem dX4_append_57 : decode cX4_append 57 = .ok (.ldc2_w 27, 3) := by decide +kernel
theorem dX4_append_60 : decode cX4_append 60 = .ok (.land, 1) := by decide +kernel
theorem dX4_append_61 : decode cX4_append 61 = .ok (.l2i, 1) := by decide +kernel
theorem dX4_append_62 : decode cX4_append 62 = .ok (.i2c, 1) := by decide +kernel
theorem dX4_append_63 : decode cX4_append 63 = .ok (.castore, 1) := by decide +kernel
theorem dX4_append_64 : decode cX4_append 64 = .ok (.iinc 4 1, 3) := by decide +kernel
theorem dX4_append_67 : decode cX4_append 67 = .ok (.goto (-38), 3) := by decide +kernel
theorem dX4_append_70 : decode cX4_append 70 = .ok (.aload_n 0, 1) := by decide +kernel
theorem dX4_append_71 : decode cX4_append 71 = .ok (.dup, 1) := by decide +kernel
theorem dX4_append_72 : decode cX4_append 72 = .ok (.getfield 23, 3) := by decide +kernel
theorem dX4_append_75 : decode cX4_append 75 = .ok (.iload_n 3, 1) := by decide +kernel
theorem dX4_append_76 : decode cX4_append 76 = .ok (.iadd, 1) := by decide +kernel
theorem dX4_append_77 : decode cX4_append 77 = .ok (.putfield 23, 3) := by decide +kernel
theorem dX4_append_80 : decode cX4_append 80 = .ok (.aload_n 0, 1) := by decide +kernel
theorem dX4_append_81 : decode cX4_append 81 = .ok (.getfield 23, 3) := by decide +kernel
theorem dX4_append_84 : decode cX4_append 84 = .ok (.ireturn, 1) := by decide +kernel
theorem dX4_countSigns_0 : decode cX4_countSigns 0 = .ok (.lload_n 0, 1) := by decide +kernel
theorem dX4_countSigns_1 : decode cX4_countSigns 1 = .ok (.lstore_n 2, 1) := by decide +kernel
theorem dX4_countSigns_2 : decode cX4_countSigns 2 = .ok (.iconst 0, 1) := by decide +kernel
theorem dX4_countSigns_3 : decode cX4_countSigns 3 = .ok (.istore 4, 2) := by decide +kernel
theorem dX4_countSigns_5 : decode cX4_countSigns 5 = .ok (.iload 4, 2) := by decide +kernel
theorem dX4_countSigns_7 : decode cX4_countSigns 7 = .ok (.bipush 8, 2) := by decide +kernel
theorem dX4_countSigns_9 : decode cX4_countSigns 9 = .ok (.if_icmp .ge 42, 3) := by decide +kernel
theorem dX4_countSigns_12 : decode cX4_countSigns 12 = .ok (.lload_n 2, 1) := by decide +kernel
theorem dX4_countSigns_13 : decode cX4_countSigns 13 = .ok (.ldc2_w 27, 3) := by decide +kernel
theorem dX4_countSigns_16 : decode cX4_countSigns 16 = .ok (.land, 1) := by decide +kernel
theorem dX4_countSigns_17 : decode cX4_countSigns 17 = .ok (.lconst 0, 1) := by decide +kernel
theorem dX4_countSigns_18 : decode cX4_countSigns 18 = .ok (.lcmp, 1) := by decide +kernel
theorem dX4_countSigns_19 : decode cX4_countSigns 19 = .ok (.ifCond .eq 32, 3) := by decide +kernel
theorem dX4_countSigns_22 : decode cX4_countSigns 22 = .ok (.lload_n 2, 1) := by decide +kernel
theorem dX4_countSigns_23 : decode cX4_countSigns 23 = .ok (.ldc2_w 27, 3) := by decide +kernel
theorem dX4_countSigns_26 : decode cX4_countSigns 26 = .ok (.land, 1) := by decide +kernel
theorem dX4_countSigns_27 : decode cX4_countSigns 27 = .ok (.l2i, 1) := by decide +kernel
theorem dX4_countSigns_28 : decode cX4_countSigns 28 = .ok (.bipush 33, 2) := by decide +kernel
theorem dX4_countSigns_30 : decode cX4_countSigns 30 = .ok (.bipush 126, 2) := by decide +kernel
theorem dX4_countSigns_32 : decode cX4_countSigns 32 = .ok (.invokestatic 29, 3) := by decide +kernel
theorem dX4_countSigns_35 : decode cX4_countSigns 35 = .ok (.ifCond .ne 5, 3) := by decide +kernel
theorem dX4_countSigns_38 : decode cX4_countSigns 38 = .ok (.iconst 0, 1) := by decide +kernel
theorem dX4_countSigns_39 : decode cX4_countSigns 39 = .ok (.ireturn, 1) := by decide +kernel
theorem dX4_countSigns_40 : decode cX4_countSigns 40 = .ok (.lload_n 2, 1) := by decide +kernel
theorem dX4_countSigns_41 : decode cX4_countSigns 41 = .ok (.bipush 8, 2) := by decide +kernel
theorem dX4_countSigns_43 : decode cX4_countSigns 43 = .ok (.lushr, 1) := by decide +kernel
theorem dX4_countSigns_44 : decode cX4_countSigns 44 = .ok (.lstore_n 2, 1) := by decide +kernel
theorem dX4_countSigns_45 : decode cX4_countSigns 45 = .ok (.iinc 4 1, 3) := by decide +kernel
theorem dX4_countSigns_48 : decode cX4_countSigns 48 = .ok (.goto (-43), 3) := by decide +kernel
theorem dX4_countSigns_51 : decode cX4_countSigns 51 = .ok (.lload_n 2, 1) := by decide +kernel
theorem dX4_countSigns_52 : decode cX4_countSigns 52 = .ok (.lconst 0, 1) := by decide +kernel
theorem dX4_countSigns_53 : decode cX4_countSigns 53 = .ok (.lcmp, 1) := by decide +kernel
theorem dX4_countSigns_54 : decode cX4_countSigns 54 = .ok (.ifCond .ne 8, 3) := by decide +kernel
theorem dX4_countSigns_57 : decode cX4_countSigns 57 = .ok (.iload 4, 2) := by decide +kernel
theorem dX4_countSigns_59 : decode cX4_countSigns 59 = .ok (.goto 4, 3) := by decide +kernel
theorem dX4_countSigns_62 : decode cX4_countSigns 62 = .ok (.iconst 0, 1) := by decide +kernel
theorem dX4_countSigns_63 : decode cX4_countSigns 63 = .ok (.ireturn, 1) := by decide +kernel
theorem dX4_empty_0 : decode cX4_empty 0 = .ok (.aload_n 0, 1) := by decide +kernel
theorem dX4_empty_1 : decode cX4_empty 1 = .ok (.getfield 23, 3) := by decide +kernel
theorem dX4_empty_4 : decode cX4_empty 4 = .ok (.istore_n 1, 1) := by decide +kernel
theorem dX4_empty_5 : decode cX4_empty 5 = .ok (.aload_n 0, 1) := by decide +kernel
theorem dX4_empty_6 : decode cX4_empty 6 = .ok (.iconst 0, 1) := by decide +kernel
theorem dX4_empty_7 : decode cX4_empty 7 = .ok (.putfield 23, 3) := by decide +kernel
theorem dX4_empty_10 : decode cX4_empty 10 = .ok (.iload_n 1, 1) := by decide +kernel
theorem dX4_empty_11 : decode cX4_empty 11 = .ok (.ireturn, 1) := by decide +kernel
theorem dX4_findFault_0 : decode cX4_findFault 0 = .ok (.aload_n 0, 1) := by decide +kernel
theorem dX4_findFault_1 : decode cX4_findFault 1 = .ok (.invokevirtual 33, 3) := by decide +kernel
theorem dX4_findFault_4 : decode cX4_findFault 4 = .ok (.iconst 0, 1) := by decide +kernel
theorem dX4_findFault_5 : decode cX4_findFault 5 = .ok (.istore_n 1, 1) := by decide +kernel
theorem dX4_findFault_6 : decode cX4_findFault 6 = .ok (.iload_n 1, 1) := by decide +kernel
theorem dX4_findFault_7 : decode cX4_findFault 7 = .ok (.bipush 80, 2) := by decide +kernel
theorem dX4_findFault_9 : decode cX4_findFault 9 = .ok (.if_icmp .ge 49, 3) := by decide +kernel
theorem dX4_findFault_12 : decode cX4_findFault 12 = .ok (.aload_n 0, 1) := by decide +kernel
theorem dX4_findFault_13 : decode cX4_findFault 13 = .ok (.invokevirtual 36, 3) := by decide +kernel
theorem dX4_findFault_16 : decode cX4_findFault 16 = .ok (.ifCond .ne 8, 3) := by decide +kernel
theorem dX4_findFault_19 : decode cX4_findFault 19 = .ok (.aload_n 0, 1) := by decide +kernel
theorem dX4_findFault_20 : decode cX4_findFault 20 = .ok (.getfield 40, 3) := by decide +kernel
theorem dX4_findFault_23 : decode cX4_findFault 23 = .ok (.ireturn, 1) := by decide +kernel
theorem dX4_findFault_24 : decode cX4_findFault 24 = .ok (.aload_n 0, 1) := by decide +kernel
theorem dX4_findFault_25 : decode cX4_findFault 25 = .ok (.getfield 40, 3) := by decide +kernel
theorem dX4_findFault_28 : decode cX4_findFault 28 = .ok (.aload_n 0, 1) := by decide +kernel
theorem dX4_findFault_29 : decode cX4_findFault 29 = .ok (.getfield 23, 3) := by decide +kernel
theorem dX4_findFault_32 : decode cX4_findFault 32 = .ok (.if_icmp .ne 6, 3) := by decide +kernel
theorem dX4_findFault_35 : decode cX4_findFault 35 = .ok (.bipush (-6), 2) := by decide +kernel
theorem dX4_findFault_37 : decode cX4_findFault 37 = .ok (.ireturn, 1) := by decide +kernel
theorem dX4_findFault_38 : decode cX4_findFault 38 = .ok (.aload_n 0, 1) := by decide +kernel
theorem dX4_findFault_39 : decode cX4_findFault 39 = .ok (.bipush 59, 2) := by decide +kernel
theorem dX4_findFault_41 : decode cX4_findFault 41 = .ok (.invokevirtual 43, 3) := by decide +kernel
theorem dX4_findFault_44 : decode cX4_findFault 44 = .ok (.ifCond .ne 8, 3) := by decide +kernel
theorem dX4_findFault_47 : decode cX4_findFault 47 = .ok (.aload_n 0, 1) := by decide +kernel
theorem dX4_findFault_48 : decode cX4_findFault 48 = .ok (.getfield 40, 3) := by decide +kernel
theorem dX4_findFault_51 : decode cX4_findFault 51 = .ok (.ireturn, 1) := by decide +kernel
theorem dX4_findFault_52 : decode cX4_findFault 52 = .ok (.iinc 1 1, 3) := by decide +kernel
theorem dX4_findFault_55 : decode cX4_findFault 55 = .ok (.goto (-49), 3) := by decide +kernel
theorem dX4_findFault_58 : decode cX4_findFault 58 = .ok (.aload_n 0, 1) := by decide +kernel
theorem dX4_findFault_59 : decode cX4_findFault 59 = .ok (.getfield 40, 3) := by decide +kernel
theorem dX4_findFault_62 : decode cX4_findFault 62 = .ok (.ireturn, 1) := by decide +kernel
theorem dX4_startReading_0 : decode cX4_startReading 0 = .ok (.aload_n 0, 1) := by decide +kernel
theorem dX4_startReading_1 : decode cX4_startReading 1 = .ok (.iconst 0, 1) := by decide +kernel
theorem dX4_startReading_2 : decode cX4_startReading 2 = .ok (.putfield 40, 3) := by decide +kernel
theorem dX4_startReading_5 : decode cX4_startReading 5 = .ok (.return_, 1) := by decide +kernel
theorem dX4_readOrder_0 : decode cX4_readOrder 0 = .ok (.aload_n 0, 1) := by decide +kernel
theorem dX4_readOrder_1 : decode cX4_readOrder 1 = .ok (.getfield 40, 3) := by decide +kernel
theorem dX4_readOrder_4 : decode cX4_readOrder 4 = .ok (.aload_n 0, 1) := by decide +kernel
theorem dX4_readOrder_5 : decode cX4_readOrder 5 = .ok (.getfield 23, 3) := by decide +kernel
theorem dX4_readOrder_8 : decode cX4_readOrder 8 = .ok (.if_icmp .lt 5, 3) := by decide +kernel
theorem dX4_readOrder_11 : decode cX4_readOrder 11 = .ok (.iconst 0, 1) := by decide +kernel
theorem dX4_readOrder_12 : decode cX4_readOrder 12 = .ok (.ireturn, 1) := by decide +kernel
theorem dX4_readOrder_13 : decode cX4_readOrder 13 = .ok (.aload_n 0, 1) := by decide +kernel
theorem dX4_readOrder_14 : decode cX4_readOrder 14 = .ok (.aload_n 0, 1) := by decide +kernel
theorem dX4_readOrder_15 : decode cX4_readOrder 15 = .ok (.getfield 9, 3) := by decide +kernel
theorem dX4_readOrder_18 : decode cX4_readOrder 18 = .ok (.aload_n 0, 1) := by decide +kernel
theorem dX4_readOrder_19 : decode cX4_readOrder 19 = .ok (.getfield 40, 3) := by decide +kernel
theorem dX4_readOrder_22 : decode cX4_readOrder 22 = .ok (.caload, 1) := by decide +kernel
theorem dX4_readOrder_23 : decode cX4_readOrder 23 = .ok (.putfield 47, 3) := by decide +kernel
theorem dX4_readOrder_26 : decode cX4_readOrder 26 = .ok (.aload_n 0, 1) := by decide +kernel
theorem dX4_readOrder_27 : decode cX4_readOrder 27 = .ok (.iconst 0, 1) := by decide +kernel
theorem dX4_readOrder_28 : decode cX4_readOrder 28 = .ok (.putfield 51, 3) := by decide +kernel
theorem dX4_readOrder_31 : decode cX4_readOrder 31 = .ok (.aload_n 0, 1) := by decide +kernel
theorem dX4_readOrder_32 : decode cX4_readOrder 32 = .ok (.getfield 47, 3) := by decide +kernel
theorem dX4_readOrder_35 : decode cX4_readOrder 35 = .ok (.invokestatic 54, 3) := by decide +kernel
theorem dX4_readOrder_38 : decode cX4_readOrder 38 = .ok (.astore_n 1, 1) := by decide +kernel
theorem dX4_readOrder_39 : decode cX4_readOrder 39 = .ok (.aload_n 1, 1) := by decide +kernel
theorem dX4_readOrder_40 : decode cX4_readOrder 40 = .ok (.invokevirtual 58, 3) := by decide +kernel
theorem dX4_readOrder_43 : decode cX4_readOrder 43 = .ok (.ifCond .eq 5, 3) := by decide +kernel
theorem dX4_readOrder_46 : decode cX4_readOrder 46 = .ok (.iconst 0, 1) := by decide +kernel
theorem dX4_readOrder_47 : decode cX4_readOrder 47 = .ok (.ireturn, 1) := by decide +kernel
theorem dX4_readOrder_48 : decode cX4_readOrder 48 = .ok (.iconst 0, 1) := by decide +kernel
theorem dX4_readOrder_49 : decode cX4_readOrder 49 = .ok (.istore_n 2, 1) := by decide +kernel
theorem dX4_readOrder_50 : decode cX4_readOrder 50 = .ok (.iload_n 2, 1) := by decide +kernel
theorem dX4_readOrder_51 : decode cX4_readOrder 51 = .ok (.aload_n 1, 1) := by decide +kernel
theorem dX4_readOrder_52 : decode cX4_readOrder 52 = .ok (.invokevirtual 63, 3) := by decide +kernel
theorem dX4_readOrder_55 : decode cX4_readOrder 55 = .ok (.if_icmp .ge 23, 3) := by decide +kernel
theorem dX4_readOrder_58 : decode cX4_readOrder 58 = .ok (.aload_n 0, 1) := by decide +kernel
theorem dX4_readOrder_59 : decode cX4_readOrder 59 = .ok (.aload_n 1, 1) := by decide +kernel
theorem dX4_readOrder_60 : decode cX4_readOrder 60 = .ok (.iload_n 2, 1) := by decide +kernel
theorem dX4_readOrder_61 : decode cX4_readOrder 61 = .ok (.invokevirtual 66, 3) := by decide +kernel
theorem dX4_readOrder_64 : decode cX4_readOrder 64 = .ok (.invokevirtual 70, 3) := by decide +kernel
theorem dX4_readOrder_67 : decode cX4_readOrder 67 = .ok (.ifCond .ne 5, 3) := by decide +kernel
theorem dX4_readOrder_70 : decode cX4_readOrder 70 = .ok (.iconst 0, 1) := by decide +kernel
theorem dX4_readOrder_71 : decode cX4_readOrder 71 = .ok (.ireturn, 1) := by decide +kernel
theorem dX4_readOrder_72 : decode cX4_readOrder 72 = .ok (.iinc 2 1, 3) := by decide +kernel
theorem dX4_readOrder_75 : decode cX4_readOrder 75 = .ok (.goto (-25), 3) := by decide +kernel
theorem dX4_readOrder_78 : decode cX4_readOrder 78 = .ok (.iconst 1, 1) := by decide +kernel
theorem dX4_readOrder_79 : decode cX4_readOrder 79 = .ok (.ireturn, 1) := by decide +kernel
theorem dX4_formOf_0 : decode cX4_formOf 0 = .ok (.iload_n 0, 1) := by decide +kernel
theorem dX4_formOf_1 : decode cX4_formOf 1 = .ok (.lookupswitch 66 #[(100, 63), (102, 51), (108, 57), (113, 54), (115, 60)], 51) := by decide +kernel
theorem dX4_formOf_52 : decode cX4_formOf 52 = .ok (.ldc 73, 2) := by decide +kernel
theorem dX4_formOf_54 : decode cX4_formOf 54 = .ok (.areturn, 1) := by decide +kernel
theorem dX4_formOf_55 : decode cX4_formOf 55 = .ok (.ldc 75, 2) := by decide +kernel
theorem dX4_formOf_57 : decode cX4_formOf 57 = .ok (.areturn, 1) := by decide +kernel
theorem dX4_formOf_58 : decode cX4_formOf 58 = .ok (.ldc 77, 2) := by decide +kernel
theorem dX4_formOf_60 : decode cX4_formOf 60 = .ok (.areturn, 1) := by decide +kernel
theorem dX4_formOf_61 : decode cX4_formOf 61 = .ok (.ldc 79, 2) := by decide +kernel
theorem dX4_formOf_63 : decode cX4_formOf 63 = .ok (.areturn, 1) := by decide +kernel
theorem dX4_formOf_64 : decode cX4_formOf 64 = .ok (.ldc 81, 2) := by decide +kernel
theorem dX4_formOf_66 : decode cX4_formOf 66 = .ok (.areturn, 1) := by decide +kernel
theorem dX4_formOf_67 : decode cX4_formOf 67 = .ok (.ldc 83, 2) := by decide +kernel
theorem dX4_formOf_69 : decode cX4_formOf 69 = .ok (.areturn, 1) := by decide +kernel
theorem dX4_readPart_0 : decode cX4_readPart 0 = .ok (.iload_n 1, 1) := by decide +kernel
theorem dX4_readPart_1 : decode cX4_readPart 1 = .ok (.lookupswitch 37 #[(68, 27), (78, 32)], 27) := by decide +kernel
theorem dX4_readPart_28 : decode cX4_readPart 28 = .ok (.aload_n 0, 1) := by decide +kernel
theorem dX4_readPart_29 : decode cX4_readPart 29 = .ok (.invokevirtual 85, 3) := by decide +kernel
theorem dX4_readPart_32 : decode cX4_readPart 32 = .ok (.ireturn, 1) := by decide +kernel
theorem dX4_readPart_33 : decode cX4_readPart 33 = .ok (.aload_n 0, 1) := by decide +kernel
theorem dX4_readPart_34 : decode cX4_readPart 34 = .ok (.invokevirtual 88, 3) := by decide +kernel
theorem dX4_readPart_37 : decode cX4_readPart 37 = .ok (.ireturn, 1) := by decide +kernel
theorem dX4_readPart_38 : decode cX4_readPart 38 = .ok (.aload_n 0, 1) := by decide +kernel
theorem dX4_readPart_39 : decode cX4_readPart 39 = .ok (.iload_n 1, 1) := by decide +kernel
theorem dX4_readPart_40 : decode cX4_readPart 40 = .ok (.invokevirtual 43, 3) := by decide +kernel
theorem dX4_readPart_43 : decode cX4_readPart 43 = .ok (.ireturn, 1) := by decide +kernel
theorem dX4_readSign_0 : decode cX4_readSign 0 = .ok (.aload_n 0, 1) := by decide +kernel
theorem dX4_readSign_1 : decode cX4_readSign 1 = .ok (.getfield 40, 3) := by decide +kernel
theorem dX4_readSign_4 : decode cX4_readSign 4 = .ok (.aload_n 0, 1) := by decide +kernel
theorem dX4_readSign_5 : decode cX4_readSign 5 = .ok (.getfield 23, 3) := by decide +kernel
theorem dX4_readSign_8 : decode cX4_readSign 8 = .ok (.if_icmp .ge 16, 3) := by decide +kernel
theorem dX4_readSign_11 : decode cX4_readSign 11 = .ok (.aload_n 0, 1) := by decide +kernel
theorem dX4_readSign_12 : decode cX4_readSign 12 = .ok (.getfield 9, 3) := by decide +kernel
theorem dX4_readSign_15 : decode cX4_readSign 15 = .ok (.aload_n 0, 1) := by decide +kernel
theorem dX4_readSign_16 : decode cX4_readSign 16 = .ok (.getfield 40, 3) := by decide +kernel
theorem dX4_readSign_19 : decode cX4_readSign 19 = .ok (.caload, 1) := by decide +kernel
theorem dX4_readSign_20 : decode cX4_readSign 20 = .ok (.iload_n 1, 1) := by decide +kernel
theorem dX4_readSign_21 : decode cX4_readSign 21 = .ok (.if_icmp .eq 5, 3) := by decide +kernel
theorem dX4_readSign_24 : decode cX4_readSign 24 = .ok (.iconst 0, 1) := by decide +kernel
theorem dX4_readSign_25 : decode cX4_readSign 25 = .ok (.ireturn, 1) := by decide +kernel
theorem dX4_readSign_26 : decode cX4_readSign 26 = .ok (.aload_n 0, 1) := by decide +kernel
theorem dX4_readSign_27 : decode cX4_readSign 27 = .ok (.dup, 1) := by decide +kernel
theorem dX4_readSign_28 : decode cX4_readSign 28 = .ok (.getfield 40, 3) := by decide +kernel
theorem dX4_readSign_31 : decode cX4_readSign 31 = .ok (.iconst 1, 1) := by decide +kernel
theorem dX4_readSign_32 : decode cX4_readSign 32 = .ok (.iadd, 1) := by decide +kernel
theorem dX4_readSign_33 : decode cX4_readSign 33 = .ok (.putfield 40, 3) := by decide +kernel
theorem dX4_readSign_36 : decode cX4_readSign 36 = .ok (.iconst 1, 1) := by decide +kernel
theorem dX4_readSign_37 : decode cX4_readSign 37 = .ok (.ireturn, 1) := by decide +kernel
theorem dX4_readDigit_0 : decode cX4_readDigit 0 = .ok (.aload_n 0, 1) := by decide +kernel
theorem dX4_readDigit_1 : decode cX4_readDigit 1 = .ok (.invokevirtual 91, 3) := by decide +kernel
theorem dX4_readDigit_4 : decode cX4_readDigit 4 = .ok (.ifCond .eq 17, 3) := by decide +kernel
theorem dX4_readDigit_7 : decode cX4_readDigit 7 = .ok (.aload_n 0, 1) := by decide +kernel
theorem dX4_readDigit_8 : decode cX4_readDigit 8 = .ok (.getfield 9, 3) := by decide +kernel
theorem dX4_readDigit_11 : decode cX4_readDigit 11 = .ok (.aload_n 0, 1) := by decide +kernel
theorem dX4_readDigit_12 : decode cX4_readDigit 12 = .ok (.getfield 40, 3) := by decide +kernel
theorem dX4_readDigit_15 : decode cX4_readDigit 15 = .ok (.caload, 1) := by decide +kernel
theorem dX4_readDigit_16 : decode cX4_readDigit 16 = .ok (.bipush 53, 2) := by decide +kernel
theorem dX4_readDigit_18 : decode cX4_readDigit 18 = .ok (.if_icmp .le 5, 3) := by decide +kernel
theorem dX4_readDigit_21 : decode cX4_readDigit 21 = .ok (.iconst 0, 1) := by decide +kernel
theorem dX4_readDigit_22 : decode cX4_readDigit 22 = .ok (.ireturn, 1) := by decide +kernel
theorem dX4_readDigit_23 : decode cX4_readDigit 23 = .ok (.aload_n 0, 1) := by decide +kernel
theorem dX4_readDigit_24 : decode cX4_readDigit 24 = .ok (.aload_n 0, 1) := by decide +kernel
theorem dX4_readDigit_25 : decode cX4_readDigit 25 = .ok (.getfield 9, 3) := by decide +kernel
theorem dX4_readDigit_28 : decode cX4_readDigit 28 = .ok (.aload_n 0, 1) := by decide +kernel
theorem dX4_readDigit_29 : decode cX4_readDigit 29 = .ok (.getfield 40, 3) := by decide +kernel
theorem dX4_readDigit_32 : decode cX4_readDigit 32 = .ok (.caload, 1) := by decide +kernel
theorem dX4_readDigit_33 : decode cX4_readDigit 33 = .ok (.bipush 48, 2) := by decide +kernel
theorem dX4_readDigit_35 : decode cX4_readDigit 35 = .ok (.isub, 1) := by decide +kernel
theorem dX4_readDigit_36 : decode cX4_readDigit 36 = .ok (.invokevirtual 94, 3) := by decide +kernel
theorem dX4_readDigit_39 : decode cX4_readDigit 39 = .ok (.aload_n 0, 1) := by decide +kernel
theorem dX4_readDigit_40 : decode cX4_readDigit 40 = .ok (.dup, 1) := by decide +kernel
theorem dX4_readDigit_41 : decode cX4_readDigit 41 = .ok (.getfield 40, 3) := by decide +kernel
theorem dX4_readDigit_44 : decode cX4_readDigit 44 = .ok (.iconst 1, 1) := by decide +kernel
theorem dX4_readDigit_45 : decode cX4_readDigit 45 = .ok (.iadd, 1) := by decide +kernel
theorem dX4_readDigit_46 : decode cX4_readDigit 46 = .ok (.putfield 40, 3) := by decide +kernel
theorem dX4_readDigit_49 : decode cX4_readDigit 49 = .ok (.iconst 1, 1) := by decide +kernel
theorem dX4_readDigit_50 : decode cX4_readDigit 50 = .ok (.ireturn, 1) := by decide +kernel
theorem dX4_readNumber_0 : decode cX4_readNumber 0 = .ok (.aload_n 0, 1) := by decide +kernel
theorem dX4_readNumber_1 : decode cX4_readNumber 1 = .ok (.invokevirtual 91, 3) := by decide +kernel
theorem dX4_readNumber_4 : decode cX4_readNumber 4 = .ok (.ifCond .ne 5, 3) := by decide +kernel
theorem dX4_readNumber_7 : decode cX4_readNumber 7 = .ok (.iconst 0, 1) := by decide +kernel
theorem dX4_readNumber_8 : decode cX4_readNumber 8 = .ok (.ireturn, 1) := by decide +kernel
theorem dX4_readNumber_9 : decode cX4_readNumber 9 = .ok (.iconst 0, 1) := by decide +kernel
theorem dX4_readNumber_10 : decode cX4_readNumber 10 = .ok (.istore_n 1, 1) := by decide +kernel
theorem dX4_readNumber_11 : decode cX4_readNumber 11 = .ok (.iconst 0, 1) := by decide +kernel
theorem dX4_readNumber_12 : decode cX4_readNumber 12 = .ok (.istore_n 2, 1) := by decide +kernel
theorem dX4_readNumber_13 : decode cX4_readNumber 13 = .ok (.iload_n 2, 1) := by decide +kernel
theorem dX4_readNumber_14 : decode cX4_readNumber 14 = .ok (.iconst 4, 1) := by decide +kernel
theorem dX4_readNumber_15 : decode cX4_readNumber 15 = .ok (.if_icmp .ge 55, 3) := by decide +kernel
theorem dX4_readNumber_18 : decode cX4_readNumber 18 = .ok (.aload_n 0, 1) := by decide +kernel
theorem dX4_readNumber_19 : decode cX4_readNumber 19 = .ok (.invokevirtual 91, 3) := by decide +kernel
theorem dX4_readNumber_22 : decode cX4_readNumber 22 = .ok (.ifCond .eq 48, 3) := by decide +kernel
theorem dX4_readNumber_25 : decode cX4_readNumber 25 = .ok (.iload_n 2, 1) := by decide +kernel
theorem dX4_readNumber_26 : decode cX4_readNumber 26 = .ok (.ifCond .le 10, 3) := by decide +kernel
theorem dX4_readNumber_29 : decode cX4_readNumber 29 = .ok (.iload_n 1, 1) := by decide +kernel
theorem dX4_readNumber_30 : decode cX4_readNumber 30 = .ok (.ifCond .ne 6, 3) := by decide +kernel
theorem dX4_readNumber_33 : decode cX4_readNumber 33 = .ok (.goto 37, 3) := by decide +kernel
theorem dX4_readNumber_36 : decode cX4_readNumber 36 = .ok (.iload_n 1, 1) := by decide +kernel
theorem dX4_readNumber_37 : decode cX4_readNumber 37 = .ok (.bipush 10, 2) := by decide +kernel
theorem dX4_readNumber_39 : decode cX4_readNumber 39 = .ok (.imul, 1) := by decide +kernel
theorem dX4_readNumber_40 : decode cX4_readNumber 40 = .ok (.aload_n 0, 1) := by decide +kernel
theorem dX4_readNumber_41 : decode cX4_readNumber 41 = .ok (.getfield 9, 3) := by decide +kernel
theorem dX4_readNumber_44 : decode cX4_readNumber 44 = .ok (.aload_n 0, 1) := by decide +kernel
theorem dX4_readNumber_45 : decode cX4_readNumber 45 = .ok (.getfield 40, 3) := by decide +kernel
theorem dX4_readNumber_48 : decode cX4_readNumber 48 = .ok (.caload, 1) := by decide +kernel
theorem dX4_readNumber_49 : decode cX4_readNumber 49 = .ok (.iadd, 1) := by decide +kernel
theorem dX4_readNumber_50 : decode cX4_readNumber 50 = .ok (.bipush 48, 2) := by decide +kernel
theorem dX4_readNumber_52 : decode cX4_readNumber 52 = .ok (.isub, 1) := by decide +kernel
theorem dX4_readNumber_53 : decode cX4_readNumber 53 = .ok (.istore_n 1, 1) := by decide +kernel
theorem dX4_readNumber_54 : decode cX4_readNumber 54 = .ok (.aload_n 0, 1) := by decide +kernel
theorem dX4_readNumber_55 : decode cX4_readNumber 55 = .ok (.dup, 1) := by decide +kernel
theorem dX4_readNumber_56 : decode cX4_readNumber 56 = .ok (.getfield 40, 3) := by decide +kernel
theorem dX4_readNumber_59 : decode cX4_readNumber 59 = .ok (.iconst 1, 1) := by decide +kernel
theorem dX4_readNumber_60 : decode cX4_readNumber 60 = .ok (.iadd, 1) := by decide +kernel
theorem dX4_readNumber_61 : decode cX4_readNumber 61 = .ok (.putfield 40, 3) := by decide +kernel
theorem dX4_readNumber_64 : decode cX4_readNumber 64 = .ok (.iinc 2 1, 3) := by decide +kernel
theorem dX4_readNumber_67 : decode cX4_readNumber 67 = .ok (.goto (-54), 3) := by decide +kernel
theorem dX4_readNumber_70 : decode cX4_readNumber 70 = .ok (.aload_n 0, 1) := by decide +kernel
theorem dX4_readNumber_71 : decode cX4_readNumber 71 = .ok (.iload_n 1, 1) := by decide +kernel
theorem dX4_readNumber_72 : decode cX4_readNumber 72 = .ok (.invokevirtual 94, 3) := by decide +kernel
theorem dX4_readNumber_75 : decode cX4_readNumber 75 = .ok (.iconst 1, 1) := by decide +kernel
theorem dX4_readNumber_76 : decode cX4_readNumber 76 = .ok (.ireturn, 1) := by decide +kernel
theorem dX4_digitFollows_0 : decode cX4_digitFollows 0 = .ok (.aload_n 0, 1) := by decide +kernel
theorem dX4_digitFollows_1 : decode cX4_digitFollows 1 = .ok (.getfield 40, 3) := by decide +kernel
theorem dX4_digitFollows_4 : decode cX4_digitFollows 4 = .ok (.aload_n 0, 1) := by decide +kernel
theorem dX4_digitFollows_5 : decode cX4_digitFollows 5 = .ok (.getfield 23, 3) := by decide +kernel
theorem dX4_digitFollows_8 : decode cX4_digitFollows 8 = .ok (.if_icmp .ge 26, 3) := by decide +kernel
theorem dX4_digitFollows_11 : decode cX4_digitFollows 11 = .ok (.aload_n 0, 1) := by decide +kernel
theorem dX4_digitFollows_12 : decode cX4_digitFollows 12 = .ok (.getfield 9, 3) := by decide +kernel
theorem dX4_digitFollows_15 : decode cX4_digitFollows 15 = .ok (.aload_n 0, 1) := by decide +kernel
theorem dX4_digitFollows_16 : decode cX4_digitFollows 16 = .ok (.getfield 40, 3) := by decide +kernel
theorem dX4_digitFollows_19 : decode cX4_digitFollows 19 = .ok (.caload, 1) := by decide +kernel
theorem dX4_digitFollows_20 : decode cX4_digitFollows 20 = .ok (.bipush 48, 2) := by decide +kernel
theorem dX4_digitFollows_22 : decode cX4_digitFollows 22 = .ok (.bipush 57, 2) := by decide +kernel
theorem dX4_digitFollows_24 : decode cX4_digitFollows 24 = .ok (.invokestatic 29, 3) := by decide +kernel
theorem dX4_digitFollows_27 : decode cX4_digitFollows 27 = .ok (.ifCond .eq 7, 3) := by decide +kernel
theorem dX4_digitFollows_30 : decode cX4_digitFollows 30 = .ok (.iconst 1, 1) := by decide +kernel
theorem dX4_digitFollows_31 : decode cX4_digitFollows 31 = .ok (.goto 4, 3) := by decide +kernel
theorem dX4_digitFollows_34 : decode cX4_digitFollows 34 = .ok (.iconst 0, 1) := by decide +kernel
theorem dX4_digitFollows_35 : decode cX4_digitFollows 35 = .ok (.ireturn, 1) := by decide +kernel
theorem dX4_keepValue_0 : decode cX4_keepValue 0 = .ok (.aload_n 0, 1) := by decide +kernel
theorem dX4_keepValue_1 : decode cX4_keepValue 1 = .ok (.getfield 51, 3) := by decide +kernel
theorem dX4_keepValue_4 : decode cX4_keepValue 4 = .ok (.iconst 4, 1) := by decide +kernel
theorem dX4_keepValue_5 : decode cX4_keepValue 5 = .ok (.if_icmp .lt 4, 3) := by decide +kernel
theorem dX4_keepValue_8 : decode cX4_keepValue 8 = .ok (.return_, 1) := by decide +kernel
theorem dX4_keepValue_9 : decode cX4_keepValue 9 = .ok (.aload_n 0, 1) := by decide +kernel
theorem dX4_keepValue_10 : decode cX4_keepValue 10 = .ok (.getfield 15, 3) := by decide +kernel
theorem dX4_keepValue_13 : decode cX4_keepValue 13 = .ok (.aload_n 0, 1) := by decide +kernel
theorem dX4_keepValue_14 : decode cX4_keepValue 14 = .ok (.getfield 51, 3) := by decide +kernel
theorem dX4_keepValue_17 : decode cX4_keepValue 17 = .ok (.iload_n 1, 1) := by decide +kernel
theorem dX4_keepValue_18 : decode cX4_keepValue 18 = .ok (.iastore, 1) := by decide +kernel
theorem dX4_keepValue_19 : decode cX4_keepValue 19 = .ok (.aload_n 0, 1) := by decide +kernel
theorem dX4_keepValue_20 : decode cX4_keepValue 20 = .ok (.dup, 1) := by decide +kernel
theorem dX4_keepValue_21 : decode cX4_keepValue 21 = .ok (.getfield 51, 3) := by decide +kernel
theorem dX4_keepValue_24 : decode cX4_keepValue 24 = .ok (.iconst 1, 1) := by decide +kernel
theorem dX4_keepValue_25 : decode cX4_keepValue 25 = .ok (.iadd, 1) := by decide +kernel
theorem dX4_keepValue_26 : decode cX4_keepValue 26 = .ok (.putfield 51, 3) := by decide +kernel
theorem dX4_keepValue_29 : decode cX4_keepValue 29 = .ok (.return_, 1) := by decide +kernel
theorem dX5_init_0 : decode cX5_init 0 = .ok (.aload_n 0, 1) := by decide +kernel
theorem dX5_init_1 : decode cX5_init 1 = .ok (.invokespecial 3, 3) := by decide +kernel
theorem dX5_init_4 : decode cX5_init 4 = .ok (.aload_n 0, 1) := by decide +kernel
theorem dX5_init_5 : decode cX5_init 5 = .ok (.iconst 5, 1) := by decide +kernel
theorem dX5_init_6 : decode cX5_init 6 = .ok (.newarray .int, 2) := by decide +kernel
theorem dX5_init_8 : decode cX5_init 8 = .ok (.putfield 9, 3) := by decide +kernel
theorem dX5_init_11 : decode cX5_init 11 = .ok (.aload_n 0, 1) := by decide +kernel
theorem dX5_init_12 : decode cX5_init 12 = .ok (.iconst 5, 1) := by decide +kernel
theorem dX5_init_13 : decode cX5_init 13 = .ok (.newarray .int, 2) := by decide +kernel
theorem dX5_init_15 : decode cX5_init 15 = .ok (.putfield 15, 3) := by decide +kernel
theorem dX5_init_18 : decode cX5_init 18 = .ok (.return_, 1) := by decide +kernel
theorem dX5_copyFrom_0 : decode cX5_copyFrom 0 = .ok (.aload_n 0, 1) := by decide +kernel
theorem dX5_copyFrom_1 : decode cX5_copyFrom 1 = .ok (.aload_n 1, 1) := by decide +kernel
theorem dX5_copyFrom_2 : decode cX5_copyFrom 2 = .ok (.getfield 18, 3) := by decide +kernel
theorem dX5_copyFrom_5 : decode cX5_copyFrom 5 = .ok (.putfield 18, 3) := by decide +kernel
theorem dX5_copyFrom_8 : decode cX5_copyFrom 8 = .ok (.aload_n 1, 1) := by decide +kernel
theorem dX5_copyFrom_9 : decode cX5_copyFrom 9 = .ok (.getfield 9, 3) := by decide +kernel
theorem dX5_copyFrom_12 : decode cX5_copyFrom 12 = .ok (.aload_n 0, 1) := by decide +kernel
theorem dX5_copyFrom_13 : decode cX5_copyFrom 13 = .ok (.getfield 9, 3) := by decide +kernel
theorem dX5_copyFrom_16 : decode cX5_copyFrom 16 = .ok (.aload_n 0, 1) := by decide +kernel
theorem dX5_copyFrom_17 : decode cX5_copyFrom 17 = .ok (.getfield 18, 3) := by decide +kernel
theorem dX5_copyFrom_20 : decode cX5_copyFrom 20 = .ok (.invokestatic 22, 3) := by decide +kernel
theorem dX5_copyFrom_23 : decode cX5_copyFrom 23 = .ok (.aload_n 1, 1) := by decide +kernel
theorem dX5_copyFrom_24 : decode cX5_copyFrom 24 = .ok (.getfield 15, 3) := by decide +kernel
theorem dX5_copyFrom_27 : decode cX5_copyFrom 27 = .ok (.aload_n 0, 1) := by decide +kernel
theorem dX5_copyFrom_28 : decode cX5_copyFrom 28 = .ok (.getfield 15, 3) := by decide +kernel
theorem dX5_copyFrom_31 : decode cX5_copyFrom 31 = .ok (.aload_n 0, 1) := by decide +kernel
theorem dX5_copyFrom_32 : decode cX5_copyFrom 32 = .ok (.getfield 18, 3) := by decide +kernel
theorem dX5_copyFrom_35 : decode cX5_copyFrom 35 = .ok (.invokestatic 22, 3) := by decide +kernel
theorem dX5_copyFrom_38 : decode cX5_copyFrom 38 = .ok (.return_, 1) := by decide +kernel
theorem dX5_addStop_0 : decode cX5_addStop 0 = .ok (.iload_n 1, 1) := by decide +kernel
theorem dX5_addStop_1 : decode cX5_addStop 1 = .ok (.iconst 0, 1) := by decide +kernel
theorem dX5_addStop_2 : decode cX5_addStop 2 = .ok (.sipush 999, 3) := by decide +kernel
theorem dX5_addStop_5 : decode cX5_addStop 5 = .ok (.invokestatic 26, 3) := by decide +kernel
theorem dX5_addStop_8 : decode cX5_addStop 8 = .ok (.ifCond .eq 14, 3) := by decide +kernel
theorem dX5_addStop_11 : decode cX5_addStop 11 = .ok (.iload_n 2, 1) := by decide +kernel
theorem dX5_addStop_12 : decode cX5_addStop 12 = .ok (.iload_n 1, 1) := by decide +kernel
theorem dX5_addStop_13 : decode cX5_addStop 13 = .ok (.sipush 999, 3) := by decide +kernel
theorem dX5_addStop_16 : decode cX5_addStop 16 = .ok (.invokestatic 26, 3) := by decide +kernel
theorem dX5_addStop_19 : decode cX5_addStop 19 = .ok (.ifCond .ne 6, 3) := by decide +kernel
theorem dX5_addStop_22 : decode cX5_addStop 22 = .ok (.bipush (-2), 2) := by decide +kernel
theorem dX5_addStop_24 : decode cX5_addStop 24 = .ok (.ireturn, 1) := by decide +kernel
theorem dX5_addStop_25 : decode cX5_addStop 25 = .ok (.aload_n 0, 1) := by decide +kernel
theorem dX5_addStop_26 : decode cX5_addStop 26 = .ok (.getfield 18, 3) := by decide +kernel
theorem dX5_addStop_29 : decode cX5_addStop 29 = .ok (.iconst 5, 1) := by decide +kernel
theorem dX5_addStop_30 : decode cX5_addStop 30 = .ok (.if_icmp .lt 6, 3) := by decide +kernel
theorem dX5_addStop_33 : decode cX5_addStop 33 = .ok (.bipush (-4), 2) := by decide +kernel
theorem dX5_addStop_35 : decode cX5_addStop 35 = .ok (.ireturn, 1) := by decide +kernel
theorem dX5_addStop_36 : decode cX5_addStop 36 = .ok (.aload_n 0, 1) := by decide +kernel
theorem dX5_addStop_37 : decode cX5_addStop 37 = .ok (.getfield 9, 3) := by decide +kernel
theorem dX5_addStop_40 : decode cX5_addStop 40 = .ok (.aload_n 0, 1) := by decide +kernel
theorem dX5_addStop_41 : decode cX5_addStop 41 = .ok (.getfield 18, 3) := by decide +kernel
theorem dX5_addStop_44 : decode cX5_addStop 44 = .ok (.iload_n 1, 1) := by decide +kernel
theorem dX5_addStop_45 : decode cX5_addStop 45 = .ok (.iastore, 1) := by decide +kernel
theorem dX5_addStop_46 : decode cX5_addStop 46 = .ok (.aload_n 0, 1) := by decide +kernel
theorem dX5_addStop_47 : decode cX5_addStop 47 = .ok (.getfield 15, 3) := by decide +kernel
theorem dX5_addStop_50 : decode cX5_addStop 50 = .ok (.aload_n 0, 1) := by decide +kernel
theorem dX5_addStop_51 : decode cX5_addStop 51 = .ok (.getfield 18, 3) := by decide +kernel
theorem dX5_addStop_54 : decode cX5_addStop 54 = .ok (.iload_n 2, 1) := by decide +kernel
theorem dX5_addStop_55 : decode cX5_addStop 55 = .ok (.iastore, 1) := by decide +kernel
theorem dX5_addStop_56 : decode cX5_addStop 56 = .ok (.aload_n 0, 1) := by decide +kernel
theorem dX5_addStop_57 : decode cX5_addStop 57 = .ok (.dup, 1) := by decide +kernel
theorem dX5_addStop_58 : decode cX5_addStop 58 = .ok (.getfield 18, 3) := by decide +kernel
theorem dX5_addStop_61 : decode cX5_addStop 61 = .ok (.iconst 1, 1) := by decide +kernel
theorem dX5_addStop_62 : decode cX5_addStop 62 = .ok (.iadd, 1) := by decide +kernel
theorem dX5_addStop_63 : decode cX5_addStop 63 = .ok (.putfield 18, 3) := by decide +kernel
theorem dX5_addStop_66 : decode cX5_addStop 66 = .ok (.aload_n 0, 1) := by decide +kernel
theorem dX5_addStop_67 : decode cX5_addStop 67 = .ok (.getfield 18, 3) := by decide +kernel
theorem dX5_addStop_70 : decode cX5_addStop 70 = .ok (.iconst 1, 1) := by decide +kernel
theorem dX5_addStop_71 : decode cX5_addStop 71 = .ok (.isub, 1) := by decide +kernel
theorem dX5_addStop_72 : decode cX5_addStop 72 = .ok (.ireturn, 1) := by decide +kernel
theorem dX5_removeStop_0 : decode cX5_removeStop 0 = .ok (.iload_n 1, 1) := by decide +kernel
theorem dX5_removeStop_1 : decode cX5_removeStop 1 = .ok (.iconst 0, 1) := by decide +kernel
theorem dX5_removeStop_2 : decode cX5_removeStop 2 = .ok (.aload_n 0, 1) := by decide +kernel
theorem dX5_removeStop_3 : decode cX5_removeStop 3 = .ok (.getfield 18, 3) := by decide +kernel
theorem dX5_removeStop_6 : decode cX5_removeStop 6 = .ok (.iconst 1, 1) := by decide +kernel
theorem dX5_removeStop_7 : decode cX5_removeStop 7 = .ok (.isub, 1) := by decide +kernel
theorem dX5_removeStop_8 : decode cX5_removeStop 8 = .ok (.invokestatic 26, 3) := by decide +kernel
theorem dX5_removeStop_11 : decode cX5_removeStop 11 = .ok (.ifCond .ne 5, 3) := by decide +kernel
theorem dX5_removeStop_14 : decode cX5_removeStop 14 = .ok (.iconst (-1), 1) := by decide +kernel
theorem dX5_removeStop_15 : decode cX5_removeStop 15 = .ok (.ireturn, 1) := by decide +kernel
theorem dX5_removeStop_16 : decode cX5_removeStop 16 = .ok (.iload_n 1, 1) := by decide +kernel
theorem dX5_removeStop_17 : decode cX5_removeStop 17 = .ok (.iconst 1, 1) := by decide +kernel
theorem dX5_removeStop_18 : decode cX5_removeStop 18 = .ok (.iadd, 1) := by decide +kernel
theorem dX5_removeStop_19 : decode cX5_removeStop 19 = .ok (.istore_n 2, 1) := by decide +kernel
theorem dX5_removeStop_20 : decode cX5_removeStop 20 = .ok (.iload_n 2, 1) := by decide +kernel
theorem dX5_removeStop_21 : decode cX5_removeStop 21 = .ok (.aload_n 0, 1) := by decide +kernel
theorem dX5_removeStop_22 : decode cX5_removeStop 22 = .ok (.getfield 18, 3) := by decide +kernel
theorem dX5_removeStop_25 : decode cX5_removeStop 25 = .ok (.if_icmp .ge 37, 3) := by decide +kernel
theorem dX5_removeStop_28 : decode cX5_removeStop 28 = .ok (.aload_n 0, 1) := by decide +kernel
theorem dX5_removeStop_29 : decode cX5_removeStop 29 = .ok (.getfield 9, 3) := by decide +kernel
theorem dX5_removeStop_32 : decode cX5_removeStop 32 = .ok (.iload_n 2, 1) := by decide +kernel
theorem dX5_removeStop_33 : decode cX5_removeStop 33 = .ok (.iconst 1, 1) := by decide +kernel
theorem dX5_removeStop_34 : decode cX5_removeStop 34 = .ok (.isub, 1) := by decide +kernel
theorem dX5_removeStop_35 : decode cX5_removeStop 35 = .ok (.aload_n 0, 1) := by decide +kernel
theorem dX5_removeStop_36 : decode cX5_removeStop 36 = .ok (.getfield 9, 3) := by decide +kernel
theorem dX5_removeStop_39 : decode cX5_removeStop 39 = .ok (.iload_n 2, 1) := by decide +kernel
theorem dX5_removeStop_40 : decode cX5_removeStop 40 = .ok (.iaload, 1) := by decide +kernel
theorem dX5_removeStop_41 : decode cX5_removeStop 41 = .ok (.iastore, 1) := by decide +kernel
theorem dX5_removeStop_42 : decode cX5_removeStop 42 = .ok (.aload_n 0, 1) := by decide +kernel
theorem dX5_removeStop_43 : decode cX5_removeStop 43 = .ok (.getfield 15, 3) := by decide +kernel
theorem dX5_removeStop_46 : decode cX5_removeStop 46 = .ok (.iload_n 2, 1) := by decide +kernel
theorem dX5_removeStop_47 : decode cX5_removeStop 47 = .ok (.iconst 1, 1) := by decide +kernel
theorem dX5_removeStop_48 : decode cX5_removeStop 48 = .ok (.isub, 1) := by decide +kernel
theorem dX5_removeStop_49 : decode cX5_removeStop 49 = .ok (.aload_n 0, 1) := by decide +kernel
theorem dX5_removeStop_50 : decode cX5_removeStop 50 = .ok (.getfield 15, 3) := by decide +kernel
theorem dX5_removeStop_53 : decode cX5_removeStop 53 = .ok (.iload_n 2, 1) := by decide +kernel
theorem dX5_removeStop_54 : decode cX5_removeStop 54 = .ok (.iaload, 1) := by decide +kernel
theorem dX5_removeStop_55 : decode cX5_removeStop 55 = .ok (.iastore, 1) := by decide +kernel
theorem dX5_removeStop_56 : decode cX5_removeStop 56 = .ok (.iinc 2 1, 3) := by decide +kernel
theorem dX5_removeStop_59 : decode cX5_removeStop 59 = .ok (.goto (-39), 3) := by decide +kernel
theorem dX5_removeStop_62 : decode cX5_removeStop 62 = .ok (.aload_n 0, 1) := by decide +kernel
theorem dX5_removeStop_63 : decode cX5_removeStop 63 = .ok (.dup, 1) := by decide +kernel
theorem dX5_removeStop_64 : decode cX5_removeStop 64 = .ok (.getfield 18, 3) := by decide +kernel
theorem dX5_removeStop_67 : decode cX5_removeStop 67 = .ok (.iconst 1, 1) := by decide +kernel
theorem dX5_removeStop_68 : decode cX5_removeStop 68 = .ok (.isub, 1) := by decide +kernel
theorem dX5_removeStop_69 : decode cX5_removeStop 69 = .ok (.putfield 18, 3) := by decide +kernel
theorem dX5_removeStop_72 : decode cX5_removeStop 72 = .ok (.aload_n 0, 1) := by decide +kernel
theorem dX5_removeStop_73 : decode cX5_removeStop 73 = .ok (.getfield 18, 3) := by decide +kernel
theorem dX5_removeStop_76 : decode cX5_removeStop 76 = .ok (.ireturn, 1) := by decide +kernel
theorem dX5_isStopped_0 : decode cX5_isStopped 0 = .ok (.iconst 0, 1) := by decide +kernel
theorem dX5_isStopped_1 : decode cX5_isStopped 1 = .ok (.istore_n 2, 1) := by decide +kernel
theorem dX5_isStopped_2 : decode cX5_isStopped 2 = .ok (.iload_n 2, 1) := by decide +kernel
theorem dX5_isStopped_3 : decode cX5_isStopped 3 = .ok (.aload_n 0, 1) := by decide +kernel
theorem dX5_isStopped_4 : decode cX5_isStopped 4 = .ok (.getfield 18, 3) := by decide +kernel
theorem dX5_isStopped_7 : decode cX5_isStopped 7 = .ok (.if_icmp .ge 30, 3) := by decide +kernel
theorem dX5_isStopped_10 : decode cX5_isStopped 10 = .ok (.iload_n 1, 1) := by decide +kernel
theorem dX5_isStopped_11 : decode cX5_isStopped 11 = .ok (.aload_n 0, 1) := by decide +kernel
theorem dX5_isStopped_12 : decode cX5_isStopped 12 = .ok (.getfield 9, 3) := by decide +kernel
theorem dX5_isStopped_15 : decode cX5_isStopped 15 = .ok (.iload_n 2, 1) := by decide +kernel
theorem dX5_isStopped_16 : decode cX5_isStopped 16 = .ok (.iaload, 1) := by decide +kernel
theorem dX5_isStopped_17 : decode cX5_isStopped 17 = .ok (.aload_n 0, 1) := by decide +kernel
theorem dX5_isStopped_18 : decode cX5_isStopped 18 = .ok (.getfield 15, 3) := by decide +kernel
theorem dX5_isStopped_21 : decode cX5_isStopped 21 = .ok (.iload_n 2, 1) := by decide +kernel
theorem dX5_isStopped_22 : decode cX5_isStopped 22 = .ok (.iaload, 1) := by decide +kernel
theorem dX5_isStopped_23 : decode cX5_isStopped 23 = .ok (.invokestatic 26, 3) := by decide +kernel
theorem dX5_isStopped_26 : decode cX5_isStopped 26 = .ok (.ifCond .eq 5, 3) := by decide +kernel
theorem dX5_isStopped_29 : decode cX5_isStopped 29 = .ok (.iconst 1, 1) := by decide +kernel
theorem dX5_isStopped_30 : decode cX5_isStopped 30 = .ok (.ireturn, 1) := by decide +kernel
theorem dX5_isStopped_31 : decode cX5_isStopped 31 = .ok (.iinc 2 1, 3) := by decide +kernel
theorem dX5_isStopped_34 : decode cX5_isStopped 34 = .ok (.goto (-32), 3) := by decide +kernel
theorem dX5_isStopped_37 : decode cX5_isStopped 37 = .ok (.iconst 0, 1) := by decide +kernel
theorem dX5_isStopped_38 : decode cX5_isStopped 38 = .ok (.ireturn, 1) := by decide +kernel
theorem dX6_init_0 : decode cX6_init 0 = .ok (.aload_n 0, 1) := by decide +kernel
theorem dX6_init_1 : decode cX6_init 1 = .ok (.invokespecial 3, 3) := by decide +kernel
theorem dX6_init_4 : decode cX6_init 4 = .ok (.aload_n 0, 1) := by decide +kernel
theorem dX6_init_5 : decode cX6_init 5 = .ok (.sipush 400, 3) := by decide +kernel
theorem dX6_init_8 : decode cX6_init 8 = .ok (.newarray .int, 2) := by decide +kernel
theorem dX6_init_10 : decode cX6_init 10 = .ok (.putfield 9, 3) := by decide +kernel
theorem dX6_init_13 : decode cX6_init 13 = .ok (.aload_n 0, 1) := by decide +kernel
theorem dX6_init_14 : decode cX6_init 14 = .ok (.sipush 400, 3) := by decide +kernel
end
section
theorem dX6_init_17 : decode cX6_init 17 = .ok (.newarray .int, 2) := by decide +kernel
theorem dX6_init_19 : decode cX6_init 19 = .ok (.putfield 15, 3) := by decide +kernel
theorem dX6_init_22 : decode cX6_init 22 = .ok (.aload_n 0, 1) := by decide +kernel
theorem dX6_init_23 : decode cX6_init 23 = .ok (.sipush 400, 3) := by decide +kernel
theorem dX6_init_26 : decode cX6_init 26 = .ok (.newarray .int, 2) := by decide +kernel
theorem dX6_init_28 : decode cX6_init 28 = .ok (.putfield 18, 3) := by decide +kernel
theorem dX6_init_31 : decode cX6_init 31 = .ok (.return_, 1) := by decide +kernel
theorem dX6_copyFrom_0 : decode cX6_copyFrom 0 = .ok (.aload_n 0, 1) := by decide +kernel
theorem dX6_copyFrom_1 : decode cX6_copyFrom 1 = .ok (.aload_n 1, 1) := by decide +kernel
theorem dX6_copyFrom_2 : decode cX6_copyFrom 2 = .ok (.getfield 21, 3) := by decide +kernel
theorem dX6_copyFrom_5 : decode cX6_copyFrom 5 = .ok (.putfield 21, 3) := by decide +kernel
theorem dX6_copyFrom_8 : decode cX6_copyFrom 8 = .ok (.aload_n 0, 1) := by decide +kernel
theorem dX6_copyFrom_9 : decode cX6_copyFrom 9 = .ok (.aload_n 1, 1) := by decide +kernel
theorem dX6_copyFrom_10 : decode cX6_copyFrom 10 = .ok (.getfield 25, 3) := by decide +kernel
theorem dX6_copyFrom_13 : decode cX6_copyFrom 13 = .ok (.putfield 25, 3) := by decide +kernel
theorem dX6_copyFrom_16 : decode cX6_copyFrom 16 = .ok (.aload_n 1, 1) := by decide +kernel
theorem dX6_copyFrom_17 : decode cX6_copyFrom 17 = .ok (.getfield 9, 3) := by decide +kernel
theorem dX6_copyFrom_20 : decode cX6_copyFrom 20 = .ok (.aload_n 0, 1) := by decide +kernel
theorem dX6_copyFrom_21 : decode cX6_copyFrom 21 = .ok (.getfield 9, 3) := by decide +kernel
theorem dX6_copyFrom_24 : decode cX6_copyFrom 24 = .ok (.aload_n 0, 1) := by decide +kernel
theorem dX6_copyFrom_25 : decode cX6_copyFrom 25 = .ok (.getfield 21, 3) := by decide +kernel
theorem dX6_copyFrom_28 : decode cX6_copyFrom 28 = .ok (.invokestatic 28, 3) := by decide +kernel
theorem dX6_copyFrom_31 : decode cX6_copyFrom 31 = .ok (.aload_n 1, 1) := by decide +kernel
theorem dX6_copyFrom_32 : decode cX6_copyFrom 32 = .ok (.getfield 15, 3) := by decide +kernel
theorem dX6_copyFrom_35 : decode cX6_copyFrom 35 = .ok (.aload_n 0, 1) := by decide +kernel
theorem dX6_copyFrom_36 : decode cX6_copyFrom 36 = .ok (.getfield 15, 3) := by decide +kernel
theorem dX6_copyFrom_39 : decode cX6_copyFrom 39 = .ok (.aload_n 0, 1) := by decide +kernel
theorem dX6_copyFrom_40 : decode cX6_copyFrom 40 = .ok (.getfield 21, 3) := by decide +kernel
theorem dX6_copyFrom_43 : decode cX6_copyFrom 43 = .ok (.invokestatic 28, 3) := by decide +kernel
theorem dX6_copyFrom_46 : decode cX6_copyFrom 46 = .ok (.aload_n 1, 1) := by decide +kernel
theorem dX6_copyFrom_47 : decode cX6_copyFrom 47 = .ok (.getfield 18, 3) := by decide +kernel
theorem dX6_copyFrom_50 : decode cX6_copyFrom 50 = .ok (.aload_n 0, 1) := by decide +kernel
theorem dX6_copyFrom_51 : decode cX6_copyFrom 51 = .ok (.getfield 18, 3) := by decide +kernel
theorem dX6_copyFrom_54 : decode cX6_copyFrom 54 = .ok (.aload_n 0, 1) := by decide +kernel
theorem dX6_copyFrom_55 : decode cX6_copyFrom 55 = .ok (.getfield 21, 3) := by decide +kernel
theorem dX6_copyFrom_58 : decode cX6_copyFrom 58 = .ok (.invokestatic 28, 3) := by decide +kernel
theorem dX6_copyFrom_61 : decode cX6_copyFrom 61 = .ok (.return_, 1) := by decide +kernel
theorem dX6_append_0 : decode cX6_append 0 = .ok (.aload_n 0, 1) := by decide +kernel
theorem dX6_append_1 : decode cX6_append 1 = .ok (.getfield 21, 3) := by decide +kernel
theorem dX6_append_4 : decode cX6_append 4 = .ok (.sipush 400, 3) := by decide +kernel
theorem dX6_append_7 : decode cX6_append 7 = .ok (.if_icmp .lt 4, 3) := by decide +kernel
theorem dX6_append_10 : decode cX6_append 10 = .ok (.return_, 1) := by decide +kernel
theorem dX6_append_11 : decode cX6_append 11 = .ok (.aload_n 0, 1) := by decide +kernel
theorem dX6_append_12 : decode cX6_append 12 = .ok (.getfield 9, 3) := by decide +kernel
theorem dX6_append_15 : decode cX6_append 15 = .ok (.aload_n 0, 1) := by decide +kernel
theorem dX6_append_16 : decode cX6_append 16 = .ok (.getfield 21, 3) := by decide +kernel
theorem dX6_append_19 : decode cX6_append 19 = .ok (.iload_n 1, 1) := by decide +kernel
theorem dX6_append_20 : decode cX6_append 20 = .ok (.iastore, 1) := by decide +kernel
theorem dX6_append_21 : decode cX6_append 21 = .ok (.aload_n 0, 1) := by decide +kernel
theorem dX6_append_22 : decode cX6_append 22 = .ok (.getfield 15, 3) := by decide +kernel
theorem dX6_append_25 : decode cX6_append 25 = .ok (.aload_n 0, 1) := by decide +kernel
theorem dX6_append_26 : decode cX6_append 26 = .ok (.getfield 21, 3) := by decide +kernel
theorem dX6_append_29 : decode cX6_append 29 = .ok (.iload_n 2, 1) := by decide +kernel
theorem dX6_append_30 : decode cX6_append 30 = .ok (.iastore, 1) := by decide +kernel
theorem dX6_append_31 : decode cX6_append 31 = .ok (.aload_n 0, 1) := by decide +kernel
theorem dX6_append_32 : decode cX6_append 32 = .ok (.getfield 18, 3) := by decide +kernel
theorem dX6_append_35 : decode cX6_append 35 = .ok (.aload_n 0, 1) := by decide +kernel
theorem dX6_append_36 : decode cX6_append 36 = .ok (.getfield 21, 3) := by decide +kernel
theorem dX6_append_39 : decode cX6_append 39 = .ok (.iload_n 3, 1) := by decide +kernel
theorem dX6_append_40 : decode cX6_append 40 = .ok (.iastore, 1) := by decide +kernel
theorem dX6_append_41 : decode cX6_append 41 = .ok (.aload_n 0, 1) := by decide +kernel
theorem dX6_append_42 : decode cX6_append 42 = .ok (.dup, 1) := by decide +kernel
theorem dX6_append_43 : decode cX6_append 43 = .ok (.getfield 21, 3) := by decide +kernel
theorem dX6_append_46 : decode cX6_append 46 = .ok (.iconst 1, 1) := by decide +kernel
theorem dX6_append_47 : decode cX6_append 47 = .ok (.iadd, 1) := by decide +kernel
theorem dX6_append_48 : decode cX6_append 48 = .ok (.putfield 21, 3) := by decide +kernel
theorem dX6_append_51 : decode cX6_append 51 = .ok (.aload_n 0, 1) := by decide +kernel
theorem dX6_append_52 : decode cX6_append 52 = .ok (.dup, 1) := by decide +kernel
theorem dX6_append_53 : decode cX6_append 53 = .ok (.getfield 25, 3) := by decide +kernel
theorem dX6_append_56 : decode cX6_append 56 = .ok (.iload_n 2, 1) := by decide +kernel
theorem dX6_append_57 : decode cX6_append 57 = .ok (.iadd, 1) := by decide +kernel
theorem dX6_append_58 : decode cX6_append 58 = .ok (.putfield 25, 3) := by decide +kernel
theorem dX6_append_61 : decode cX6_append 61 = .ok (.return_, 1) := by decide +kernel
theorem dX6_takeFrom_0 : decode cX6_takeFrom 0 = .ok (.iload_n 1, 1) := by decide +kernel
theorem dX6_takeFrom_1 : decode cX6_takeFrom 1 = .ok (.iconst 0, 1) := by decide +kernel
theorem dX6_takeFrom_2 : decode cX6_takeFrom 2 = .ok (.aload_n 0, 1) := by decide +kernel
theorem dX6_takeFrom_3 : decode cX6_takeFrom 3 = .ok (.getfield 21, 3) := by decide +kernel
theorem dX6_takeFrom_6 : decode cX6_takeFrom 6 = .ok (.iconst 1, 1) := by decide +kernel
theorem dX6_takeFrom_7 : decode cX6_takeFrom 7 = .ok (.isub, 1) := by decide +kernel
theorem dX6_takeFrom_8 : decode cX6_takeFrom 8 = .ok (.invokestatic 32, 3) := by decide +kernel
theorem dX6_takeFrom_11 : decode cX6_takeFrom 11 = .ok (.ifCond .ne 5, 3) := by decide +kernel
theorem dX6_takeFrom_14 : decode cX6_takeFrom 14 = .ok (.iconst 0, 1) := by decide +kernel
theorem dX6_takeFrom_15 : decode cX6_takeFrom 15 = .ok (.ireturn, 1) := by decide +kernel
theorem dX6_takeFrom_16 : decode cX6_takeFrom 16 = .ok (.aload_n 0, 1) := by decide +kernel
theorem dX6_takeFrom_17 : decode cX6_takeFrom 17 = .ok (.getfield 15, 3) := by decide +kernel
theorem dX6_takeFrom_20 : decode cX6_takeFrom 20 = .ok (.iload_n 1, 1) := by decide +kernel
theorem dX6_takeFrom_21 : decode cX6_takeFrom 21 = .ok (.dup2, 1) := by decide +kernel
theorem dX6_takeFrom_22 : decode cX6_takeFrom 22 = .ok (.iaload, 1) := by decide +kernel
theorem dX6_takeFrom_23 : decode cX6_takeFrom 23 = .ok (.iload_n 2, 1) := by decide +kernel
theorem dX6_takeFrom_24 : decode cX6_takeFrom 24 = .ok (.isub, 1) := by decide +kernel
theorem dX6_takeFrom_25 : decode cX6_takeFrom 25 = .ok (.iastore, 1) := by decide +kernel
theorem dX6_takeFrom_26 : decode cX6_takeFrom 26 = .ok (.aload_n 0, 1) := by decide +kernel
theorem dX6_takeFrom_27 : decode cX6_takeFrom 27 = .ok (.dup, 1) := by decide +kernel
theorem dX6_takeFrom_28 : decode cX6_takeFrom 28 = .ok (.getfield 25, 3) := by decide +kernel
theorem dX6_takeFrom_31 : decode cX6_takeFrom 31 = .ok (.iload_n 2, 1) := by decide +kernel
theorem dX6_takeFrom_32 : decode cX6_takeFrom 32 = .ok (.isub, 1) := by decide +kernel
theorem dX6_takeFrom_33 : decode cX6_takeFrom 33 = .ok (.putfield 25, 3) := by decide +kernel
theorem dX6_takeFrom_36 : decode cX6_takeFrom 36 = .ok (.aload_n 0, 1) := by decide +kernel
theorem dX6_takeFrom_37 : decode cX6_takeFrom 37 = .ok (.getfield 15, 3) := by decide +kernel
theorem dX6_takeFrom_40 : decode cX6_takeFrom 40 = .ok (.iload_n 1, 1) := by decide +kernel
theorem dX6_takeFrom_41 : decode cX6_takeFrom 41 = .ok (.iaload, 1) := by decide +kernel
theorem dX6_takeFrom_42 : decode cX6_takeFrom 42 = .ok (.ireturn, 1) := by decide +kernel
theorem dX6_dropFirst_0 : decode cX6_dropFirst 0 = .ok (.iload_n 1, 1) := by decide +kernel
theorem dX6_dropFirst_1 : decode cX6_dropFirst 1 = .ok (.istore_n 2, 1) := by decide +kernel
theorem dX6_dropFirst_2 : decode cX6_dropFirst 2 = .ok (.iload_n 2, 1) := by decide +kernel
theorem dX6_dropFirst_3 : decode cX6_dropFirst 3 = .ok (.aload_n 0, 1) := by decide +kernel
theorem dX6_dropFirst_4 : decode cX6_dropFirst 4 = .ok (.getfield 21, 3) := by decide +kernel
theorem dX6_dropFirst_7 : decode cX6_dropFirst 7 = .ok (.if_icmp .ge 51, 3) := by decide +kernel
theorem dX6_dropFirst_10 : decode cX6_dropFirst 10 = .ok (.aload_n 0, 1) := by decide +kernel
theorem dX6_dropFirst_11 : decode cX6_dropFirst 11 = .ok (.getfield 9, 3) := by decide +kernel
theorem dX6_dropFirst_14 : decode cX6_dropFirst 14 = .ok (.iload_n 2, 1) := by decide +kernel
theorem dX6_dropFirst_15 : decode cX6_dropFirst 15 = .ok (.iload_n 1, 1) := by decide +kernel
theorem dX6_dropFirst_16 : decode cX6_dropFirst 16 = .ok (.isub, 1) := by decide +kernel
theorem dX6_dropFirst_17 : decode cX6_dropFirst 17 = .ok (.aload_n 0, 1) := by decide +kernel
theorem dX6_dropFirst_18 : decode cX6_dropFirst 18 = .ok (.getfield 9, 3) := by decide +kernel
theorem dX6_dropFirst_21 : decode cX6_dropFirst 21 = .ok (.iload_n 2, 1) := by decide +kernel
theorem dX6_dropFirst_22 : decode cX6_dropFirst 22 = .ok (.iaload, 1) := by decide +kernel
theorem dX6_dropFirst_23 : decode cX6_dropFirst 23 = .ok (.iastore, 1) := by decide +kernel
theorem dX6_dropFirst_24 : decode cX6_dropFirst 24 = .ok (.aload_n 0, 1) := by decide +kernel
theorem dX6_dropFirst_25 : decode cX6_dropFirst 25 = .ok (.getfield 15, 3) := by decide +kernel
theorem dX6_dropFirst_28 : decode cX6_dropFirst 28 = .ok (.iload_n 2, 1) := by decide +kernel
theorem dX6_dropFirst_29 : decode cX6_dropFirst 29 = .ok (.iload_n 1, 1) := by decide +kernel
theorem dX6_dropFirst_30 : decode cX6_dropFirst 30 = .ok (.isub, 1) := by decide +kernel
theorem dX6_dropFirst_31 : decode cX6_dropFirst 31 = .ok (.aload_n 0, 1) := by decide +kernel
theorem dX6_dropFirst_32 : decode cX6_dropFirst 32 = .ok (.getfield 15, 3) := by decide +kernel
theorem dX6_dropFirst_35 : decode cX6_dropFirst 35 = .ok (.iload_n 2, 1) := by decide +kernel
theorem dX6_dropFirst_36 : decode cX6_dropFirst 36 = .ok (.iaload, 1) := by decide +kernel
theorem dX6_dropFirst_37 : decode cX6_dropFirst 37 = .ok (.iastore, 1) := by decide +kernel
theorem dX6_dropFirst_38 : decode cX6_dropFirst 38 = .ok (.aload_n 0, 1) := by decide +kernel
theorem dX6_dropFirst_39 : decode cX6_dropFirst 39 = .ok (.getfield 18, 3) := by decide +kernel
theorem dX6_dropFirst_42 : decode cX6_dropFirst 42 = .ok (.iload_n 2, 1) := by decide +kernel
theorem dX6_dropFirst_43 : decode cX6_dropFirst 43 = .ok (.iload_n 1, 1) := by decide +kernel
theorem dX6_dropFirst_44 : decode cX6_dropFirst 44 = .ok (.isub, 1) := by decide +kernel
theorem dX6_dropFirst_45 : decode cX6_dropFirst 45 = .ok (.aload_n 0, 1) := by decide +kernel
theorem dX6_dropFirst_46 : decode cX6_dropFirst 46 = .ok (.getfield 18, 3) := by decide +kernel
theorem dX6_dropFirst_49 : decode cX6_dropFirst 49 = .ok (.iload_n 2, 1) := by decide +kernel
theorem dX6_dropFirst_50 : decode cX6_dropFirst 50 = .ok (.iaload, 1) := by decide +kernel
theorem dX6_dropFirst_51 : decode cX6_dropFirst 51 = .ok (.iastore, 1) := by decide +kernel
theorem dX6_dropFirst_52 : decode cX6_dropFirst 52 = .ok (.iinc 2 1, 3) := by decide +kernel
theorem dX6_dropFirst_55 : decode cX6_dropFirst 55 = .ok (.goto (-53), 3) := by decide +kernel
theorem dX6_dropFirst_58 : decode cX6_dropFirst 58 = .ok (.aload_n 0, 1) := by decide +kernel
theorem dX6_dropFirst_59 : decode cX6_dropFirst 59 = .ok (.dup, 1) := by decide +kernel
theorem dX6_dropFirst_60 : decode cX6_dropFirst 60 = .ok (.getfield 21, 3) := by decide +kernel
theorem dX6_dropFirst_63 : decode cX6_dropFirst 63 = .ok (.iload_n 1, 1) := by decide +kernel
theorem dX6_dropFirst_64 : decode cX6_dropFirst 64 = .ok (.isub, 1) := by decide +kernel
theorem dX6_dropFirst_65 : decode cX6_dropFirst 65 = .ok (.putfield 21, 3) := by decide +kernel
theorem dX6_dropFirst_68 : decode cX6_dropFirst 68 = .ok (.return_, 1) := by decide +kernel
theorem dX6_numberOfLoad_0 : decode cX6_numberOfLoad 0 = .ok (.iload_n 1, 1) := by decide +kernel
theorem dX6_numberOfLoad_1 : decode cX6_numberOfLoad 1 = .ok (.iconst 0, 1) := by decide +kernel
theorem dX6_numberOfLoad_2 : decode cX6_numberOfLoad 2 = .ok (.aload_n 0, 1) := by decide +kernel
theorem dX6_numberOfLoad_3 : decode cX6_numberOfLoad 3 = .ok (.getfield 21, 3) := by decide +kernel
theorem dX6_numberOfLoad_6 : decode cX6_numberOfLoad 6 = .ok (.iconst 1, 1) := by decide +kernel
theorem dX6_numberOfLoad_7 : decode cX6_numberOfLoad 7 = .ok (.isub, 1) := by decide +kernel
theorem dX6_numberOfLoad_8 : decode cX6_numberOfLoad 8 = .ok (.invokestatic 32, 3) := by decide +kernel
theorem dX6_numberOfLoad_11 : decode cX6_numberOfLoad 11 = .ok (.ifCond .ne 5, 3) := by decide +kernel
theorem dX6_numberOfLoad_14 : decode cX6_numberOfLoad 14 = .ok (.iconst (-1), 1) := by decide +kernel
theorem dX6_numberOfLoad_15 : decode cX6_numberOfLoad 15 = .ok (.ireturn, 1) := by decide +kernel
theorem dX6_numberOfLoad_16 : decode cX6_numberOfLoad 16 = .ok (.iload_n 2, 1) := by decide +kernel
theorem dX6_numberOfLoad_17 : decode cX6_numberOfLoad 17 = .ok (.tableswitch 48 0 2 #[27, 34, 41], 27) := by decide +kernel
theorem dX6_numberOfLoad_44 : decode cX6_numberOfLoad 44 = .ok (.aload_n 0, 1) := by decide +kernel
theorem dX6_numberOfLoad_45 : decode cX6_numberOfLoad 45 = .ok (.getfield 9, 3) := by decide +kernel
theorem dX6_numberOfLoad_48 : decode cX6_numberOfLoad 48 = .ok (.iload_n 1, 1) := by decide +kernel
theorem dX6_numberOfLoad_49 : decode cX6_numberOfLoad 49 = .ok (.iaload, 1) := by decide +kernel
theorem dX6_numberOfLoad_50 : decode cX6_numberOfLoad 50 = .ok (.ireturn, 1) := by decide +kernel
theorem dX6_numberOfLoad_51 : decode cX6_numberOfLoad 51 = .ok (.aload_n 0, 1) := by decide +kernel
theorem dX6_numberOfLoad_52 : decode cX6_numberOfLoad 52 = .ok (.getfield 15, 3) := by decide +kernel
theorem dX6_numberOfLoad_55 : decode cX6_numberOfLoad 55 = .ok (.iload_n 1, 1) := by decide +kernel
theorem dX6_numberOfLoad_56 : decode cX6_numberOfLoad 56 = .ok (.iaload, 1) := by decide +kernel
theorem dX6_numberOfLoad_57 : decode cX6_numberOfLoad 57 = .ok (.ireturn, 1) := by decide +kernel
theorem dX6_numberOfLoad_58 : decode cX6_numberOfLoad 58 = .ok (.aload_n 0, 1) := by decide +kernel
theorem dX6_numberOfLoad_59 : decode cX6_numberOfLoad 59 = .ok (.getfield 18, 3) := by decide +kernel
theorem dX6_numberOfLoad_62 : decode cX6_numberOfLoad 62 = .ok (.iload_n 1, 1) := by decide +kernel
theorem dX6_numberOfLoad_63 : decode cX6_numberOfLoad 63 = .ok (.iaload, 1) := by decide +kernel
theorem dX6_numberOfLoad_64 : decode cX6_numberOfLoad 64 = .ok (.ireturn, 1) := by decide +kernel
theorem dX6_numberOfLoad_65 : decode cX6_numberOfLoad 65 = .ok (.bipush (-2), 2) := by decide +kernel
theorem dX6_numberOfLoad_67 : decode cX6_numberOfLoad 67 = .ok (.ireturn, 1) := by decide +kernel
theorem dX7_init_0 : decode cX7_init 0 = .ok (.aload_n 0, 1) := by decide +kernel
theorem dX7_init_1 : decode cX7_init 1 = .ok (.invokespecial 1, 3) := by decide +kernel
theorem dX7_init_4 : decode cX7_init 4 = .ok (.aload_n 0, 1) := by decide +kernel
theorem dX7_init_5 : decode cX7_init 5 = .ok (.new 7, 3) := by decide +kernel
theorem dX7_init_8 : decode cX7_init 8 = .ok (.dup, 1) := by decide +kernel
theorem dX7_init_9 : decode cX7_init 9 = .ok (.invokespecial 9, 3) := by decide +kernel
theorem dX7_init_12 : decode cX7_init 12 = .ok (.putfield 10, 3) := by decide +kernel
theorem dX7_init_15 : decode cX7_init 15 = .ok (.aload_n 0, 1) := by decide +kernel
theorem dX7_init_16 : decode cX7_init 16 = .ok (.new 7, 3) := by decide +kernel
theorem dX7_init_19 : decode cX7_init 19 = .ok (.dup, 1) := by decide +kernel
theorem dX7_init_20 : decode cX7_init 20 = .ok (.invokespecial 9, 3) := by decide +kernel
theorem dX7_init_23 : decode cX7_init 23 = .ok (.putfield 16, 3) := by decide +kernel
theorem dX7_init_26 : decode cX7_init 26 = .ok (.aload_n 0, 1) := by decide +kernel
theorem dX7_init_27 : decode cX7_init 27 = .ok (.new 19, 3) := by decide +kernel
theorem dX7_init_30 : decode cX7_init 30 = .ok (.dup, 1) := by decide +kernel
theorem dX7_init_31 : decode cX7_init 31 = .ok (.invokespecial 21, 3) := by decide +kernel
theorem dX7_init_34 : decode cX7_init 34 = .ok (.putfield 22, 3) := by decide +kernel
theorem dX7_init_37 : decode cX7_init 37 = .ok (.aload_n 0, 1) := by decide +kernel
theorem dX7_init_38 : decode cX7_init 38 = .ok (.iconst 2, 1) := by decide +kernel
theorem dX7_init_39 : decode cX7_init 39 = .ok (.anewarray 7, 3) := by decide +kernel
theorem dX7_init_42 : decode cX7_init 42 = .ok (.putfield 26, 3) := by decide +kernel
theorem dX7_init_45 : decode cX7_init 45 = .ok (.aload_n 0, 1) := by decide +kernel
theorem dX7_init_46 : decode cX7_init 46 = .ok (.new 30, 3) := by decide +kernel
theorem dX7_init_49 : decode cX7_init 49 = .ok (.dup, 1) := by decide +kernel
theorem dX7_init_50 : decode cX7_init 50 = .ok (.invokespecial 32, 3) := by decide +kernel
theorem dX7_init_53 : decode cX7_init 53 = .ok (.putfield 33, 3) := by decide +kernel
theorem dX7_init_56 : decode cX7_init 56 = .ok (.return_, 1) := by decide +kernel
theorem dX7_set_0 : decode cX7_set 0 = .ok (.aload_n 0, 1) := by decide +kernel
theorem dX7_set_1 : decode cX7_set 1 = .ok (.getfield 22, 3) := by decide +kernel
theorem dX7_set_4 : decode cX7_set 4 = .ok (.aload_n 0, 1) := by decide +kernel
theorem dX7_set_5 : decode cX7_set 5 = .ok (.getfield 10, 3) := by decide +kernel
theorem dX7_set_8 : decode cX7_set 8 = .ok (.invokevirtual 37, 3) := by decide +kernel
theorem dX7_set_11 : decode cX7_set 11 = .ok (.aload_n 0, 1) := by decide +kernel
theorem dX7_set_12 : decode cX7_set 12 = .ok (.getfield 22, 3) := by decide +kernel
theorem dX7_set_15 : decode cX7_set 15 = .ok (.aload_n 0, 1) := by decide +kernel
theorem dX7_set_16 : decode cX7_set 16 = .ok (.getfield 10, 3) := by decide +kernel
theorem dX7_set_19 : decode cX7_set 19 = .ok (.iload_n 1, 1) := by decide +kernel
theorem dX7_set_20 : decode cX7_set 20 = .ok (.iload_n 2, 1) := by decide +kernel
theorem dX7_set_21 : decode cX7_set 21 = .ok (.invokevirtual 41, 3) := by decide +kernel
theorem dX7_set_24 : decode cX7_set 24 = .ok (.invokevirtual 45, 3) := by decide +kernel
theorem dX7_set_27 : decode cX7_set 27 = .ok (.ireturn, 1) := by decide +kernel
theorem dX7_quota_0 : decode cX7_quota 0 = .ok (.aload_n 0, 1) := by decide +kernel
theorem dX7_quota_1 : decode cX7_quota 1 = .ok (.getfield 22, 3) := by decide +kernel
theorem dX7_quota_4 : decode cX7_quota 4 = .ok (.aload_n 0, 1) := by decide +kernel
theorem dX7_quota_5 : decode cX7_quota 5 = .ok (.getfield 10, 3) := by decide +kernel
theorem dX7_quota_8 : decode cX7_quota 8 = .ok (.invokevirtual 37, 3) := by decide +kernel
theorem dX7_quota_11 : decode cX7_quota 11 = .ok (.aload_n 0, 1) := by decide +kernel
theorem dX7_quota_12 : decode cX7_quota 12 = .ok (.getfield 22, 3) := by decide +kernel
theorem dX7_quota_15 : decode cX7_quota 15 = .ok (.aload_n 0, 1) := by decide +kernel
theorem dX7_quota_16 : decode cX7_quota 16 = .ok (.getfield 10, 3) := by decide +kernel
theorem dX7_quota_19 : decode cX7_quota 19 = .ok (.iload_n 1, 1) := by decide +kernel
theorem dX7_quota_20 : decode cX7_quota 20 = .ok (.iload_n 2, 1) := by decide +kernel
theorem dX7_quota_21 : decode cX7_quota 21 = .ok (.invokevirtual 49, 3) := by decide +kernel
theorem dX7_quota_24 : decode cX7_quota 24 = .ok (.invokevirtual 45, 3) := by decide +kernel
theorem dX7_quota_27 : decode cX7_quota 27 = .ok (.ireturn, 1) := by decide +kernel
theorem dX7_lend_0 : decode cX7_lend 0 = .ok (.aload_n 0, 1) := by decide +kernel
theorem dX7_lend_1 : decode cX7_lend 1 = .ok (.getfield 22, 3) := by decide +kernel
theorem dX7_lend_4 : decode cX7_lend 4 = .ok (.aload_n 0, 1) := by decide +kernel
theorem dX7_lend_5 : decode cX7_lend 5 = .ok (.getfield 10, 3) := by decide +kernel
theorem dX7_lend_8 : decode cX7_lend 8 = .ok (.invokevirtual 37, 3) := by decide +kernel
theorem dX7_lend_11 : decode cX7_lend 11 = .ok (.aload_n 0, 1) := by decide +kernel
theorem dX7_lend_12 : decode cX7_lend 12 = .ok (.getfield 22, 3) := by decide +kernel
theorem dX7_lend_15 : decode cX7_lend 15 = .ok (.aload_n 0, 1) := by decide +kernel
theorem dX7_lend_16 : decode cX7_lend 16 = .ok (.getfield 10, 3) := by decide +kernel
theorem dX7_lend_19 : decode cX7_lend 19 = .ok (.iload_n 1, 1) := by decide +kernel
theorem dX7_lend_20 : decode cX7_lend 20 = .ok (.iload_n 2, 1) := by decide +kernel
theorem dX7_lend_21 : decode cX7_lend 21 = .ok (.iload_n 3, 1) := by decide +kernel
theorem dX7_lend_22 : decode cX7_lend 22 = .ok (.invokevirtual 52, 3) := by decide +kernel
theorem dX7_lend_25 : decode cX7_lend 25 = .ok (.invokevirtual 45, 3) := by decide +kernel
theorem dX7_lend_28 : decode cX7_lend 28 = .ok (.ireturn, 1) := by decide +kernel
theorem dX7_field_0 : decode cX7_field 0 = .ok (.aload_n 0, 1) := by decide +kernel
theorem dX7_field_1 : decode cX7_field 1 = .ok (.getfield 22, 3) := by decide +kernel
theorem dX7_field_4 : decode cX7_field 4 = .ok (.aload_n 0, 1) := by decide +kernel
theorem dX7_field_5 : decode cX7_field 5 = .ok (.getfield 10, 3) := by decide +kernel
theorem dX7_field_8 : decode cX7_field 8 = .ok (.invokevirtual 37, 3) := by decide +kernel
theorem dX7_field_11 : decode cX7_field 11 = .ok (.aload_n 0, 1) := by decide +kernel
theorem dX7_field_12 : decode cX7_field 12 = .ok (.getfield 22, 3) := by decide +kernel
theorem dX7_field_15 : decode cX7_field 15 = .ok (.aload_n 0, 1) := by decide +kernel
theorem dX7_field_16 : decode cX7_field 16 = .ok (.getfield 10, 3) := by decide +kernel
theorem dX7_field_19 : decode cX7_field 19 = .ok (.iload_n 1, 1) := by decide +kernel
theorem dX7_field_20 : decode cX7_field 20 = .ok (.iload_n 2, 1) := by decide +kernel
theorem dX7_field_21 : decode cX7_field 21 = .ok (.iload_n 3, 1) := by decide +kernel
theorem dX7_field_22 : decode cX7_field 22 = .ok (.iload 4, 2) := by decide +kernel
theorem dX7_field_24 : decode cX7_field 24 = .ok (.invokevirtual 56, 3) := by decide +kernel
theorem dX7_field_27 : decode cX7_field 27 = .ok (.invokevirtual 45, 3) := by decide +kernel
theorem dX7_field_30 : decode cX7_field 30 = .ok (.ireturn, 1) := by decide +kernel
theorem dX7_stop_0 : decode cX7_stop 0 = .ok (.aload_n 0, 1) := by decide +kernel
theorem dX7_stop_1 : decode cX7_stop 1 = .ok (.getfield 22, 3) := by decide +kernel
theorem dX7_stop_4 : decode cX7_stop 4 = .ok (.aload_n 0, 1) := by decide +kernel
theorem dX7_stop_5 : decode cX7_stop 5 = .ok (.getfield 10, 3) := by decide +kernel
theorem dX7_stop_8 : decode cX7_stop 8 = .ok (.invokevirtual 37, 3) := by decide +kernel
theorem dX7_stop_11 : decode cX7_stop 11 = .ok (.aload_n 0, 1) := by decide +kernel
theorem dX7_stop_12 : decode cX7_stop 12 = .ok (.getfield 22, 3) := by decide +kernel
theorem dX7_stop_15 : decode cX7_stop 15 = .ok (.aload_n 0, 1) := by decide +kernel
theorem dX7_stop_16 : decode cX7_stop 16 = .ok (.getfield 10, 3) := by decide +kernel
theorem dX7_stop_19 : decode cX7_stop 19 = .ok (.getfield 60, 3) := by decide +kernel
theorem dX7_stop_22 : decode cX7_stop 22 = .ok (.iload_n 1, 1) := by decide +kernel
theorem dX7_stop_23 : decode cX7_stop 23 = .ok (.iload_n 2, 1) := by decide +kernel
theorem dX7_stop_24 : decode cX7_stop 24 = .ok (.invokevirtual 64, 3) := by decide +kernel
theorem dX7_stop_27 : decode cX7_stop 27 = .ok (.invokevirtual 45, 3) := by decide +kernel
theorem dX7_stop_30 : decode cX7_stop 30 = .ok (.ireturn, 1) := by decide +kernel
theorem dX7_dropStop_0 : decode cX7_dropStop 0 = .ok (.aload_n 0, 1) := by decide +kernel
theorem dX7_dropStop_1 : decode cX7_dropStop 1 = .ok (.getfield 22, 3) := by decide +kernel
theorem dX7_dropStop_4 : decode cX7_dropStop 4 = .ok (.aload_n 0, 1) := by decide +kernel
theorem dX7_dropStop_5 : decode cX7_dropStop 5 = .ok (.getfield 10, 3) := by decide +kernel
theorem dX7_dropStop_8 : decode cX7_dropStop 8 = .ok (.invokevirtual 37, 3) := by decide +kernel
theorem dX7_dropStop_11 : decode cX7_dropStop 11 = .ok (.aload_n 0, 1) := by decide +kernel
theorem dX7_dropStop_12 : decode cX7_dropStop 12 = .ok (.getfield 22, 3) := by decide +kernel
theorem dX7_dropStop_15 : decode cX7_dropStop 15 = .ok (.aload_n 0, 1) := by decide +kernel
theorem dX7_dropStop_16 : decode cX7_dropStop 16 = .ok (.getfield 10, 3) := by decide +kernel
theorem dX7_dropStop_19 : decode cX7_dropStop 19 = .ok (.getfield 60, 3) := by decide +kernel
theorem dX7_dropStop_22 : decode cX7_dropStop 22 = .ok (.iload_n 1, 1) := by decide +kernel
theorem dX7_dropStop_23 : decode cX7_dropStop 23 = .ok (.invokevirtual 69, 3) := by decide +kernel
theorem dX7_dropStop_26 : decode cX7_dropStop 26 = .ok (.invokevirtual 45, 3) := by decide +kernel
theorem dX7_dropStop_29 : decode cX7_dropStop 29 = .ok (.ireturn, 1) := by decide +kernel
theorem dX7_pass_0 : decode cX7_pass 0 = .ok (.aload_n 0, 1) := by decide +kernel
theorem dX7_pass_1 : decode cX7_pass 1 = .ok (.getfield 22, 3) := by decide +kernel
theorem dX7_pass_4 : decode cX7_pass 4 = .ok (.aload_n 0, 1) := by decide +kernel
theorem dX7_pass_5 : decode cX7_pass 5 = .ok (.getfield 10, 3) := by decide +kernel
theorem dX7_pass_8 : decode cX7_pass 8 = .ok (.invokevirtual 37, 3) := by decide +kernel
theorem dX7_pass_11 : decode cX7_pass 11 = .ok (.aload_n 0, 1) := by decide +kernel
theorem dX7_pass_12 : decode cX7_pass 12 = .ok (.getfield 22, 3) := by decide +kernel
theorem dX7_pass_15 : decode cX7_pass 15 = .ok (.aload_n 0, 1) := by decide +kernel
theorem dX7_pass_16 : decode cX7_pass 16 = .ok (.getfield 10, 3) := by decide +kernel
theorem dX7_pass_19 : decode cX7_pass 19 = .ok (.iload_n 1, 1) := by decide +kernel
theorem dX7_pass_20 : decode cX7_pass 20 = .ok (.invokevirtual 72, 3) := by decide +kernel
theorem dX7_pass_23 : decode cX7_pass 23 = .ok (.invokevirtual 45, 3) := by decide +kernel
theorem dX7_pass_26 : decode cX7_pass 26 = .ok (.ireturn, 1) := by decide +kernel
theorem dX7_ofField_0 : decode cX7_ofField 0 = .ok (.aload_n 0, 1) := by decide +kernel
theorem dX7_ofField_1 : decode cX7_ofField 1 = .ok (.getfield 10, 3) := by decide +kernel
theorem dX7_ofField_4 : decode cX7_ofField 4 = .ok (.iload_n 1, 1) := by decide +kernel
theorem dX7_ofField_5 : decode cX7_ofField 5 = .ok (.iload_n 2, 1) := by decide +kernel
theorem dX7_ofField_6 : decode cX7_ofField 6 = .ok (.invokevirtual 75, 3) := by decide +kernel
theorem dX7_ofField_9 : decode cX7_ofField 9 = .ok (.ireturn, 1) := by decide +kernel
theorem dX7_ofGrower_0 : decode cX7_ofGrower 0 = .ok (.aload_n 0, 1) := by decide +kernel
theorem dX7_ofGrower_1 : decode cX7_ofGrower 1 = .ok (.getfield 10, 3) := by decide +kernel
theorem dX7_ofGrower_4 : decode cX7_ofGrower 4 = .ok (.iload_n 1, 1) := by decide +kernel
theorem dX7_ofGrower_5 : decode cX7_ofGrower 5 = .ok (.iload_n 2, 1) := by decide +kernel
theorem dX7_ofGrower_6 : decode cX7_ofGrower 6 = .ok (.invokevirtual 78, 3) := by decide +kernel
theorem dX7_ofGrower_9 : decode cX7_ofGrower 9 = .ok (.ireturn, 1) := by decide +kernel
theorem dX7_load_0 : decode cX7_load 0 = .ok (.aload_n 0, 1) := by decide +kernel
theorem dX7_load_1 : decode cX7_load 1 = .ok (.getfield 10, 3) := by decide +kernel
theorem dX7_load_4 : decode cX7_load 4 = .ok (.getfield 81, 3) := by decide +kernel
theorem dX7_load_7 : decode cX7_load 7 = .ok (.iload_n 1, 1) := by decide +kernel
theorem dX7_load_8 : decode cX7_load 8 = .ok (.iload_n 2, 1) := by decide +kernel
theorem dX7_load_9 : decode cX7_load 9 = .ok (.invokevirtual 85, 3) := by decide +kernel
theorem dX7_load_12 : decode cX7_load 12 = .ok (.ireturn, 1) := by decide +kernel
theorem dX7_count_0 : decode cX7_count 0 = .ok (.iload_n 1, 1) := by decide +kernel
theorem dX7_count_1 : decode cX7_count 1 = .ok (.lookupswitch 43 #[(18, 27), (19, 35)], 27) := by decide +kernel
theorem dX7_count_28 : decode cX7_count 28 = .ok (.aload_n 0, 1) := by decide +kernel
theorem dX7_count_29 : decode cX7_count 29 = .ok (.getfield 33, 3) := by decide +kernel
theorem dX7_count_32 : decode cX7_count 32 = .ok (.getfield 90, 3) := by decide +kernel
theorem dX7_count_35 : decode cX7_count 35 = .ok (.ireturn, 1) := by decide +kernel
theorem dX7_count_36 : decode cX7_count 36 = .ok (.aload_n 0, 1) := by decide +kernel
theorem dX7_count_37 : decode cX7_count 37 = .ok (.getfield 22, 3) := by decide +kernel
theorem dX7_count_40 : decode cX7_count 40 = .ok (.getfield 94, 3) := by decide +kernel
theorem dX7_count_43 : decode cX7_count 43 = .ok (.ireturn, 1) := by decide +kernel
theorem dX7_count_44 : decode cX7_count 44 = .ok (.aload_n 0, 1) := by decide +kernel
theorem dX7_count_45 : decode cX7_count 45 = .ok (.getfield 10, 3) := by decide +kernel
theorem dX7_count_48 : decode cX7_count 48 = .ok (.iload_n 1, 1) := by decide +kernel
theorem dX7_count_49 : decode cX7_count 49 = .ok (.invokevirtual 97, 3) := by decide +kernel
theorem dX7_count_52 : decode cX7_count 52 = .ok (.ireturn, 1) := by decide +kernel
theorem dX7_fields_0 : decode cX7_fields 0 = .ok (.iload_n 1, 1) := by decide +kernel
theorem dX7_fields_1 : decode cX7_fields 1 = .ok (.iconst 0, 1) := by decide +kernel
theorem dX7_fields_2 : decode cX7_fields 2 = .ok (.iconst 3, 1) := by decide +kernel
theorem dX7_fields_3 : decode cX7_fields 3 = .ok (.invokestatic 100, 3) := by decide +kernel
theorem dX7_fields_6 : decode cX7_fields 6 = .ok (.ifCond .ne 7, 3) := by decide +kernel
theorem dX7_fields_9 : decode cX7_fields 9 = .ok (.ldc2_w 104, 3) := by decide +kernel
theorem dX7_fields_12 : decode cX7_fields 12 = .ok (.lreturn, 1) := by decide +kernel
theorem dX7_fields_13 : decode cX7_fields 13 = .ok (.aload_n 0, 1) := by decide +kernel
theorem dX7_fields_14 : decode cX7_fields 14 = .ok (.getfield 10, 3) := by decide +kernel
theorem dX7_fields_17 : decode cX7_fields 17 = .ok (.getfield 106, 3) := by decide +kernel
theorem dX7_fields_20 : decode cX7_fields 20 = .ok (.iload_n 1, 1) := by decide +kernel
theorem dX7_fields_21 : decode cX7_fields 21 = .ok (.aload_n 0, 1) := by decide +kernel
theorem dX7_fields_22 : decode cX7_fields 22 = .ok (.getfield 10, 3) := by decide +kernel
theorem dX7_fields_25 : decode cX7_fields 25 = .ok (.getfield 110, 3) := by decide +kernel
theorem dX7_fields_28 : decode cX7_fields 28 = .ok (.invokevirtual 113, 3) := by decide +kernel
theorem dX7_fields_31 : decode cX7_fields 31 = .ok (.lreturn, 1) := by decide +kernel
theorem dX7_next_0 : decode cX7_next 0 = .ok (.aload_n 0, 1) := by decide +kernel
theorem dX7_next_1 : decode cX7_next 1 = .ok (.getfield 10, 3) := by decide +kernel
theorem dX7_next_4 : decode cX7_next 4 = .ok (.invokevirtual 119, 3) := by decide +kernel
theorem dX7_next_7 : decode cX7_next 7 = .ok (.ireturn, 1) := by decide +kernel
theorem dX7_then_0 : decode cX7_then 0 = .ok (.iload_n 1, 1) := by decide +kernel
theorem dX7_then_1 : decode cX7_then 1 = .ok (.iconst 1, 1) := by decide +kernel
theorem dX7_then_2 : decode cX7_then 2 = .ok (.sipush 300, 3) := by decide +kernel
theorem dX7_then_5 : decode cX7_then 5 = .ok (.invokestatic 100, 3) := by decide +kernel
theorem dX7_then_8 : decode cX7_then 8 = .ok (.ifCond .eq 12, 3) := by decide +kernel
theorem dX7_then_11 : decode cX7_then 11 = .ok (.iload_n 2, 1) := by decide +kernel
theorem dX7_then_12 : decode cX7_then 12 = .ok (.iconst 0, 1) := by decide +kernel
theorem dX7_then_13 : decode cX7_then 13 = .ok (.iconst 2, 1) := by decide +kernel
theorem dX7_then_14 : decode cX7_then 14 = .ok (.invokestatic 100, 3) := by decide +kernel
theorem dX7_then_17 : decode cX7_then 17 = .ok (.ifCond .ne 6, 3) := by decide +kernel
theorem dX7_then_20 : decode cX7_then 20 = .ok (.bipush (-2), 2) := by decide +kernel
theorem dX7_then_22 : decode cX7_then 22 = .ok (.ireturn, 1) := by decide +kernel
theorem dX7_then_23 : decode cX7_then 23 = .ok (.aload_n 0, 1) := by decide +kernel
theorem dX7_then_24 : decode cX7_then 24 = .ok (.iload_n 1, 1) := by decide +kernel
theorem dX7_then_25 : decode cX7_then 25 = .ok (.iconst 0, 1) := by decide +kernel
theorem dX7_then_26 : decode cX7_then 26 = .ok (.invokevirtual 123, 3) := by decide +kernel
theorem dX7_then_29 : decode cX7_then 29 = .ok (.iload_n 2, 1) := by decide +kernel
theorem dX7_then_30 : decode cX7_then 30 = .ok (.lookupswitch 64 #[(0, 26), (1, 48)], 26) := by decide +kernel
theorem dX7_then_56 : decode cX7_then 56 = .ok (.aload_n 0, 1) := by decide +kernel
theorem dX7_then_57 : decode cX7_then 57 = .ok (.getfield 16, 3) := by decide +kernel
theorem dX7_then_60 : decode cX7_then 60 = .ok (.getfield 127, 3) := by decide +kernel
theorem dX7_then_63 : decode cX7_then 63 = .ok (.invokevirtual 131, 3) := by decide +kernel
theorem dX7_then_66 : decode cX7_then 66 = .ok (.aload_n 0, 1) := by decide +kernel
theorem dX7_then_67 : decode cX7_then 67 = .ok (.getfield 10, 3) := by decide +kernel
theorem dX7_then_70 : decode cX7_then 70 = .ok (.getfield 127, 3) := by decide +kernel
theorem dX7_then_73 : decode cX7_then 73 = .ok (.invokevirtual 131, 3) := by decide +kernel
theorem dX7_then_76 : decode cX7_then 76 = .ok (.isub, 1) := by decide +kernel
theorem dX7_then_77 : decode cX7_then 77 = .ok (.ireturn, 1) := by decide +kernel
theorem dX7_then_78 : decode cX7_then 78 = .ok (.aload_n 0, 1) := by decide +kernel
theorem dX7_then_79 : decode cX7_then 79 = .ok (.getfield 16, 3) := by decide +kernel
theorem dX7_then_82 : decode cX7_then 82 = .ok (.getfield 136, 3) := by decide +kernel
theorem dX7_then_85 : decode cX7_then 85 = .ok (.aload_n 0, 1) := by decide +kernel
theorem dX7_then_86 : decode cX7_then 86 = .ok (.getfield 10, 3) := by decide +kernel
theorem dX7_then_89 : decode cX7_then 89 = .ok (.getfield 136, 3) := by decide +kernel
theorem dX7_then_92 : decode cX7_then 92 = .ok (.isub, 1) := by decide +kernel
theorem dX7_then_93 : decode cX7_then 93 = .ok (.ireturn, 1) := by decide +kernel
theorem dX7_then_94 : decode cX7_then 94 = .ok (.aload_n 0, 1) := by decide +kernel
theorem dX7_then_95 : decode cX7_then 95 = .ok (.getfield 16, 3) := by decide +kernel
theorem dX7_then_98 : decode cX7_then 98 = .ok (.getfield 127, 3) := by decide +kernel
theorem dX7_then_101 : decode cX7_then 101 = .ok (.invokevirtual 139, 3) := by decide +kernel
theorem dX7_then_104 : decode cX7_then 104 = .ok (.aload_n 0, 1) := by decide +kernel
theorem dX7_then_105 : decode cX7_then 105 = .ok (.getfield 10, 3) := by decide +kernel
theorem dX7_then_108 : decode cX7_then 108 = .ok (.getfield 127, 3) := by decide +kernel
theorem dX7_then_111 : decode cX7_then 111 = .ok (.invokevirtual 139, 3) := by decide +kernel
theorem dX7_then_114 : decode cX7_then 114 = .ok (.isub, 1) := by decide +kernel
theorem dX7_then_115 : decode cX7_then 115 = .ok (.ireturn, 1) := by decide +kernel
theorem dX7_leastTrucks_0 : decode cX7_leastTrucks 0 = .ok (.iload_n 1, 1) := by decide +kernel
theorem dX7_leastTrucks_1 : decode cX7_leastTrucks 1 = .ok (.iconst 1, 1) := by decide +kernel
theorem dX7_leastTrucks_2 : decode cX7_leastTrucks 2 = .ok (.sipush 300, 3) := by decide +kernel
theorem dX7_leastTrucks_5 : decode cX7_leastTrucks 5 = .ok (.invokestatic 100, 3) := by decide +kernel
theorem dX7_leastTrucks_8 : decode cX7_leastTrucks 8 = .ok (.ifCond .ne 6, 3) := by decide +kernel
theorem dX7_leastTrucks_11 : decode cX7_leastTrucks 11 = .ok (.bipush (-2), 2) := by decide +kernel
theorem dX7_leastTrucks_13 : decode cX7_leastTrucks 13 = .ok (.ireturn, 1) := by decide +kernel
theorem dX7_leastTrucks_14 : decode cX7_leastTrucks 14 = .ok (.iconst 0, 1) := by decide +kernel
theorem dX7_leastTrucks_15 : decode cX7_leastTrucks 15 = .ok (.istore_n 2, 1) := by decide +kernel
theorem dX7_leastTrucks_16 : decode cX7_leastTrucks 16 = .ok (.iload_n 2, 1) := by decide +kernel
theorem dX7_leastTrucks_17 : decode cX7_leastTrucks 17 = .ok (.bipush 20, 2) := by decide +kernel
theorem dX7_leastTrucks_19 : decode cX7_leastTrucks 19 = .ok (.if_icmp .gt 20, 3) := by decide +kernel
theorem dX7_leastTrucks_22 : decode cX7_leastTrucks 22 = .ok (.aload_n 0, 1) := by decide +kernel
theorem dX7_leastTrucks_23 : decode cX7_leastTrucks 23 = .ok (.iload_n 2, 1) := by decide +kernel
theorem dX7_leastTrucks_24 : decode cX7_leastTrucks 24 = .ok (.iload_n 1, 1) := by decide +kernel
theorem dX7_leastTrucks_25 : decode cX7_leastTrucks 25 = .ok (.invokevirtual 142, 3) := by decide +kernel
theorem dX7_leastTrucks_28 : decode cX7_leastTrucks 28 = .ok (.ifCond .eq 5, 3) := by decide +kernel
theorem dX7_leastTrucks_31 : decode cX7_leastTrucks 31 = .ok (.iload_n 2, 1) := by decide +kernel
theorem dX7_leastTrucks_32 : decode cX7_leastTrucks 32 = .ok (.ireturn, 1) := by decide +kernel
theorem dX7_leastTrucks_33 : decode cX7_leastTrucks 33 = .ok (.iinc 2 1, 3) := by decide +kernel
theorem dX7_leastTrucks_36 : decode cX7_leastTrucks 36 = .ok (.goto (-20), 3) := by decide +kernel
theorem dX7_leastTrucks_39 : decode cX7_leastTrucks 39 = .ok (.bipush (-6), 2) := by decide +kernel
theorem dX7_leastTrucks_41 : decode cX7_leastTrucks 41 = .ok (.ireturn, 1) := by decide +kernel
theorem dX7_stopCosts_0 : decode cX7_stopCosts 0 = .ok (.iload_n 1, 1) := by decide +kernel
theorem dX7_stopCosts_1 : decode cX7_stopCosts 1 = .ok (.iconst 1, 1) := by decide +kernel
theorem dX7_stopCosts_2 : decode cX7_stopCosts 2 = .ok (.sipush 300, 3) := by decide +kernel
theorem dX7_stopCosts_5 : decode cX7_stopCosts 5 = .ok (.invokestatic 100, 3) := by decide +kernel
theorem dX7_stopCosts_8 : decode cX7_stopCosts 8 = .ok (.ifCond .eq 12, 3) := by decide +kernel
theorem dX7_stopCosts_11 : decode cX7_stopCosts 11 = .ok (.iload_n 2, 1) := by decide +kernel
theorem dX7_stopCosts_12 : decode cX7_stopCosts 12 = .ok (.iconst 0, 1) := by decide +kernel
theorem dX7_stopCosts_13 : decode cX7_stopCosts 13 = .ok (.iload_n 1, 1) := by decide +kernel
theorem dX7_stopCosts_14 : decode cX7_stopCosts 14 = .ok (.invokestatic 100, 3) := by decide +kernel
theorem dX7_stopCosts_17 : decode cX7_stopCosts 17 = .ok (.ifCond .ne 6, 3) := by decide +kernel
theorem dX7_stopCosts_20 : decode cX7_stopCosts 20 = .ok (.bipush (-2), 2) := by decide +kernel
theorem dX7_stopCosts_22 : decode cX7_stopCosts 22 = .ok (.ireturn, 1) := by decide +kernel
theorem dX7_stopCosts_23 : decode cX7_stopCosts 23 = .ok (.aload_n 0, 1) := by decide +kernel
theorem dX7_stopCosts_24 : decode cX7_stopCosts 24 = .ok (.iload_n 1, 1) := by decide +kernel
theorem dX7_stopCosts_25 : decode cX7_stopCosts 25 = .ok (.iconst 0, 1) := by decide +kernel
theorem dX7_stopCosts_26 : decode cX7_stopCosts 26 = .ok (.invokevirtual 123, 3) := by decide +kernel
theorem dX7_stopCosts_29 : decode cX7_stopCosts 29 = .ok (.aload_n 0, 1) := by decide +kernel
theorem dX7_stopCosts_30 : decode cX7_stopCosts 30 = .ok (.getfield 16, 3) := by decide +kernel
theorem dX7_stopCosts_33 : decode cX7_stopCosts 33 = .ok (.getfield 136, 3) := by decide +kernel
theorem dX7_stopCosts_36 : decode cX7_stopCosts 36 = .ok (.istore_n 3, 1) := by decide +kernel
theorem dX7_stopCosts_37 : decode cX7_stopCosts 37 = .ok (.aload_n 0, 1) := by decide +kernel
theorem dX7_stopCosts_38 : decode cX7_stopCosts 38 = .ok (.iload_n 1, 1) := by decide +kernel
theorem dX7_stopCosts_39 : decode cX7_stopCosts 39 = .ok (.iload_n 2, 1) := by decide +kernel
theorem dX7_stopCosts_40 : decode cX7_stopCosts 40 = .ok (.invokevirtual 123, 3) := by decide +kernel
theorem dX7_stopCosts_43 : decode cX7_stopCosts 43 = .ok (.iload_n 3, 1) := by decide +kernel
theorem dX7_stopCosts_44 : decode cX7_stopCosts 44 = .ok (.aload_n 0, 1) := by decide +kernel
theorem dX7_stopCosts_45 : decode cX7_stopCosts 45 = .ok (.getfield 16, 3) := by decide +kernel
theorem dX7_stopCosts_48 : decode cX7_stopCosts 48 = .ok (.getfield 136, 3) := by decide +kernel
theorem dX7_stopCosts_51 : decode cX7_stopCosts 51 = .ok (.isub, 1) := by decide +kernel
theorem dX7_stopCosts_52 : decode cX7_stopCosts 52 = .ok (.ldc 146, 2) := by decide +kernel
theorem dX7_stopCosts_54 : decode cX7_stopCosts 54 = .ok (.iadd, 1) := by decide +kernel
theorem dX7_stopCosts_55 : decode cX7_stopCosts 55 = .ok (.ireturn, 1) := by decide +kernel
theorem dX7_tryDays_0 : decode cX7_tryDays 0 = .ok (.aload_n 0, 1) := by decide +kernel
theorem dX7_tryDays_1 : decode cX7_tryDays 1 = .ok (.getfield 16, 3) := by decide +kernel
theorem dX7_tryDays_4 : decode cX7_tryDays 4 = .ok (.aload_n 0, 1) := by decide +kernel
theorem dX7_tryDays_5 : decode cX7_tryDays 5 = .ok (.getfield 10, 3) := by decide +kernel
theorem dX7_tryDays_8 : decode cX7_tryDays 8 = .ok (.invokevirtual 147, 3) := by decide +kernel
theorem dX7_tryDays_11 : decode cX7_tryDays 11 = .ok (.iconst 0, 1) := by decide +kernel
theorem dX7_tryDays_12 : decode cX7_tryDays 12 = .ok (.istore_n 3, 1) := by decide +kernel
theorem dX7_tryDays_13 : decode cX7_tryDays 13 = .ok (.iload_n 3, 1) := by decide +kernel
theorem dX7_tryDays_14 : decode cX7_tryDays 14 = .ok (.iload_n 1, 1) := by decide +kernel
theorem dX7_tryDays_15 : decode cX7_tryDays 15 = .ok (.if_icmp .ge 26, 3) := by decide +kernel
theorem dX7_tryDays_18 : decode cX7_tryDays 18 = .ok (.aload_n 0, 1) := by decide +kernel
theorem dX7_tryDays_19 : decode cX7_tryDays 19 = .ok (.getfield 16, 3) := by decide +kernel
theorem dX7_tryDays_22 : decode cX7_tryDays 22 = .ok (.iload_n 3, 1) := by decide +kernel
theorem dX7_tryDays_23 : decode cX7_tryDays 23 = .ok (.iload_n 2, 1) := by decide +kernel
theorem dX7_tryDays_24 : decode cX7_tryDays 24 = .ok (.if_icmp .ge 7, 3) := by decide +kernel
theorem dX7_tryDays_27 : decode cX7_tryDays 27 = .ok (.iconst 1, 1) := by decide +kernel
theorem dX7_tryDays_28 : decode cX7_tryDays 28 = .ok (.goto 4, 3) := by decide +kernel
theorem dX7_tryDays_31 : decode cX7_tryDays 31 = .ok (.iconst 0, 1) := by decide +kernel
theorem dX7_tryDays_32 : decode cX7_tryDays 32 = .ok (.invokevirtual 150, 3) := by decide +kernel
theorem dX7_tryDays_35 : decode cX7_tryDays 35 = .ok (.iinc 3 1, 3) := by decide +kernel
theorem dX7_tryDays_38 : decode cX7_tryDays 38 = .ok (.goto (-25), 3) := by decide +kernel
theorem dX7_tryDays_41 : decode cX7_tryDays 41 = .ok (.return_, 1) := by decide +kernel
theorem dX7_losesNothing_0 : decode cX7_losesNothing 0 = .ok (.aload_n 0, 1) := by decide +kernel
theorem dX7_losesNothing_1 : decode cX7_losesNothing 1 = .ok (.getfield 16, 3) := by decide +kernel
theorem dX7_losesNothing_4 : decode cX7_losesNothing 4 = .ok (.aload_n 0, 1) := by decide +kernel
theorem dX7_losesNothing_5 : decode cX7_losesNothing 5 = .ok (.getfield 10, 3) := by decide +kernel
theorem dX7_losesNothing_8 : decode cX7_losesNothing 8 = .ok (.invokevirtual 147, 3) := by decide +kernel
theorem dX7_losesNothing_11 : decode cX7_losesNothing 11 = .ok (.aload_n 0, 1) := by decide +kernel
theorem dX7_losesNothing_12 : decode cX7_losesNothing 12 = .ok (.getfield 16, 3) := by decide +kernel
theorem dX7_losesNothing_15 : decode cX7_losesNothing 15 = .ok (.getfield 154, 3) := by decide +kernel
theorem dX7_losesNothing_18 : decode cX7_losesNothing 18 = .ok (.iconst 0, 1) := by decide +kernel
theorem dX7_losesNothing_19 : decode cX7_losesNothing 19 = .ok (.iload_n 1, 1) := by decide +kernel
theorem dX7_losesNothing_20 : decode cX7_losesNothing 20 = .ok (.iastore, 1) := by decide +kernel
theorem dX7_losesNothing_21 : decode cX7_losesNothing 21 = .ok (.aload_n 0, 1) := by decide +kernel
theorem dX7_losesNothing_22 : decode cX7_losesNothing 22 = .ok (.getfield 10, 3) := by decide +kernel
theorem dX7_losesNothing_25 : decode cX7_losesNothing 25 = .ok (.getfield 127, 3) := by decide +kernel
theorem dX7_losesNothing_28 : decode cX7_losesNothing 28 = .ok (.invokevirtual 131, 3) := by decide +kernel
theorem dX7_losesNothing_31 : decode cX7_losesNothing 31 = .ok (.istore_n 3, 1) := by decide +kernel
theorem dX7_losesNothing_32 : decode cX7_losesNothing 32 = .ok (.iconst 0, 1) := by decide +kernel
theorem dX7_losesNothing_33 : decode cX7_losesNothing 33 = .ok (.istore 4, 2) := by decide +kernel
theorem dX7_losesNothing_35 : decode cX7_losesNothing 35 = .ok (.iload 4, 2) := by decide +kernel
theorem dX7_losesNothing_37 : decode cX7_losesNothing 37 = .ok (.iload_n 2, 1) := by decide +kernel
theorem dX7_losesNothing_38 : decode cX7_losesNothing 38 = .ok (.if_icmp .ge 33, 3) := by decide +kernel
theorem dX7_losesNothing_41 : decode cX7_losesNothing 41 = .ok (.aload_n 0, 1) := by decide +kernel
theorem dX7_losesNothing_42 : decode cX7_losesNothing 42 = .ok (.getfield 16, 3) := by decide +kernel
theorem dX7_losesNothing_45 : decode cX7_losesNothing 45 = .ok (.iconst 0, 1) := by decide +kernel
theorem dX7_losesNothing_46 : decode cX7_losesNothing 46 = .ok (.invokevirtual 150, 3) := by decide +kernel
theorem dX7_losesNothing_49 : decode cX7_losesNothing 49 = .ok (.aload_n 0, 1) := by decide +kernel
theorem dX7_losesNothing_50 : decode cX7_losesNothing 50 = .ok (.getfield 16, 3) := by decide +kernel
theorem dX7_losesNothing_53 : decode cX7_losesNothing 53 = .ok (.getfield 127, 3) := by decide +kernel
theorem dX7_losesNothing_56 : decode cX7_losesNothing 56 = .ok (.invokevirtual 131, 3) := by decide +kernel
theorem dX7_losesNothing_59 : decode cX7_losesNothing 59 = .ok (.iload_n 3, 1) := by decide +kernel
theorem dX7_losesNothing_60 : decode cX7_losesNothing 60 = .ok (.if_icmp .eq 5, 3) := by decide +kernel
theorem dX7_losesNothing_63 : decode cX7_losesNothing 63 = .ok (.iconst 0, 1) := by decide +kernel
theorem dX7_losesNothing_64 : decode cX7_losesNothing 64 = .ok (.ireturn, 1) := by decide +kernel
theorem dX7_losesNothing_65 : decode cX7_losesNothing 65 = .ok (.iinc 4 1, 3) := by decide +kernel
theorem dX7_losesNothing_68 : decode cX7_losesNothing 68 = .ok (.goto (-33), 3) := by decide +kernel
theorem dX7_losesNothing_71 : decode cX7_losesNothing 71 = .ok (.iconst 1, 1) := by decide +kernel
theorem dX7_losesNothing_72 : decode cX7_losesNothing 72 = .ok (.ireturn, 1) := by decide +kernel
theorem dX7_put_0 : decode cX7_put 0 = .ok (.aload_n 0, 1) := by decide +kernel
theorem dX7_put_1 : decode cX7_put 1 = .ok (.getfield 33, 3) := by decide +kernel
theorem dX7_put_4 : decode cX7_put 4 = .ok (.lload_n 1, 1) := by decide +kernel
theorem dX7_put_5 : decode cX7_put 5 = .ok (.invokevirtual 158, 3) := by decide +kernel
theorem dX7_put_8 : decode cX7_put 8 = .ok (.ireturn, 1) := by decide +kernel
theorem dX7_wipe_0 : decode cX7_wipe 0 = .ok (.aload_n 0, 1) := by decide +kernel
theorem dX7_wipe_1 : decode cX7_wipe 1 = .ok (.getfield 33, 3) := by decide +kernel
theorem dX7_wipe_4 : decode cX7_wipe 4 = .ok (.invokevirtual 162, 3) := by decide +kernel
theorem dX7_wipe_7 : decode cX7_wipe 7 = .ok (.ireturn, 1) := by decide +kernel
theorem dX7_fault_0 : decode cX7_fault 0 = .ok (.aload_n 0, 1) := by decide +kernel
theorem dX7_fault_1 : decode cX7_fault 1 = .ok (.getfield 33, 3) := by decide +kernel
theorem dX7_fault_4 : decode cX7_fault 4 = .ok (.invokevirtual 165, 3) := by decide +kernel
theorem dX7_fault_7 : decode cX7_fault 7 = .ok (.ireturn, 1) := by decide +kernel
theorem dX7_carryOut_0 : decode cX7_carryOut 0 = .ok (.aload_n 0, 1) := by decide +kernel
theorem dX7_carryOut_1 : decode cX7_carryOut 1 = .ok (.getfield 33, 3) := by decide +kernel
theorem dX7_carryOut_4 : decode cX7_carryOut 4 = .ok (.invokevirtual 165, 3) := by decide +kernel
theorem dX7_carryOut_7 : decode cX7_carryOut 7 = .ok (.bipush (-6), 2) := by decide +kernel
theorem dX7_carryOut_9 : decode cX7_carryOut 9 = .ok (.if_icmp .eq 6, 3) := by decide +kernel
theorem dX7_carryOut_12 : decode cX7_carryOut 12 = .ok (.bipush (-3), 2) := by decide +kernel
theorem dX7_carryOut_14 : decode cX7_carryOut 14 = .ok (.ireturn, 1) := by decide +kernel
theorem dX7_carryOut_15 : decode cX7_carryOut 15 = .ok (.aload_n 0, 1) := by decide +kernel
theorem dX7_carryOut_16 : decode cX7_carryOut 16 = .ok (.getfield 22, 3) := by decide +kernel
theorem dX7_carryOut_19 : decode cX7_carryOut 19 = .ok (.aload_n 0, 1) := by decide +kernel
theorem dX7_carryOut_20 : decode cX7_carryOut 20 = .ok (.getfield 10, 3) := by decide +kernel
theorem dX7_carryOut_23 : decode cX7_carryOut 23 = .ok (.invokevirtual 37, 3) := by decide +kernel
theorem dX7_carryOut_26 : decode cX7_carryOut 26 = .ok (.iconst 0, 1) := by decide +kernel
theorem dX7_carryOut_27 : decode cX7_carryOut 27 = .ok (.istore_n 1, 1) := by decide +kernel
theorem dX7_carryOut_28 : decode cX7_carryOut 28 = .ok (.aload_n 0, 1) := by decide +kernel
theorem dX7_carryOut_29 : decode cX7_carryOut 29 = .ok (.getfield 33, 3) := by decide +kernel
theorem dX7_carryOut_32 : decode cX7_carryOut 32 = .ok (.invokevirtual 168, 3) := by decide +kernel
theorem dX7_carryOut_35 : decode cX7_carryOut 35 = .ok (.iconst 0, 1) := by decide +kernel
theorem dX7_carryOut_36 : decode cX7_carryOut 36 = .ok (.istore_n 2, 1) := by decide +kernel
theorem dX7_carryOut_37 : decode cX7_carryOut 37 = .ok (.iload_n 2, 1) := by decide +kernel
theorem dX7_carryOut_38 : decode cX7_carryOut 38 = .ok (.bipush 80, 2) := by decide +kernel
theorem dX7_carryOut_40 : decode cX7_carryOut 40 = .ok (.if_icmp .ge 42, 3) := by decide +kernel
theorem dX7_carryOut_43 : decode cX7_carryOut 43 = .ok (.aload_n 0, 1) := by decide +kernel
theorem dX7_carryOut_44 : decode cX7_carryOut 44 = .ok (.getfield 33, 3) := by decide +kernel
theorem dX7_carryOut_47 : decode cX7_carryOut 47 = .ok (.invokevirtual 171, 3) := by decide +kernel
theorem dX7_carryOut_50 : decode cX7_carryOut 50 = .ok (.ifCond .eq 32, 3) := by decide +kernel
theorem dX7_carryOut_53 : decode cX7_carryOut 53 = .ok (.aload_n 0, 1) := by decide +kernel
theorem dX7_carryOut_54 : decode cX7_carryOut 54 = .ok (.invokevirtual 175, 3) := by decide +kernel
theorem dX7_carryOut_57 : decode cX7_carryOut 57 = .ok (.ifCond .ge 6, 3) := by decide +kernel
theorem dX7_carryOut_60 : decode cX7_carryOut 60 = .ok (.goto 22, 3) := by decide +kernel
theorem dX7_carryOut_63 : decode cX7_carryOut 63 = .ok (.iinc 1 1, 3) := by decide +kernel
theorem dX7_carryOut_66 : decode cX7_carryOut 66 = .ok (.aload_n 0, 1) := by decide +kernel
theorem dX7_carryOut_67 : decode cX7_carryOut 67 = .ok (.getfield 33, 3) := by decide +kernel
theorem dX7_carryOut_70 : decode cX7_carryOut 70 = .ok (.bipush 59, 2) := by decide +kernel
theorem dX7_carryOut_72 : decode cX7_carryOut 72 = .ok (.invokevirtual 178, 3) := by decide +kernel
theorem dX7_carryOut_75 : decode cX7_carryOut 75 = .ok (.pop, 1) := by decide +kernel
theorem dX7_carryOut_76 : decode cX7_carryOut 76 = .ok (.iinc 2 1, 3) := by decide +kernel
theorem dX7_carryOut_79 : decode cX7_carryOut 79 = .ok (.goto (-42), 3) := by decide +kernel
theorem dX7_carryOut_82 : decode cX7_carryOut 82 = .ok (.aload_n 0, 1) := by decide +kernel
theorem dX7_carryOut_83 : decode cX7_carryOut 83 = .ok (.getfield 33, 3) := by decide +kernel
theorem dX7_carryOut_86 : decode cX7_carryOut 86 = .ok (.invokevirtual 162, 3) := by decide +kernel
theorem dX7_carryOut_89 : decode cX7_carryOut 89 = .ok (.pop, 1) := by decide +kernel
theorem dX7_carryOut_90 : decode cX7_carryOut 90 = .ok (.aload_n 0, 1) := by decide +kernel
theorem dX7_carryOut_91 : decode cX7_carryOut 91 = .ok (.getfield 22, 3) := by decide +kernel
theorem dX7_carryOut_94 : decode cX7_carryOut 94 = .ok (.iload_n 1, 1) := by decide +kernel
theorem dX7_carryOut_95 : decode cX7_carryOut 95 = .ok (.invokevirtual 45, 3) := by decide +kernel
theorem dX7_carryOut_98 : decode cX7_carryOut 98 = .ok (.ireturn, 1) := by decide +kernel
theorem dX7_carryOutOrder_0 : decode cX7_carryOutOrder 0 = .ok (.aload_n 0, 1) := by decide +kernel
theorem dX7_carryOutOrder_1 : decode cX7_carryOutOrder 1 = .ok (.getfield 33, 3) := by decide +kernel
theorem dX7_carryOutOrder_4 : decode cX7_carryOutOrder 4 = .ok (.getfield 182, 3) := by decide +kernel
theorem dX7_carryOutOrder_7 : decode cX7_carryOutOrder 7 = .ok (.astore_n 1, 1) := by decide +kernel
theorem dX7_carryOutOrder_8 : decode cX7_carryOutOrder 8 = .ok (.aload_n 0, 1) := by decide +kernel
theorem dX7_carryOutOrder_9 : decode cX7_carryOutOrder 9 = .ok (.getfield 33, 3) := by decide +kernel
theorem dX7_carryOutOrder_12 : decode cX7_carryOutOrder 12 = .ok (.getfield 185, 3) := by decide +kernel
theorem dX7_carryOutOrder_15 : decode cX7_carryOutOrder 15 = .ok (.lookupswitch 109 #[(102, 41), (108, 75), (113, 61), (115, 92)], 41) := by decide +kernel
theorem dX7_carryOutOrder_56 : decode cX7_carryOutOrder 56 = .ok (.aload_n 0, 1) := by decide +kernel
theorem dX7_carryOutOrder_57 : decode cX7_carryOutOrder 57 = .ok (.getfield 10, 3) := by decide +kernel
theorem dX7_carryOutOrder_60 : decode cX7_carryOutOrder 60 = .ok (.aload_n 1, 1) := by decide +kernel
theorem dX7_carryOutOrder_61 : decode cX7_carryOutOrder 61 = .ok (.iconst 0, 1) := by decide +kernel
theorem dX7_carryOutOrder_62 : decode cX7_carryOutOrder 62 = .ok (.iaload, 1) := by decide +kernel
theorem dX7_carryOutOrder_63 : decode cX7_carryOutOrder 63 = .ok (.aload_n 1, 1) := by decide +kernel
theorem dX7_carryOutOrder_64 : decode cX7_carryOutOrder 64 = .ok (.iconst 1, 1) := by decide +kernel
theorem dX7_carryOutOrder_65 : decode cX7_carryOutOrder 65 = .ok (.iaload, 1) := by decide +kernel
theorem dX7_carryOutOrder_66 : decode cX7_carryOutOrder 66 = .ok (.aload_n 1, 1) := by decide +kernel
theorem dX7_carryOutOrder_67 : decode cX7_carryOutOrder 67 = .ok (.iconst 2, 1) := by decide +kernel
theorem dX7_carryOutOrder_68 : decode cX7_carryOutOrder 68 = .ok (.iaload, 1) := by decide +kernel
theorem dX7_carryOutOrder_69 : decode cX7_carryOutOrder 69 = .ok (.aload_n 1, 1) := by decide +kernel
theorem dX7_carryOutOrder_70 : decode cX7_carryOutOrder 70 = .ok (.iconst 3, 1) := by decide +kernel
theorem dX7_carryOutOrder_71 : decode cX7_carryOutOrder 71 = .ok (.iaload, 1) := by decide +kernel
theorem dX7_carryOutOrder_72 : decode cX7_carryOutOrder 72 = .ok (.invokevirtual 56, 3) := by decide +kernel
theorem dX7_carryOutOrder_75 : decode cX7_carryOutOrder 75 = .ok (.ireturn, 1) := by decide +kernel
theorem dX7_carryOutOrder_76 : decode cX7_carryOutOrder 76 = .ok (.aload_n 0, 1) := by decide +kernel
theorem dX7_carryOutOrder_77 : decode cX7_carryOutOrder 77 = .ok (.getfield 10, 3) := by decide +kernel
theorem dX7_carryOutOrder_80 : decode cX7_carryOutOrder 80 = .ok (.aload_n 1, 1) := by decide +kernel
theorem dX7_carryOutOrder_81 : decode cX7_carryOutOrder 81 = .ok (.iconst 0, 1) := by decide +kernel
theorem dX7_carryOutOrder_82 : decode cX7_carryOutOrder 82 = .ok (.iaload, 1) := by decide +kernel
theorem dX7_carryOutOrder_83 : decode cX7_carryOutOrder 83 = .ok (.aload_n 1, 1) := by decide +kernel
theorem dX7_carryOutOrder_84 : decode cX7_carryOutOrder 84 = .ok (.iconst 1, 1) := by decide +kernel
theorem dX7_carryOutOrder_85 : decode cX7_carryOutOrder 85 = .ok (.iaload, 1) := by decide +kernel
theorem dX7_carryOutOrder_86 : decode cX7_carryOutOrder 86 = .ok (.invokevirtual 49, 3) := by decide +kernel
theorem dX7_carryOutOrder_89 : decode cX7_carryOutOrder 89 = .ok (.ireturn, 1) := by decide +kernel
theorem dX7_carryOutOrder_90 : decode cX7_carryOutOrder 90 = .ok (.aload_n 0, 1) := by decide +kernel
theorem dX7_carryOutOrder_91 : decode cX7_carryOutOrder 91 = .ok (.getfield 10, 3) := by decide +kernel
theorem dX7_carryOutOrder_94 : decode cX7_carryOutOrder 94 = .ok (.aload_n 1, 1) := by decide +kernel
theorem dX7_carryOutOrder_95 : decode cX7_carryOutOrder 95 = .ok (.iconst 0, 1) := by decide +kernel
theorem dX7_carryOutOrder_96 : decode cX7_carryOutOrder 96 = .ok (.iaload, 1) := by decide +kernel
theorem dX7_carryOutOrder_97 : decode cX7_carryOutOrder 97 = .ok (.aload_n 1, 1) := by decide +kernel
theorem dX7_carryOutOrder_98 : decode cX7_carryOutOrder 98 = .ok (.iconst 1, 1) := by decide +kernel
theorem dX7_carryOutOrder_99 : decode cX7_carryOutOrder 99 = .ok (.iaload, 1) := by decide +kernel
theorem dX7_carryOutOrder_100 : decode cX7_carryOutOrder 100 = .ok (.aload_n 1, 1) := by decide +kernel
theorem dX7_carryOutOrder_101 : decode cX7_carryOutOrder 101 = .ok (.iconst 2, 1) := by decide +kernel
theorem dX7_carryOutOrder_102 : decode cX7_carryOutOrder 102 = .ok (.iaload, 1) := by decide +kernel
theorem dX7_carryOutOrder_103 : decode cX7_carryOutOrder 103 = .ok (.invokevirtual 52, 3) := by decide +kernel
theorem dX7_carryOutOrder_106 : decode cX7_carryOutOrder 106 = .ok (.ireturn, 1) := by decide +kernel
theorem dX7_carryOutOrder_107 : decode cX7_carryOutOrder 107 = .ok (.aload_n 0, 1) := by decide +kernel
theorem dX7_carryOutOrder_108 : decode cX7_carryOutOrder 108 = .ok (.getfield 10, 3) := by decide +kernel
theorem dX7_carryOutOrder_111 : decode cX7_carryOutOrder 111 = .ok (.getfield 60, 3) := by decide +kernel
theorem dX7_carryOutOrder_114 : decode cX7_carryOutOrder 114 = .ok (.aload_n 1, 1) := by decide +kernel
theorem dX7_carryOutOrder_115 : decode cX7_carryOutOrder 115 = .ok (.iconst 0, 1) := by decide +kernel
theorem dX7_carryOutOrder_116 : decode cX7_carryOutOrder 116 = .ok (.iaload, 1) := by decide +kernel
theorem dX7_carryOutOrder_117 : decode cX7_carryOutOrder 117 = .ok (.aload_n 1, 1) := by decide +kernel
theorem dX7_carryOutOrder_118 : decode cX7_carryOutOrder 118 = .ok (.iconst 1, 1) := by decide +kernel
theorem dX7_carryOutOrder_119 : decode cX7_carryOutOrder 119 = .ok (.iaload, 1) := by decide +kernel
theorem dX7_carryOutOrder_120 : decode cX7_carryOutOrder 120 = .ok (.invokevirtual 64, 3) := by decide +kernel
theorem dX7_carryOutOrder_123 : decode cX7_carryOutOrder 123 = .ok (.ireturn, 1) := by decide +kernel
theorem dX7_carryOutOrder_124 : decode cX7_carryOutOrder 124 = .ok (.aload_n 0, 1) := by decide +kernel
theorem dX7_carryOutOrder_125 : decode cX7_carryOutOrder 125 = .ok (.getfield 10, 3) := by decide +kernel
theorem dX7_carryOutOrder_128 : decode cX7_carryOutOrder 128 = .ok (.aload_n 1, 1) := by decide +kernel
theorem dX7_carryOutOrder_129 : decode cX7_carryOutOrder 129 = .ok (.iconst 0, 1) := by decide +kernel
theorem dX7_carryOutOrder_130 : decode cX7_carryOutOrder 130 = .ok (.iaload, 1) := by decide +kernel
theorem dX7_carryOutOrder_131 : decode cX7_carryOutOrder 131 = .ok (.invokevirtual 72, 3) := by decide +kernel
theorem dX7_carryOutOrder_134 : decode cX7_carryOutOrder 134 = .ok (.ireturn, 1) := by decide +kernel
theorem dX7_undo_0 : decode cX7_undo 0 = .ok (.aload_n 0, 1) := by decide +kernel
theorem dX7_undo_1 : decode cX7_undo 1 = .ok (.getfield 22, 3) := by decide +kernel
theorem dX7_undo_4 : decode cX7_undo 4 = .ok (.getfield 94, 3) := by decide +kernel
theorem dX7_undo_7 : decode cX7_undo 7 = .ok (.ifCond .ne 6, 3) := by decide +kernel
theorem dX7_undo_10 : decode cX7_undo 10 = .ok (.bipush (-5), 2) := by decide +kernel
theorem dX7_undo_12 : decode cX7_undo 12 = .ok (.ireturn, 1) := by decide +kernel
theorem dX7_undo_13 : decode cX7_undo 13 = .ok (.aload_n 0, 1) := by decide +kernel
theorem dX7_undo_14 : decode cX7_undo 14 = .ok (.getfield 22, 3) := by decide +kernel
theorem dX7_undo_17 : decode cX7_undo 17 = .ok (.aload_n 0, 1) := by decide +kernel
theorem dX7_undo_18 : decode cX7_undo 18 = .ok (.getfield 10, 3) := by decide +kernel
theorem dX7_undo_21 : decode cX7_undo 21 = .ok (.invokevirtual 189, 3) := by decide +kernel
theorem dX7_undo_24 : decode cX7_undo 24 = .ok (.aload_n 0, 1) := by decide +kernel
theorem dX7_undo_25 : decode cX7_undo 25 = .ok (.getfield 22, 3) := by decide +kernel
theorem dX7_undo_28 : decode cX7_undo 28 = .ok (.getfield 94, 3) := by decide +kernel
theorem dX7_undo_31 : decode cX7_undo 31 = .ok (.ireturn, 1) := by decide +kernel
theorem dX7_save_0 : decode cX7_save 0 = .ok (.iload_n 1, 1) := by decide +kernel
theorem dX7_save_1 : decode cX7_save 1 = .ok (.iconst 0, 1) := by decide +kernel
theorem dX7_save_2 : decode cX7_save 2 = .ok (.iconst 1, 1) := by decide +kernel
theorem dX7_save_3 : decode cX7_save 3 = .ok (.invokestatic 100, 3) := by decide +kernel
theorem dX7_save_6 : decode cX7_save 6 = .ok (.ifCond .ne 6, 3) := by decide +kernel
theorem dX7_save_9 : decode cX7_save 9 = .ok (.bipush (-2), 2) := by decide +kernel
theorem dX7_save_11 : decode cX7_save 11 = .ok (.ireturn, 1) := by decide +kernel
theorem dX7_save_12 : decode cX7_save 12 = .ok (.aload_n 0, 1) := by decide +kernel
theorem dX7_save_13 : decode cX7_save 13 = .ok (.getfield 26, 3) := by decide +kernel
theorem dX7_save_16 : decode cX7_save 16 = .ok (.iload_n 1, 1) := by decide +kernel
theorem dX7_save_17 : decode cX7_save 17 = .ok (.aaload, 1) := by decide +kernel
theorem dX7_save_18 : decode cX7_save 18 = .ok (.astore_n 2, 1) := by decide +kernel
theorem dX7_save_19 : decode cX7_save 19 = .ok (.aload_n 2, 1) := by decide +kernel
theorem dX7_save_20 : decode cX7_save 20 = .ok (.ifnonnull 18, 3) := by decide +kernel
theorem dX7_save_23 : decode cX7_save 23 = .ok (.new 7, 3) := by decide +kernel
theorem dX7_save_26 : decode cX7_save 26 = .ok (.dup, 1) := by decide +kernel
theorem dX7_save_27 : decode cX7_save 27 = .ok (.invokespecial 9, 3) := by decide +kernel
theorem dX7_save_30 : decode cX7_save 30 = .ok (.astore_n 2, 1) := by decide +kernel
theorem dX7_save_31 : decode cX7_save 31 = .ok (.aload_n 0, 1) := by decide +kernel
theorem dX7_save_32 : decode cX7_save 32 = .ok (.getfield 26, 3) := by decide +kernel
theorem dX7_save_35 : decode cX7_save 35 = .ok (.iload_n 1, 1) := by decide +kernel
theorem dX7_save_36 : decode cX7_save 36 = .ok (.aload_n 2, 1) := by decide +kernel
theorem dX7_save_37 : decode cX7_save 37 = .ok (.aastore, 1) := by decide +kernel
theorem dX7_save_38 : decode cX7_save 38 = .ok (.aload_n 2, 1) := by decide +kernel
theorem dX7_save_39 : decode cX7_save 39 = .ok (.aload_n 0, 1) := by decide +kernel
theorem dX7_save_40 : decode cX7_save 40 = .ok (.getfield 10, 3) := by decide +kernel
theorem dX7_save_43 : decode cX7_save 43 = .ok (.invokevirtual 147, 3) := by decide +kernel
theorem dX7_save_46 : decode cX7_save 46 = .ok (.aload_n 0, 1) := by decide +kernel
theorem dX7_save_47 : decode cX7_save 47 = .ok (.getfield 10, 3) := by decide +kernel
theorem dX7_save_50 : decode cX7_save 50 = .ok (.getfield 106, 3) := by decide +kernel
theorem dX7_save_53 : decode cX7_save 53 = .ok (.getfield 192, 3) := by decide +kernel
theorem dX7_save_56 : decode cX7_save 56 = .ok (.ireturn, 1) := by decide +kernel
theorem dX7_restore_0 : decode cX7_restore 0 = .ok (.iload_n 1, 1) := by decide +kernel
theorem dX7_restore_1 : decode cX7_restore 1 = .ok (.iconst 0, 1) := by decide +kernel
theorem dX7_restore_2 : decode cX7_restore 2 = .ok (.iconst 1, 1) := by decide +kernel
theorem dX7_restore_3 : decode cX7_restore 3 = .ok (.invokestatic 100, 3) := by decide +kernel
theorem dX7_restore_6 : decode cX7_restore 6 = .ok (.ifCond .ne 6, 3) := by decide +kernel
theorem dX7_restore_9 : decode cX7_restore 9 = .ok (.bipush (-2), 2) := by decide +kernel
theorem dX7_restore_11 : decode cX7_restore 11 = .ok (.ireturn, 1) := by decide +kernel
theorem dX7_restore_12 : decode cX7_restore 12 = .ok (.aload_n 0, 1) := by decide +kernel
theorem dX7_restore_13 : decode cX7_restore 13 = .ok (.getfield 26, 3) := by decide +kernel
theorem dX7_restore_16 : decode cX7_restore 16 = .ok (.iload_n 1, 1) := by decide +kernel
theorem dX7_restore_17 : decode cX7_restore 17 = .ok (.aaload, 1) := by decide +kernel
theorem dX7_restore_18 : decode cX7_restore 18 = .ok (.astore_n 2, 1) := by decide +kernel
theorem dX7_restore_19 : decode cX7_restore 19 = .ok (.aload_n 2, 1) := by decide +kernel
theorem dX7_restore_20 : decode cX7_restore 20 = .ok (.ifnonnull 6, 3) := by decide +kernel
theorem dX7_restore_23 : decode cX7_restore 23 = .ok (.bipush (-5), 2) := by decide +kernel
theorem dX7_restore_25 : decode cX7_restore 25 = .ok (.ireturn, 1) := by decide +kernel
theorem dX7_restore_26 : decode cX7_restore 26 = .ok (.aload_n 0, 1) := by decide +kernel
theorem dX7_restore_27 : decode cX7_restore 27 = .ok (.getfield 22, 3) := by decide +kernel
theorem dX7_restore_30 : decode cX7_restore 30 = .ok (.aload_n 0, 1) := by decide +kernel
theorem dX7_restore_31 : decode cX7_restore 31 = .ok (.getfield 10, 3) := by decide +kernel
theorem dX7_restore_34 : decode cX7_restore 34 = .ok (.invokevirtual 37, 3) := by decide +kernel
theorem dX7_restore_37 : decode cX7_restore 37 = .ok (.aload_n 0, 1) := by decide +kernel
theorem dX7_restore_38 : decode cX7_restore 38 = .ok (.getfield 10, 3) := by decide +kernel
theorem dX7_restore_41 : decode cX7_restore 41 = .ok (.aload_n 2, 1) := by decide +kernel
theorem dX7_restore_42 : decode cX7_restore 42 = .ok (.invokevirtual 147, 3) := by decide +kernel
theorem dX7_restore_45 : decode cX7_restore 45 = .ok (.aload_n 0, 1) := by decide +kernel
theorem dX7_restore_46 : decode cX7_restore 46 = .ok (.getfield 22, 3) := by decide +kernel
theorem dX7_restore_49 : decode cX7_restore 49 = .ok (.aload_n 0, 1) := by decide +kernel
theorem dX7_restore_50 : decode cX7_restore 50 = .ok (.getfield 10, 3) := by decide +kernel
theorem dX7_restore_53 : decode cX7_restore 53 = .ok (.getfield 106, 3) := by decide +kernel
theorem dX7_restore_56 : decode cX7_restore 56 = .ok (.getfield 192, 3) := by decide +kernel
theorem dX7_restore_59 : decode cX7_restore 59 = .ok (.invokevirtual 45, 3) := by decide +kernel
theorem dX7_restore_62 : decode cX7_restore 62 = .ok (.ireturn, 1) := by decide +kernel
theorem dX7_isWithin_0 : decode cX7_isWithin 0 = .ok (.iload_n 0, 1) := by decide +kernel
theorem dX7_isWithin_1 : decode cX7_isWithin 1 = .ok (.iload_n 1, 1) := by decide +kernel
theorem dX7_isWithin_2 : decode cX7_isWithin 2 = .ok (.if_icmp .lt 12, 3) := by decide +kernel
theorem dX7_isWithin_5 : decode cX7_isWithin 5 = .ok (.iload_n 0, 1) := by decide +kernel
theorem dX7_isWithin_6 : decode cX7_isWithin 6 = .ok (.iload_n 2, 1) := by decide +kernel
theorem dX7_isWithin_7 : decode cX7_isWithin 7 = .ok (.if_icmp .gt 7, 3) := by decide +kernel
theorem dX7_isWithin_10 : decode cX7_isWithin 10 = .ok (.iconst 1, 1) := by decide +kernel
theorem dX7_isWithin_11 : decode cX7_isWithin 11 = .ok (.goto 4, 3) := by decide +kernel
theorem dX7_isWithin_14 : decode cX7_isWithin 14 = .ok (.iconst 0, 1) := by decide +kernel
theorem dX7_isWithin_15 : decode cX7_isWithin 15 = .ok (.ireturn, 1) := by decide +kernel
theorem dX7_isGrower_0 : decode cX7_isGrower 0 = .ok (.iload_n 0, 1) := by decide +kernel
theorem dX7_isGrower_1 : decode cX7_isGrower 1 = .ok (.iconst 0, 1) := by decide +kernel
theorem dX7_isGrower_2 : decode cX7_isGrower 2 = .ok (.iconst 5, 1) := by decide +kernel
theorem dX7_isGrower_3 : decode cX7_isGrower 3 = .ok (.invokestatic 100, 3) := by decide +kernel
theorem dX7_isGrower_6 : decode cX7_isGrower 6 = .ok (.ireturn, 1) := by decide +kernel
theorem dX7_copyRow_0 : decode cX7_copyRow 0 = .ok (.aload_n 0, 1) := by decide +kernel
theorem dX7_copyRow_1 : decode cX7_copyRow 1 = .ok (.iconst 0, 1) := by decide +kernel
theorem dX7_copyRow_2 : decode cX7_copyRow 2 = .ok (.aload_n 1, 1) := by decide +kernel
theorem dX7_copyRow_3 : decode cX7_copyRow 3 = .ok (.iconst 0, 1) := by decide +kernel
theorem dX7_copyRow_4 : decode cX7_copyRow 4 = .ok (.iload_n 2, 1) := by decide +kernel
theorem dX7_copyRow_5 : decode cX7_copyRow 5 = .ok (.aload_n 0, 1) := by decide +kernel
theorem dX7_copyRow_6 : decode cX7_copyRow 6 = .ok (.arraylength, 1) := by decide +kernel
theorem dX7_copyRow_7 : decode cX7_copyRow 7 = .ok (.aload_n 1, 1) := by decide +kernel
theorem dX7_copyRow_8 : decode cX7_copyRow 8 = .ok (.arraylength, 1) := by decide +kernel
theorem dX7_copyRow_9 : decode cX7_copyRow 9 = .ok (.invokestatic 195, 3) := by decide +kernel
theorem dX7_copyRow_12 : decode cX7_copyRow 12 = .ok (.invokestatic 195, 3) := by decide +kernel
theorem dX7_copyRow_15 : decode cX7_copyRow 15 = .ok (.invokestatic 200, 3) := by decide +kernel
theorem dX7_copyRow_18 : decode cX7_copyRow 18 = .ok (.return_, 1) := by decide +kernel
theorem dX7_sumOf_0 : decode cX7_sumOf 0 = .ok (.iconst 0, 1) := by decide +kernel
theorem dX7_sumOf_1 : decode cX7_sumOf 1 = .ok (.istore_n 1, 1) := by decide +kernel
theorem dX7_sumOf_2 : decode cX7_sumOf 2 = .ok (.aload_n 0, 1) := by decide +kernel
theorem dX7_sumOf_3 : decode cX7_sumOf 3 = .ok (.astore_n 2, 1) := by decide +kernel
theorem dX7_sumOf_4 : decode cX7_sumOf 4 = .ok (.aload_n 2, 1) := by decide +kernel
theorem dX7_sumOf_5 : decode cX7_sumOf 5 = .ok (.arraylength, 1) := by decide +kernel
theorem dX7_sumOf_6 : decode cX7_sumOf 6 = .ok (.istore_n 3, 1) := by decide +kernel
theorem dX7_sumOf_7 : decode cX7_sumOf 7 = .ok (.iconst 0, 1) := by decide +kernel
theorem dX7_sumOf_8 : decode cX7_sumOf 8 = .ok (.istore 4, 2) := by decide +kernel
theorem dX7_sumOf_10 : decode cX7_sumOf 10 = .ok (.iload 4, 2) := by decide +kernel
theorem dX7_sumOf_12 : decode cX7_sumOf 12 = .ok (.iload_n 3, 1) := by decide +kernel
theorem dX7_sumOf_13 : decode cX7_sumOf 13 = .ok (.if_icmp .ge 20, 3) := by decide +kernel
theorem dX7_sumOf_16 : decode cX7_sumOf 16 = .ok (.aload_n 2, 1) := by decide +kernel
theorem dX7_sumOf_17 : decode cX7_sumOf 17 = .ok (.iload 4, 2) := by decide +kernel
theorem dX7_sumOf_19 : decode cX7_sumOf 19 = .ok (.iaload, 1) := by decide +kernel
theorem dX7_sumOf_20 : decode cX7_sumOf 20 = .ok (.istore 5, 2) := by decide +kernel
theorem dX7_sumOf_22 : decode cX7_sumOf 22 = .ok (.iload_n 1, 1) := by decide +kernel
theorem dX7_sumOf_23 : decode cX7_sumOf 23 = .ok (.iload 5, 2) := by decide +kernel
theorem dX7_sumOf_25 : decode cX7_sumOf 25 = .ok (.iadd, 1) := by decide +kernel
theorem dX7_sumOf_26 : decode cX7_sumOf 26 = .ok (.istore_n 1, 1) := by decide +kernel
theorem dX7_sumOf_27 : decode cX7_sumOf 27 = .ok (.iinc 4 1, 3) := by decide +kernel
theorem dX7_sumOf_30 : decode cX7_sumOf 30 = .ok (.goto (-20), 3) := by decide +kernel
theorem dX7_sumOf_33 : decode cX7_sumOf 33 = .ok (.iload_n 1, 1) := by decide +kernel
theorem dX7_sumOf_34 : decode cX7_sumOf 34 = .ok (.ireturn, 1) := by decide +kernel
theorem dX8_init_0 : decode cX8_init 0 = .ok (.aload_n 0, 1) := by decide +kernel
theorem dX8_init_1 : decode cX8_init 1 = .ok (.invokespecial 1, 3) := by decide +kernel
theorem dX8_init_4 : decode cX8_init 4 = .ok (.aload_n 0, 1) := by decide +kernel
theorem dX8_init_5 : decode cX8_init 5 = .ok (.sipush 1497, 3) := by decide +kernel
theorem dX8_init_8 : decode cX8_init 8 = .ok (.newarray .int, 2) := by decide +kernel
theorem dX8_init_10 : decode cX8_init 10 = .ok (.putfield 7, 3) := by decide +kernel
theorem dX8_init_13 : decode cX8_init 13 = .ok (.aload_n 0, 1) := by decide +kernel
theorem dX8_init_14 : decode cX8_init 14 = .ok (.sipush 1497, 3) := by decide +kernel
theorem dX8_init_17 : decode cX8_init 17 = .ok (.newarray .int, 2) := by decide +kernel
theorem dX8_init_19 : decode cX8_init 19 = .ok (.putfield 13, 3) := by decide +kernel
theorem dX8_init_22 : decode cX8_init 22 = .ok (.aload_n 0, 1) := by decide +kernel
theorem dX8_init_23 : decode cX8_init 23 = .ok (.sipush 8982, 3) := by decide +kernel
theorem dX8_init_26 : decode cX8_init 26 = .ok (.newarray .int, 2) := by decide +kernel
theorem dX8_init_28 : decode cX8_init 28 = .ok (.putfield 16, 3) := by decide +kernel
theorem dX8_init_31 : decode cX8_init 31 = .ok (.aload_n 0, 1) := by decide +kernel
theorem dX8_init_32 : decode cX8_init 32 = .ok (.sipush 2994, 3) := by decide +kernel
theorem dX8_init_35 : decode cX8_init 35 = .ok (.newarray .int, 2) := by decide +kernel
theorem dX8_init_37 : decode cX8_init 37 = .ok (.putfield 19, 3) := by decide +kernel
theorem dX8_init_40 : decode cX8_init 40 = .ok (.aload_n 0, 1) := by decide +kernel
theorem dX8_init_41 : decode cX8_init 41 = .ok (.iconst 2, 1) := by decide +kernel
theorem dX8_init_42 : decode cX8_init 42 = .ok (.newarray .boolean, 2) := by decide +kernel
theorem dX8_init_44 : decode cX8_init 44 = .ok (.putfield 22, 3) := by decide +kernel
theorem dX8_init_47 : decode cX8_init 47 = .ok (.aload_n 0, 1) := by decide +kernel
theorem dX8_init_48 : decode cX8_init 48 = .ok (.bipush 80, 2) := by decide +kernel
theorem dX8_init_50 : decode cX8_init 50 = .ok (.newarray .int, 2) := by decide +kernel
theorem dX8_init_52 : decode cX8_init 52 = .ok (.putfield 26, 3) := by decide +kernel
theorem dX8_init_55 : decode cX8_init 55 = .ok (.aload_n 0, 1) := by decide +kernel
theorem dX8_init_56 : decode cX8_init 56 = .ok (.sipush 140, 3) := by decide +kernel
theorem dX8_init_59 : decode cX8_init 59 = .ok (.newarray .int, 2) := by decide +kernel
theorem dX8_init_61 : decode cX8_init 61 = .ok (.putfield 29, 3) := by decide +kernel
theorem dX8_init_64 : decode cX8_init 64 = .ok (.aload_n 0, 1) := by decide +kernel
theorem dX8_init_65 : decode cX8_init 65 = .ok (.getfield 7, 3) := by decide +kernel
theorem dX8_init_68 : decode cX8_init 68 = .ok (.iconst 3, 1) := by decide +kernel
theorem dX8_init_69 : decode cX8_init 69 = .ok (.iconst 4, 1) := by decide +kernel
theorem dX8_init_70 : decode cX8_init 70 = .ok (.iastore, 1) := by decide +kernel
theorem dX8_init_71 : decode cX8_init 71 = .ok (.aload_n 0, 1) := by decide +kernel
theorem dX8_init_72 : decode cX8_init 72 = .ok (.getfield 7, 3) := by decide +kernel
theorem dX8_init_75 : decode cX8_init 75 = .ok (.iconst 4, 1) := by decide +kernel
theorem dX8_init_76 : decode cX8_init 76 = .ok (.bipush 10, 2) := by decide +kernel
theorem dX8_init_78 : decode cX8_init 78 = .ok (.iastore, 1) := by decide +kernel
theorem dX8_init_79 : decode cX8_init 79 = .ok (.aload_n 0, 1) := by decide +kernel
theorem dX8_init_80 : decode cX8_init 80 = .ok (.getfield 7, 3) := by decide +kernel
theorem dX8_init_83 : decode cX8_init 83 = .ok (.iconst 5, 1) := by decide +kernel
theorem dX8_init_84 : decode cX8_init 84 = .ok (.bipush 60, 2) := by decide +kernel
theorem dX8_init_86 : decode cX8_init 86 = .ok (.iastore, 1) := by decide +kernel
theorem dX8_init_87 : decode cX8_init 87 = .ok (.aload_n 0, 1) := by decide +kernel
theorem dX8_init_88 : decode cX8_init 88 = .ok (.getfield 7, 3) := by decide +kernel
theorem dX8_init_91 : decode cX8_init 91 = .ok (.bipush 6, 2) := by decide +kernel
theorem dX8_init_93 : decode cX8_init 93 = .ok (.bipush 100, 2) := by decide +kernel
theorem dX8_init_95 : decode cX8_init 95 = .ok (.iastore, 1) := by decide +kernel
theorem dX8_init_96 : decode cX8_init 96 = .ok (.aload_n 0, 1) := by decide +kernel
theorem dX8_init_97 : decode cX8_init 97 = .ok (.getfield 7, 3) := by decide +kernel
theorem dX8_init_100 : decode cX8_init 100 = .ok (.bipush 7, 2) := by decide +kernel
theorem dX8_init_102 : decode cX8_init 102 = .ok (.bipush 8, 2) := by decide +kernel
theorem dX8_init_104 : decode cX8_init 104 = .ok (.iastore, 1) := by decide +kernel
theorem dX8_init_105 : decode cX8_init 105 = .ok (.aload_n 0, 1) := by decide +kernel
theorem dX8_init_106 : decode cX8_init 106 = .ok (.getfield 7, 3) := by decide +kernel
theorem dX8_init_109 : decode cX8_init 109 = .ok (.bipush 8, 2) := by decide +kernel
theorem dX8_init_111 : decode cX8_init 111 = .ok (.iconst 5, 1) := by decide +kernel
theorem dX8_init_112 : decode cX8_init 112 = .ok (.iastore, 1) := by decide +kernel
theorem dX8_init_113 : decode cX8_init 113 = .ok (.aload_n 0, 1) := by decide +kernel
theorem dX8_init_114 : decode cX8_init 114 = .ok (.getfield 7, 3) := by decide +kernel
theorem dX8_init_117 : decode cX8_init 117 = .ok (.bipush 9, 2) := by decide +kernel
theorem dX8_init_119 : decode cX8_init 119 = .ok (.bipush 30, 2) := by decide +kernel
theorem dX8_init_121 : decode cX8_init 121 = .ok (.iastore, 1) := by decide +kernel
theorem dX8_init_122 : decode cX8_init 122 = .ok (.iconst 0, 1) := by decide +kernel
theorem dX8_init_123 : decode cX8_init 123 = .ok (.istore_n 1, 1) := by decide +kernel
theorem dX8_init_124 : decode cX8_init 124 = .ok (.iload_n 1, 1) := by decide +kernel
theorem dX8_init_125 : decode cX8_init 125 = .ok (.bipush 6, 2) := by decide +kernel
theorem dX8_init_127 : decode cX8_init 127 = .ok (.if_icmp .ge 20, 3) := by decide +kernel
theorem dX8_init_130 : decode cX8_init 130 = .ok (.aload_n 0, 1) := by decide +kernel
theorem dX8_init_131 : decode cX8_init 131 = .ok (.getfield 7, 3) := by decide +kernel
theorem dX8_init_134 : decode cX8_init 134 = .ok (.bipush 10, 2) := by decide +kernel
theorem dX8_init_136 : decode cX8_init 136 = .ok (.iload_n 1, 1) := by decide +kernel
theorem dX8_init_137 : decode cX8_init 137 = .ok (.iadd, 1) := by decide +kernel
theorem dX8_init_138 : decode cX8_init 138 = .ok (.bipush 100, 2) := by decide +kernel
theorem dX8_init_140 : decode cX8_init 140 = .ok (.iastore, 1) := by decide +kernel
theorem dX8_init_141 : decode cX8_init 141 = .ok (.iinc 1 1, 3) := by decide +kernel
theorem dX8_init_144 : decode cX8_init 144 = .ok (.goto (-20), 3) := by decide +kernel
theorem dX8_init_147 : decode cX8_init 147 = .ok (.return_, 1) := by decide +kernel
theorem dX8_in_0 : decode cX8_in 0 = .ok (.iload_n 0, 1) := by decide +kernel
theorem dX8_in_1 : decode cX8_in 1 = .ok (.iload_n 1, 1) := by decide +kernel
theorem dX8_in_2 : decode cX8_in 2 = .ok (.if_icmp .lt 12, 3) := by decide +kernel
theorem dX8_in_5 : decode cX8_in 5 = .ok (.iload_n 0, 1) := by decide +kernel
theorem dX8_in_6 : decode cX8_in 6 = .ok (.iload_n 2, 1) := by decide +kernel
theorem dX8_in_7 : decode cX8_in 7 = .ok (.if_icmp .gt 7, 3) := by decide +kernel
theorem dX8_in_10 : decode cX8_in 10 = .ok (.iconst 1, 1) := by decide +kernel
theorem dX8_in_11 : decode cX8_in 11 = .ok (.goto 4, 3) := by decide +kernel
theorem dX8_in_14 : decode cX8_in 14 = .ok (.iconst 0, 1) := by decide +kernel
theorem dX8_in_15 : decode cX8_in 15 = .ok (.ireturn, 1) := by decide +kernel
theorem dX8_of_0 : decode cX8_of 0 = .ok (.aload_n 0, 1) := by decide +kernel
theorem dX8_of_1 : decode cX8_of 1 = .ok (.bipush 56, 2) := by decide +kernel
theorem dX8_of_3 : decode cX8_of 3 = .ok (.bipush 8, 2) := by decide +kernel
theorem dX8_of_5 : decode cX8_of 5 = .ok (.iload_n 1, 1) := by decide +kernel
theorem dX8_of_6 : decode cX8_of 6 = .ok (.imul, 1) := by decide +kernel
theorem dX8_of_7 : decode cX8_of 7 = .ok (.iadd, 1) := by decide +kernel
theorem dX8_of_8 : decode cX8_of 8 = .ok (.iload_n 2, 1) := by decide +kernel
theorem dX8_of_9 : decode cX8_of 9 = .ok (.iadd, 1) := by decide +kernel
theorem dX8_of_10 : decode cX8_of 10 = .ok (.iaload, 1) := by decide +kernel
theorem dX8_of_11 : decode cX8_of 11 = .ok (.ireturn, 1) := by decide +kernel
theorem dX8_isGrower_0 : decode cX8_isGrower 0 = .ok (.iload_n 0, 1) := by decide +kernel
theorem dX8_isGrower_1 : decode cX8_isGrower 1 = .ok (.iconst 0, 1) := by decide +kernel
theorem dX8_isGrower_2 : decode cX8_isGrower 2 = .ok (.iconst 5, 1) := by decide +kernel
theorem dX8_isGrower_3 : decode cX8_isGrower 3 = .ok (.invokestatic 32, 3) := by decide +kernel
theorem dX8_isGrower_6 : decode cX8_isGrower 6 = .ok (.ireturn, 1) := by decide +kernel
theorem dX8_isDay_0 : decode cX8_isDay 0 = .ok (.iload_n 0, 1) := by decide +kernel
theorem dX8_isDay_1 : decode cX8_isDay 1 = .ok (.iconst 0, 1) := by decide +kernel
theorem dX8_isDay_2 : decode cX8_isDay 2 = .ok (.sipush 999, 3) := by decide +kernel
theorem dX8_isDay_5 : decode cX8_isDay 5 = .ok (.invokestatic 32, 3) := by decide +kernel
theorem dX8_isDay_8 : decode cX8_isDay 8 = .ok (.ireturn, 1) := by decide +kernel
theorem dX8_lays_0 : decode cX8_lays 0 = .ok (.iconst 0, 1) := by decide +kernel
theorem dX8_lays_1 : decode cX8_lays 1 = .ok (.istore 4, 2) := by decide +kernel
theorem dX8_lays_3 : decode cX8_lays 3 = .ok (.iload 4, 2) := by decide +kernel
theorem dX8_lays_5 : decode cX8_lays 5 = .ok (.sipush 1497, 3) := by decide +kernel
theorem dX8_lays_8 : decode cX8_lays 8 = .ok (.if_icmp .ge 21, 3) := by decide +kernel
theorem dX8_lays_11 : decode cX8_lays 11 = .ok (.aload_n 2, 1) := by decide +kernel
theorem dX8_lays_12 : decode cX8_lays 12 = .ok (.iload_n 3, 1) := by decide +kernel
theorem dX8_lays_13 : decode cX8_lays 13 = .ok (.iload 4, 2) := by decide +kernel
theorem dX8_lays_15 : decode cX8_lays 15 = .ok (.iadd, 1) := by decide +kernel
theorem dX8_lays_16 : decode cX8_lays 16 = .ok (.aload_n 0, 1) := by decide +kernel
theorem dX8_lays_17 : decode cX8_lays 17 = .ok (.iload_n 1, 1) := by decide +kernel
theorem dX8_lays_18 : decode cX8_lays 18 = .ok (.iload 4, 2) := by decide +kernel
theorem dX8_lays_20 : decode cX8_lays 20 = .ok (.iadd, 1) := by decide +kernel
theorem dX8_lays_21 : decode cX8_lays 21 = .ok (.iaload, 1) := by decide +kernel
theorem dX8_lays_22 : decode cX8_lays 22 = .ok (.iastore, 1) := by decide +kernel
end
section
theorem dX8_lays_23 : decode cX8_lays 23 = .ok (.iinc 4 1, 3) := by decide +kernel
theorem dX8_lays_26 : decode cX8_lays 26 = .ok (.goto (-23), 3) := by decide +kernel
theorem dX8_lays_29 : decode cX8_lays 29 = .ok (.return_, 1) := by decide +kernel
theorem dX8_records_0 : decode cX8_records 0 = .ok (.aload_n 0, 1) := by decide +kernel
theorem dX8_records_1 : decode cX8_records 1 = .ok (.getfield 36, 3) := by decide +kernel
theorem dX8_records_4 : decode cX8_records 4 = .ok (.bipush 6, 2) := by decide +kernel
theorem dX8_records_6 : decode cX8_records 6 = .ok (.if_icmp .ne 44, 3) := by decide +kernel
theorem dX8_records_9 : decode cX8_records 9 = .ok (.iconst 0, 1) := by decide +kernel
theorem dX8_records_10 : decode cX8_records 10 = .ok (.istore_n 1, 1) := by decide +kernel
theorem dX8_records_11 : decode cX8_records 11 = .ok (.iload_n 1, 1) := by decide +kernel
theorem dX8_records_12 : decode cX8_records 12 = .ok (.sipush 7485, 3) := by decide +kernel
theorem dX8_records_15 : decode cX8_records 15 = .ok (.if_icmp .ge 25, 3) := by decide +kernel
theorem dX8_records_18 : decode cX8_records 18 = .ok (.aload_n 0, 1) := by decide +kernel
theorem dX8_records_19 : decode cX8_records 19 = .ok (.getfield 16, 3) := by decide +kernel
theorem dX8_records_22 : decode cX8_records 22 = .ok (.iload_n 1, 1) := by decide +kernel
theorem dX8_records_23 : decode cX8_records 23 = .ok (.aload_n 0, 1) := by decide +kernel
theorem dX8_records_24 : decode cX8_records 24 = .ok (.getfield 16, 3) := by decide +kernel
theorem dX8_records_27 : decode cX8_records 27 = .ok (.iload_n 1, 1) := by decide +kernel
theorem dX8_records_28 : decode cX8_records 28 = .ok (.sipush 1497, 3) := by decide +kernel
theorem dX8_records_31 : decode cX8_records 31 = .ok (.iadd, 1) := by decide +kernel
theorem dX8_records_32 : decode cX8_records 32 = .ok (.iaload, 1) := by decide +kernel
theorem dX8_records_33 : decode cX8_records 33 = .ok (.iastore, 1) := by decide +kernel
theorem dX8_records_34 : decode cX8_records 34 = .ok (.iinc 1 1, 3) := by decide +kernel
theorem dX8_records_37 : decode cX8_records 37 = .ok (.goto (-26), 3) := by decide +kernel
theorem dX8_records_40 : decode cX8_records 40 = .ok (.aload_n 0, 1) := by decide +kernel
theorem dX8_records_41 : decode cX8_records 41 = .ok (.dup, 1) := by decide +kernel
theorem dX8_records_42 : decode cX8_records 42 = .ok (.getfield 36, 3) := by decide +kernel
theorem dX8_records_45 : decode cX8_records 45 = .ok (.iconst 1, 1) := by decide +kernel
theorem dX8_records_46 : decode cX8_records 46 = .ok (.isub, 1) := by decide +kernel
theorem dX8_records_47 : decode cX8_records 47 = .ok (.putfield 36, 3) := by decide +kernel
theorem dX8_records_50 : decode cX8_records 50 = .ok (.aload_n 0, 1) := by decide +kernel
theorem dX8_records_51 : decode cX8_records 51 = .ok (.getfield 7, 3) := by decide +kernel
theorem dX8_records_54 : decode cX8_records 54 = .ok (.iconst 0, 1) := by decide +kernel
theorem dX8_records_55 : decode cX8_records 55 = .ok (.aload_n 0, 1) := by decide +kernel
theorem dX8_records_56 : decode cX8_records 56 = .ok (.getfield 16, 3) := by decide +kernel
theorem dX8_records_59 : decode cX8_records 59 = .ok (.sipush 1497, 3) := by decide +kernel
theorem dX8_records_62 : decode cX8_records 62 = .ok (.aload_n 0, 1) := by decide +kernel
theorem dX8_records_63 : decode cX8_records 63 = .ok (.getfield 36, 3) := by decide +kernel
theorem dX8_records_66 : decode cX8_records 66 = .ok (.imul, 1) := by decide +kernel
theorem dX8_records_67 : decode cX8_records 67 = .ok (.invokestatic 40, 3) := by decide +kernel
theorem dX8_records_70 : decode cX8_records 70 = .ok (.aload_n 0, 1) := by decide +kernel
theorem dX8_records_71 : decode cX8_records 71 = .ok (.dup, 1) := by decide +kernel
theorem dX8_records_72 : decode cX8_records 72 = .ok (.getfield 36, 3) := by decide +kernel
theorem dX8_records_75 : decode cX8_records 75 = .ok (.iconst 1, 1) := by decide +kernel
theorem dX8_records_76 : decode cX8_records 76 = .ok (.iadd, 1) := by decide +kernel
theorem dX8_records_77 : decode cX8_records 77 = .ok (.putfield 36, 3) := by decide +kernel
theorem dX8_records_80 : decode cX8_records 80 = .ok (.return_, 1) := by decide +kernel
theorem dX8_undo_0 : decode cX8_undo 0 = .ok (.aload_n 0, 1) := by decide +kernel
theorem dX8_undo_1 : decode cX8_undo 1 = .ok (.getfield 36, 3) := by decide +kernel
theorem dX8_undo_4 : decode cX8_undo 4 = .ok (.ifCond .ne 6, 3) := by decide +kernel
theorem dX8_undo_7 : decode cX8_undo 7 = .ok (.bipush (-5), 2) := by decide +kernel
theorem dX8_undo_9 : decode cX8_undo 9 = .ok (.ireturn, 1) := by decide +kernel
theorem dX8_undo_10 : decode cX8_undo 10 = .ok (.aload_n 0, 1) := by decide +kernel
theorem dX8_undo_11 : decode cX8_undo 11 = .ok (.dup, 1) := by decide +kernel
theorem dX8_undo_12 : decode cX8_undo 12 = .ok (.getfield 36, 3) := by decide +kernel
theorem dX8_undo_15 : decode cX8_undo 15 = .ok (.iconst 1, 1) := by decide +kernel
theorem dX8_undo_16 : decode cX8_undo 16 = .ok (.isub, 1) := by decide +kernel
theorem dX8_undo_17 : decode cX8_undo 17 = .ok (.putfield 36, 3) := by decide +kernel
theorem dX8_undo_20 : decode cX8_undo 20 = .ok (.aload_n 0, 1) := by decide +kernel
theorem dX8_undo_21 : decode cX8_undo 21 = .ok (.getfield 16, 3) := by decide +kernel
theorem dX8_undo_24 : decode cX8_undo 24 = .ok (.sipush 1497, 3) := by decide +kernel
theorem dX8_undo_27 : decode cX8_undo 27 = .ok (.aload_n 0, 1) := by decide +kernel
theorem dX8_undo_28 : decode cX8_undo 28 = .ok (.getfield 36, 3) := by decide +kernel
theorem dX8_undo_31 : decode cX8_undo 31 = .ok (.imul, 1) := by decide +kernel
theorem dX8_undo_32 : decode cX8_undo 32 = .ok (.aload_n 0, 1) := by decide +kernel
theorem dX8_undo_33 : decode cX8_undo 33 = .ok (.getfield 7, 3) := by decide +kernel
theorem dX8_undo_36 : decode cX8_undo 36 = .ok (.iconst 0, 1) := by decide +kernel
theorem dX8_undo_37 : decode cX8_undo 37 = .ok (.invokestatic 40, 3) := by decide +kernel
theorem dX8_undo_40 : decode cX8_undo 40 = .ok (.aload_n 0, 1) := by decide +kernel
theorem dX8_undo_41 : decode cX8_undo 41 = .ok (.getfield 36, 3) := by decide +kernel
theorem dX8_undo_44 : decode cX8_undo 44 = .ok (.ireturn, 1) := by decide +kernel
theorem dX8_save_0 : decode cX8_save 0 = .ok (.iload_n 1, 1) := by decide +kernel
theorem dX8_save_1 : decode cX8_save 1 = .ok (.iconst 0, 1) := by decide +kernel
theorem dX8_save_2 : decode cX8_save 2 = .ok (.iconst 1, 1) := by decide +kernel
theorem dX8_save_3 : decode cX8_save 3 = .ok (.invokestatic 32, 3) := by decide +kernel
theorem dX8_save_6 : decode cX8_save 6 = .ok (.ifCond .ne 6, 3) := by decide +kernel
theorem dX8_save_9 : decode cX8_save 9 = .ok (.bipush (-2), 2) := by decide +kernel
theorem dX8_save_11 : decode cX8_save 11 = .ok (.ireturn, 1) := by decide +kernel
theorem dX8_save_12 : decode cX8_save 12 = .ok (.aload_n 0, 1) := by decide +kernel
theorem dX8_save_13 : decode cX8_save 13 = .ok (.getfield 7, 3) := by decide +kernel
theorem dX8_save_16 : decode cX8_save 16 = .ok (.iconst 0, 1) := by decide +kernel
theorem dX8_save_17 : decode cX8_save 17 = .ok (.aload_n 0, 1) := by decide +kernel
theorem dX8_save_18 : decode cX8_save 18 = .ok (.getfield 19, 3) := by decide +kernel
theorem dX8_save_21 : decode cX8_save 21 = .ok (.sipush 1497, 3) := by decide +kernel
theorem dX8_save_24 : decode cX8_save 24 = .ok (.iload_n 1, 1) := by decide +kernel
theorem dX8_save_25 : decode cX8_save 25 = .ok (.imul, 1) := by decide +kernel
theorem dX8_save_26 : decode cX8_save 26 = .ok (.invokestatic 40, 3) := by decide +kernel
theorem dX8_save_29 : decode cX8_save 29 = .ok (.aload_n 0, 1) := by decide +kernel
theorem dX8_save_30 : decode cX8_save 30 = .ok (.getfield 22, 3) := by decide +kernel
theorem dX8_save_33 : decode cX8_save 33 = .ok (.iload_n 1, 1) := by decide +kernel
theorem dX8_save_34 : decode cX8_save 34 = .ok (.iconst 1, 1) := by decide +kernel
theorem dX8_save_35 : decode cX8_save 35 = .ok (.bastore, 1) := by decide +kernel
theorem dX8_save_36 : decode cX8_save 36 = .ok (.aload_n 0, 1) := by decide +kernel
theorem dX8_save_37 : decode cX8_save 37 = .ok (.getfield 7, 3) := by decide +kernel
theorem dX8_save_40 : decode cX8_save 40 = .ok (.iconst 1, 1) := by decide +kernel
theorem dX8_save_41 : decode cX8_save 41 = .ok (.iaload, 1) := by decide +kernel
theorem dX8_save_42 : decode cX8_save 42 = .ok (.ireturn, 1) := by decide +kernel
theorem dX8_restore_0 : decode cX8_restore 0 = .ok (.iload_n 1, 1) := by decide +kernel
theorem dX8_restore_1 : decode cX8_restore 1 = .ok (.iconst 0, 1) := by decide +kernel
theorem dX8_restore_2 : decode cX8_restore 2 = .ok (.iconst 1, 1) := by decide +kernel
theorem dX8_restore_3 : decode cX8_restore 3 = .ok (.invokestatic 32, 3) := by decide +kernel
theorem dX8_restore_6 : decode cX8_restore 6 = .ok (.ifCond .ne 6, 3) := by decide +kernel
theorem dX8_restore_9 : decode cX8_restore 9 = .ok (.bipush (-2), 2) := by decide +kernel
theorem dX8_restore_11 : decode cX8_restore 11 = .ok (.ireturn, 1) := by decide +kernel
theorem dX8_restore_12 : decode cX8_restore 12 = .ok (.aload_n 0, 1) := by decide +kernel
theorem dX8_restore_13 : decode cX8_restore 13 = .ok (.getfield 22, 3) := by decide +kernel
theorem dX8_restore_16 : decode cX8_restore 16 = .ok (.iload_n 1, 1) := by decide +kernel
theorem dX8_restore_17 : decode cX8_restore 17 = .ok (.baload, 1) := by decide +kernel
theorem dX8_restore_18 : decode cX8_restore 18 = .ok (.ifCond .ne 6, 3) := by decide +kernel
theorem dX8_restore_21 : decode cX8_restore 21 = .ok (.bipush (-5), 2) := by decide +kernel
theorem dX8_restore_23 : decode cX8_restore 23 = .ok (.ireturn, 1) := by decide +kernel
theorem dX8_restore_24 : decode cX8_restore 24 = .ok (.aload_n 0, 1) := by decide +kernel
theorem dX8_restore_25 : decode cX8_restore 25 = .ok (.invokevirtual 44, 3) := by decide +kernel
theorem dX8_restore_28 : decode cX8_restore 28 = .ok (.aload_n 0, 1) := by decide +kernel
theorem dX8_restore_29 : decode cX8_restore 29 = .ok (.getfield 19, 3) := by decide +kernel
theorem dX8_restore_32 : decode cX8_restore 32 = .ok (.sipush 1497, 3) := by decide +kernel
theorem dX8_restore_35 : decode cX8_restore 35 = .ok (.iload_n 1, 1) := by decide +kernel
theorem dX8_restore_36 : decode cX8_restore 36 = .ok (.imul, 1) := by decide +kernel
theorem dX8_restore_37 : decode cX8_restore 37 = .ok (.aload_n 0, 1) := by decide +kernel
theorem dX8_restore_38 : decode cX8_restore 38 = .ok (.getfield 7, 3) := by decide +kernel
theorem dX8_restore_41 : decode cX8_restore 41 = .ok (.iconst 0, 1) := by decide +kernel
theorem dX8_restore_42 : decode cX8_restore 42 = .ok (.invokestatic 40, 3) := by decide +kernel
theorem dX8_restore_45 : decode cX8_restore 45 = .ok (.aload_n 0, 1) := by decide +kernel
theorem dX8_restore_46 : decode cX8_restore 46 = .ok (.getfield 7, 3) := by decide +kernel
theorem dX8_restore_49 : decode cX8_restore 49 = .ok (.iconst 1, 1) := by decide +kernel
theorem dX8_restore_50 : decode cX8_restore 50 = .ok (.iaload, 1) := by decide +kernel
theorem dX8_restore_51 : decode cX8_restore 51 = .ok (.ireturn, 1) := by decide +kernel
theorem dX8_how_0 : decode cX8_how 0 = .ok (.aload_n 0, 1) := by decide +kernel
theorem dX8_how_1 : decode cX8_how 1 = .ok (.iconst 0, 1) := by decide +kernel
theorem dX8_how_2 : decode cX8_how 2 = .ok (.iaload, 1) := by decide +kernel
theorem dX8_how_3 : decode cX8_how 3 = .ok (.aload_n 0, 1) := by decide +kernel
theorem dX8_how_4 : decode cX8_how 4 = .ok (.iload_n 1, 1) := by decide +kernel
theorem dX8_how_5 : decode cX8_how 5 = .ok (.iconst 3, 1) := by decide +kernel
theorem dX8_how_6 : decode cX8_how 6 = .ok (.invokestatic 47, 3) := by decide +kernel
theorem dX8_how_9 : decode cX8_how 9 = .ok (.if_icmp .ge 5, 3) := by decide +kernel
theorem dX8_how_12 : decode cX8_how 12 = .ok (.iconst 0, 1) := by decide +kernel
theorem dX8_how_13 : decode cX8_how 13 = .ok (.ireturn, 1) := by decide +kernel
theorem dX8_how_14 : decode cX8_how 14 = .ok (.aload_n 0, 1) := by decide +kernel
theorem dX8_how_15 : decode cX8_how 15 = .ok (.iload_n 1, 1) := by decide +kernel
theorem dX8_how_16 : decode cX8_how 16 = .ok (.iconst 4, 1) := by decide +kernel
theorem dX8_how_17 : decode cX8_how 17 = .ok (.invokestatic 47, 3) := by decide +kernel
theorem dX8_how_20 : decode cX8_how 20 = .ok (.ifCond .le 7, 3) := by decide +kernel
theorem dX8_how_23 : decode cX8_how 23 = .ok (.iconst 1, 1) := by decide +kernel
theorem dX8_how_24 : decode cX8_how 24 = .ok (.goto 18, 3) := by decide +kernel
theorem dX8_how_27 : decode cX8_how 27 = .ok (.aload_n 0, 1) := by decide +kernel
theorem dX8_how_28 : decode cX8_how 28 = .ok (.iload_n 1, 1) := by decide +kernel
theorem dX8_how_29 : decode cX8_how 29 = .ok (.bipush 7, 2) := by decide +kernel
theorem dX8_how_31 : decode cX8_how 31 = .ok (.invokestatic 47, 3) := by decide +kernel
theorem dX8_how_34 : decode cX8_how 34 = .ok (.ifCond .le 7, 3) := by decide +kernel
theorem dX8_how_37 : decode cX8_how 37 = .ok (.iconst 3, 1) := by decide +kernel
theorem dX8_how_38 : decode cX8_how 38 = .ok (.goto 4, 3) := by decide +kernel
theorem dX8_how_41 : decode cX8_how 41 = .ok (.iconst 2, 1) := by decide +kernel
theorem dX8_how_42 : decode cX8_how 42 = .ok (.ireturn, 1) := by decide +kernel
theorem dX8_purity_0 : decode cX8_purity 0 = .ok (.aload_n 0, 1) := by decide +kernel
theorem dX8_purity_1 : decode cX8_purity 1 = .ok (.iconst 0, 1) := by decide +kernel
theorem dX8_purity_2 : decode cX8_purity 2 = .ok (.iaload, 1) := by decide +kernel
theorem dX8_purity_3 : decode cX8_purity 3 = .ok (.aload_n 0, 1) := by decide +kernel
theorem dX8_purity_4 : decode cX8_purity 4 = .ok (.iload_n 1, 1) := by decide +kernel
theorem dX8_purity_5 : decode cX8_purity 5 = .ok (.iconst 3, 1) := by decide +kernel
theorem dX8_purity_6 : decode cX8_purity 6 = .ok (.invokestatic 47, 3) := by decide +kernel
theorem dX8_purity_9 : decode cX8_purity 9 = .ok (.isub, 1) := by decide +kernel
theorem dX8_purity_10 : decode cX8_purity 10 = .ok (.istore_n 2, 1) := by decide +kernel
theorem dX8_purity_11 : decode cX8_purity 11 = .ok (.aload_n 0, 1) := by decide +kernel
theorem dX8_purity_12 : decode cX8_purity 12 = .ok (.iload_n 1, 1) := by decide +kernel
theorem dX8_purity_13 : decode cX8_purity 13 = .ok (.iconst 2, 1) := by decide +kernel
theorem dX8_purity_14 : decode cX8_purity 14 = .ok (.invokestatic 47, 3) := by decide +kernel
theorem dX8_purity_17 : decode cX8_purity 17 = .ok (.iload_n 2, 1) := by decide +kernel
theorem dX8_purity_18 : decode cX8_purity 18 = .ok (.ifCond .le 12, 3) := by decide +kernel
theorem dX8_purity_21 : decode cX8_purity 21 = .ok (.aload_n 0, 1) := by decide +kernel
theorem dX8_purity_22 : decode cX8_purity 22 = .ok (.bipush 7, 2) := by decide +kernel
theorem dX8_purity_24 : decode cX8_purity 24 = .ok (.iaload, 1) := by decide +kernel
theorem dX8_purity_25 : decode cX8_purity 25 = .ok (.iload_n 2, 1) := by decide +kernel
theorem dX8_purity_26 : decode cX8_purity 26 = .ok (.imul, 1) := by decide +kernel
theorem dX8_purity_27 : decode cX8_purity 27 = .ok (.goto 4, 3) := by decide +kernel
theorem dX8_purity_30 : decode cX8_purity 30 = .ok (.iconst 0, 1) := by decide +kernel
theorem dX8_purity_31 : decode cX8_purity 31 = .ok (.isub, 1) := by decide +kernel
theorem dX8_purity_32 : decode cX8_purity 32 = .ok (.istore_n 3, 1) := by decide +kernel
theorem dX8_purity_33 : decode cX8_purity 33 = .ok (.iload_n 3, 1) := by decide +kernel
theorem dX8_purity_34 : decode cX8_purity 34 = .ok (.ifCond .le 7, 3) := by decide +kernel
theorem dX8_purity_37 : decode cX8_purity 37 = .ok (.iload_n 3, 1) := by decide +kernel
theorem dX8_purity_38 : decode cX8_purity 38 = .ok (.goto 4, 3) := by decide +kernel
theorem dX8_purity_41 : decode cX8_purity 41 = .ok (.iconst 0, 1) := by decide +kernel
theorem dX8_purity_42 : decode cX8_purity 42 = .ok (.ireturn, 1) := by decide +kernel
theorem dX8_inYard_0 : decode cX8_inYard 0 = .ok (.iconst 0, 1) := by decide +kernel
theorem dX8_inYard_1 : decode cX8_inYard 1 = .ok (.istore_n 1, 1) := by decide +kernel
theorem dX8_inYard_2 : decode cX8_inYard 2 = .ok (.iconst 0, 1) := by decide +kernel
theorem dX8_inYard_3 : decode cX8_inYard 3 = .ok (.istore_n 2, 1) := by decide +kernel
theorem dX8_inYard_4 : decode cX8_inYard 4 = .ok (.iload_n 2, 1) := by decide +kernel
theorem dX8_inYard_5 : decode cX8_inYard 5 = .ok (.aload_n 0, 1) := by decide +kernel
theorem dX8_inYard_6 : decode cX8_inYard 6 = .ok (.sipush 296, 3) := by decide +kernel
theorem dX8_inYard_9 : decode cX8_inYard 9 = .ok (.iaload, 1) := by decide +kernel
theorem dX8_inYard_10 : decode cX8_inYard 10 = .ok (.if_icmp .ge 23, 3) := by decide +kernel
theorem dX8_inYard_13 : decode cX8_inYard 13 = .ok (.iload_n 1, 1) := by decide +kernel
theorem dX8_inYard_14 : decode cX8_inYard 14 = .ok (.aload_n 0, 1) := by decide +kernel
theorem dX8_inYard_15 : decode cX8_inYard 15 = .ok (.sipush 297, 3) := by decide +kernel
theorem dX8_inYard_18 : decode cX8_inYard 18 = .ok (.iconst 3, 1) := by decide +kernel
theorem dX8_inYard_19 : decode cX8_inYard 19 = .ok (.iload_n 2, 1) := by decide +kernel
theorem dX8_inYard_20 : decode cX8_inYard 20 = .ok (.imul, 1) := by decide +kernel
theorem dX8_inYard_21 : decode cX8_inYard 21 = .ok (.iadd, 1) := by decide +kernel
theorem dX8_inYard_22 : decode cX8_inYard 22 = .ok (.iconst 1, 1) := by decide +kernel
theorem dX8_inYard_23 : decode cX8_inYard 23 = .ok (.iadd, 1) := by decide +kernel
theorem dX8_inYard_24 : decode cX8_inYard 24 = .ok (.iaload, 1) := by decide +kernel
theorem dX8_inYard_25 : decode cX8_inYard 25 = .ok (.iadd, 1) := by decide +kernel
theorem dX8_inYard_26 : decode cX8_inYard 26 = .ok (.istore_n 1, 1) := by decide +kernel
theorem dX8_inYard_27 : decode cX8_inYard 27 = .ok (.iinc 2 1, 3) := by decide +kernel
theorem dX8_inYard_30 : decode cX8_inYard 30 = .ok (.goto (-26), 3) := by decide +kernel
theorem dX8_inYard_33 : decode cX8_inYard 33 = .ok (.iload_n 1, 1) := by decide +kernel
theorem dX8_inYard_34 : decode cX8_inYard 34 = .ok (.ireturn, 1) := by decide +kernel
theorem dX8_loses_0 : decode cX8_loses 0 = .ok (.iconst 0, 1) := by decide +kernel
theorem dX8_loses_1 : decode cX8_loses 1 = .ok (.istore_n 1, 1) := by decide +kernel
theorem dX8_loses_2 : decode cX8_loses 2 = .ok (.iload_n 1, 1) := by decide +kernel
theorem dX8_loses_3 : decode cX8_loses 3 = .ok (.aload_n 0, 1) := by decide +kernel
theorem dX8_loses_4 : decode cX8_loses 4 = .ok (.iconst 1, 1) := by decide +kernel
theorem dX8_loses_5 : decode cX8_loses 5 = .ok (.iaload, 1) := by decide +kernel
theorem dX8_loses_6 : decode cX8_loses 6 = .ok (.if_icmp .ge 97, 3) := by decide +kernel
theorem dX8_loses_9 : decode cX8_loses 9 = .ok (.aload_n 0, 1) := by decide +kernel
theorem dX8_loses_10 : decode cX8_loses 10 = .ok (.iload_n 1, 1) := by decide +kernel
theorem dX8_loses_11 : decode cX8_loses 11 = .ok (.invokestatic 51, 3) := by decide +kernel
theorem dX8_loses_14 : decode cX8_loses 14 = .ok (.iconst 1, 1) := by decide +kernel
theorem dX8_loses_15 : decode cX8_loses 15 = .ok (.if_icmp .ne 82, 3) := by decide +kernel
theorem dX8_loses_18 : decode cX8_loses 18 = .ok (.aload_n 0, 1) := by decide +kernel
theorem dX8_loses_19 : decode cX8_loses 19 = .ok (.iconst 0, 1) := by decide +kernel
theorem dX8_loses_20 : decode cX8_loses 20 = .ok (.iaload, 1) := by decide +kernel
theorem dX8_loses_21 : decode cX8_loses 21 = .ok (.aload_n 0, 1) := by decide +kernel
theorem dX8_loses_22 : decode cX8_loses 22 = .ok (.iload_n 1, 1) := by decide +kernel
theorem dX8_loses_23 : decode cX8_loses 23 = .ok (.iconst 3, 1) := by decide +kernel
theorem dX8_loses_24 : decode cX8_loses 24 = .ok (.invokestatic 47, 3) := by decide +kernel
theorem dX8_loses_27 : decode cX8_loses 27 = .ok (.isub, 1) := by decide +kernel
theorem dX8_loses_28 : decode cX8_loses 28 = .ok (.aload_n 0, 1) := by decide +kernel
theorem dX8_loses_29 : decode cX8_loses 29 = .ok (.bipush 8, 2) := by decide +kernel
theorem dX8_loses_31 : decode cX8_loses 31 = .ok (.iaload, 1) := by decide +kernel
theorem dX8_loses_32 : decode cX8_loses 32 = .ok (.if_icmp .le 65, 3) := by decide +kernel
theorem dX8_loses_35 : decode cX8_loses 35 = .ok (.aload_n 0, 1) := by decide +kernel
theorem dX8_loses_36 : decode cX8_loses 36 = .ok (.iload_n 1, 1) := by decide +kernel
theorem dX8_loses_37 : decode cX8_loses 37 = .ok (.iconst 4, 1) := by decide +kernel
theorem dX8_loses_38 : decode cX8_loses 38 = .ok (.invokestatic 47, 3) := by decide +kernel
theorem dX8_loses_41 : decode cX8_loses 41 = .ok (.istore_n 2, 1) := by decide +kernel
theorem dX8_loses_42 : decode cX8_loses 42 = .ok (.aload_n 0, 1) := by decide +kernel
theorem dX8_loses_43 : decode cX8_loses 43 = .ok (.bipush 56, 2) := by decide +kernel
theorem dX8_loses_45 : decode cX8_loses 45 = .ok (.bipush 8, 2) := by decide +kernel
theorem dX8_loses_47 : decode cX8_loses 47 = .ok (.iload_n 1, 1) := by decide +kernel
theorem dX8_loses_48 : decode cX8_loses 48 = .ok (.imul, 1) := by decide +kernel
theorem dX8_loses_49 : decode cX8_loses 49 = .ok (.iadd, 1) := by decide +kernel
theorem dX8_loses_50 : decode cX8_loses 50 = .ok (.iconst 4, 1) := by decide +kernel
theorem dX8_loses_51 : decode cX8_loses 51 = .ok (.iadd, 1) := by decide +kernel
theorem dX8_loses_52 : decode cX8_loses 52 = .ok (.iconst 0, 1) := by decide +kernel
theorem dX8_loses_53 : decode cX8_loses 53 = .ok (.iastore, 1) := by decide +kernel
theorem dX8_loses_54 : decode cX8_loses 54 = .ok (.aload_n 0, 1) := by decide +kernel
theorem dX8_loses_55 : decode cX8_loses 55 = .ok (.bipush 56, 2) := by decide +kernel
theorem dX8_loses_57 : decode cX8_loses 57 = .ok (.bipush 8, 2) := by decide +kernel
theorem dX8_loses_59 : decode cX8_loses 59 = .ok (.iload_n 1, 1) := by decide +kernel
theorem dX8_loses_60 : decode cX8_loses 60 = .ok (.imul, 1) := by decide +kernel
theorem dX8_loses_61 : decode cX8_loses 61 = .ok (.iadd, 1) := by decide +kernel
theorem dX8_loses_62 : decode cX8_loses 62 = .ok (.bipush 7, 2) := by decide +kernel
theorem dX8_loses_64 : decode cX8_loses 64 = .ok (.iadd, 1) := by decide +kernel
theorem dX8_loses_65 : decode cX8_loses 65 = .ok (.dup2, 1) := by decide +kernel
theorem dX8_loses_66 : decode cX8_loses 66 = .ok (.iaload, 1) := by decide +kernel
theorem dX8_loses_67 : decode cX8_loses 67 = .ok (.iload_n 2, 1) := by decide +kernel
theorem dX8_loses_68 : decode cX8_loses 68 = .ok (.iadd, 1) := by decide +kernel
theorem dX8_loses_69 : decode cX8_loses 69 = .ok (.iastore, 1) := by decide +kernel
theorem dX8_loses_70 : decode cX8_loses 70 = .ok (.aload_n 0, 1) := by decide +kernel
theorem dX8_loses_71 : decode cX8_loses 71 = .ok (.bipush 28, 2) := by decide +kernel
theorem dX8_loses_73 : decode cX8_loses 73 = .ok (.dup2, 1) := by decide +kernel
theorem dX8_loses_74 : decode cX8_loses 74 = .ok (.iaload, 1) := by decide +kernel
theorem dX8_loses_75 : decode cX8_loses 75 = .ok (.iload_n 2, 1) := by decide +kernel
theorem dX8_loses_76 : decode cX8_loses 76 = .ok (.iadd, 1) := by decide +kernel
theorem dX8_loses_77 : decode cX8_loses 77 = .ok (.iastore, 1) := by decide +kernel
theorem dX8_loses_78 : decode cX8_loses 78 = .ok (.aload_n 0, 1) := by decide +kernel
theorem dX8_loses_79 : decode cX8_loses 79 = .ok (.bipush 32, 2) := by decide +kernel
theorem dX8_loses_81 : decode cX8_loses 81 = .ok (.iconst 4, 1) := by decide +kernel
theorem dX8_loses_82 : decode cX8_loses 82 = .ok (.aload_n 0, 1) := by decide +kernel
theorem dX8_loses_83 : decode cX8_loses 83 = .ok (.iload_n 1, 1) := by decide +kernel
theorem dX8_loses_84 : decode cX8_loses 84 = .ok (.iconst 0, 1) := by decide +kernel
theorem dX8_loses_85 : decode cX8_loses 85 = .ok (.invokestatic 47, 3) := by decide +kernel
theorem dX8_loses_88 : decode cX8_loses 88 = .ok (.imul, 1) := by decide +kernel
theorem dX8_loses_89 : decode cX8_loses 89 = .ok (.iadd, 1) := by decide +kernel
theorem dX8_loses_90 : decode cX8_loses 90 = .ok (.iconst 2, 1) := by decide +kernel
theorem dX8_loses_91 : decode cX8_loses 91 = .ok (.iadd, 1) := by decide +kernel
theorem dX8_loses_92 : decode cX8_loses 92 = .ok (.dup2, 1) := by decide +kernel
theorem dX8_loses_93 : decode cX8_loses 93 = .ok (.iaload, 1) := by decide +kernel
theorem dX8_loses_94 : decode cX8_loses 94 = .ok (.iload_n 2, 1) := by decide +kernel
theorem dX8_loses_95 : decode cX8_loses 95 = .ok (.iadd, 1) := by decide +kernel
theorem dX8_loses_96 : decode cX8_loses 96 = .ok (.iastore, 1) := by decide +kernel
theorem dX8_loses_97 : decode cX8_loses 97 = .ok (.iinc 1 1, 3) := by decide +kernel
theorem dX8_loses_100 : decode cX8_loses 100 = .ok (.goto (-98), 3) := by decide +kernel
theorem dX8_loses_103 : decode cX8_loses 103 = .ok (.return_, 1) := by decide +kernel
theorem dX8_isAhead_0 : decode cX8_isAhead 0 = .ok (.aload_n 0, 1) := by decide +kernel
theorem dX8_isAhead_1 : decode cX8_isAhead 1 = .ok (.iload_n 1, 1) := by decide +kernel
theorem dX8_isAhead_2 : decode cX8_isAhead 2 = .ok (.iconst 3, 1) := by decide +kernel
theorem dX8_isAhead_3 : decode cX8_isAhead 3 = .ok (.invokestatic 47, 3) := by decide +kernel
theorem dX8_isAhead_6 : decode cX8_isAhead 6 = .ok (.aload_n 0, 1) := by decide +kernel
theorem dX8_isAhead_7 : decode cX8_isAhead 7 = .ok (.iload_n 2, 1) := by decide +kernel
theorem dX8_isAhead_8 : decode cX8_isAhead 8 = .ok (.iconst 3, 1) := by decide +kernel
theorem dX8_isAhead_9 : decode cX8_isAhead 9 = .ok (.invokestatic 47, 3) := by decide +kernel
theorem dX8_isAhead_12 : decode cX8_isAhead 12 = .ok (.isub, 1) := by decide +kernel
theorem dX8_isAhead_13 : decode cX8_isAhead 13 = .ok (.istore_n 3, 1) := by decide +kernel
theorem dX8_isAhead_14 : decode cX8_isAhead 14 = .ok (.iload_n 3, 1) := by decide +kernel
theorem dX8_isAhead_15 : decode cX8_isAhead 15 = .ok (.ifCond .lt 32, 3) := by decide +kernel
theorem dX8_isAhead_18 : decode cX8_isAhead 18 = .ok (.iload_n 3, 1) := by decide +kernel
theorem dX8_isAhead_19 : decode cX8_isAhead 19 = .ok (.ifCond .ne 32, 3) := by decide +kernel
theorem dX8_isAhead_22 : decode cX8_isAhead 22 = .ok (.aload_n 0, 1) := by decide +kernel
theorem dX8_isAhead_23 : decode cX8_isAhead 23 = .ok (.bipush 10, 2) := by decide +kernel
theorem dX8_isAhead_25 : decode cX8_isAhead 25 = .ok (.aload_n 0, 1) := by decide +kernel
theorem dX8_isAhead_26 : decode cX8_isAhead 26 = .ok (.iload_n 1, 1) := by decide +kernel
theorem dX8_isAhead_27 : decode cX8_isAhead 27 = .ok (.iconst 0, 1) := by decide +kernel
theorem dX8_isAhead_28 : decode cX8_isAhead 28 = .ok (.invokestatic 47, 3) := by decide +kernel
theorem dX8_isAhead_31 : decode cX8_isAhead 31 = .ok (.iadd, 1) := by decide +kernel
theorem dX8_isAhead_32 : decode cX8_isAhead 32 = .ok (.iaload, 1) := by decide +kernel
theorem dX8_isAhead_33 : decode cX8_isAhead 33 = .ok (.aload_n 0, 1) := by decide +kernel
theorem dX8_isAhead_34 : decode cX8_isAhead 34 = .ok (.bipush 10, 2) := by decide +kernel
theorem dX8_isAhead_36 : decode cX8_isAhead 36 = .ok (.aload_n 0, 1) := by decide +kernel
theorem dX8_isAhead_37 : decode cX8_isAhead 37 = .ok (.iload_n 2, 1) := by decide +kernel
theorem dX8_isAhead_38 : decode cX8_isAhead 38 = .ok (.iconst 0, 1) := by decide +kernel
theorem dX8_isAhead_39 : decode cX8_isAhead 39 = .ok (.invokestatic 47, 3) := by decide +kernel
theorem dX8_isAhead_42 : decode cX8_isAhead 42 = .ok (.iadd, 1) := by decide +kernel
theorem dX8_isAhead_43 : decode cX8_isAhead 43 = .ok (.iaload, 1) := by decide +kernel
theorem dX8_isAhead_44 : decode cX8_isAhead 44 = .ok (.if_icmp .le 7, 3) := by decide +kernel
theorem dX8_isAhead_47 : decode cX8_isAhead 47 = .ok (.iconst 1, 1) := by decide +kernel
theorem dX8_isAhead_48 : decode cX8_isAhead 48 = .ok (.goto 4, 3) := by decide +kernel
theorem dX8_isAhead_51 : decode cX8_isAhead 51 = .ok (.iconst 0, 1) := by decide +kernel
theorem dX8_isAhead_52 : decode cX8_isAhead 52 = .ok (.ireturn, 1) := by decide +kernel
theorem dX8_nextField_0 : decode cX8_nextField 0 = .ok (.bipush (-6), 2) := by decide +kernel
theorem dX8_nextField_2 : decode cX8_nextField 2 = .ok (.istore_n 1, 1) := by decide +kernel
theorem dX8_nextField_3 : decode cX8_nextField 3 = .ok (.iconst 0, 1) := by decide +kernel
theorem dX8_nextField_4 : decode cX8_nextField 4 = .ok (.istore_n 2, 1) := by decide +kernel
theorem dX8_nextField_5 : decode cX8_nextField 5 = .ok (.iload_n 2, 1) := by decide +kernel
theorem dX8_nextField_6 : decode cX8_nextField 6 = .ok (.aload_n 0, 1) := by decide +kernel
theorem dX8_nextField_7 : decode cX8_nextField 7 = .ok (.iconst 1, 1) := by decide +kernel
theorem dX8_nextField_8 : decode cX8_nextField 8 = .ok (.iaload, 1) := by decide +kernel
theorem dX8_nextField_9 : decode cX8_nextField 9 = .ok (.if_icmp .ge 63, 3) := by decide +kernel
theorem dX8_nextField_12 : decode cX8_nextField 12 = .ok (.aload_n 0, 1) := by decide +kernel
theorem dX8_nextField_13 : decode cX8_nextField 13 = .ok (.iload_n 2, 1) := by decide +kernel
theorem dX8_nextField_14 : decode cX8_nextField 14 = .ok (.invokestatic 51, 3) := by decide +kernel
theorem dX8_nextField_17 : decode cX8_nextField 17 = .ok (.iconst 1, 1) := by decide +kernel
theorem dX8_nextField_18 : decode cX8_nextField 18 = .ok (.if_icmp .ne 21, 3) := by decide +kernel
theorem dX8_nextField_21 : decode cX8_nextField 21 = .ok (.aload_n 0, 1) := by decide +kernel
theorem dX8_nextField_22 : decode cX8_nextField 22 = .ok (.bipush 10, 2) := by decide +kernel
theorem dX8_nextField_24 : decode cX8_nextField 24 = .ok (.aload_n 0, 1) := by decide +kernel
theorem dX8_nextField_25 : decode cX8_nextField 25 = .ok (.iload_n 2, 1) := by decide +kernel
theorem dX8_nextField_26 : decode cX8_nextField 26 = .ok (.iconst 0, 1) := by decide +kernel
theorem dX8_nextField_27 : decode cX8_nextField 27 = .ok (.invokestatic 47, 3) := by decide +kernel
theorem dX8_nextField_30 : decode cX8_nextField 30 = .ok (.iadd, 1) := by decide +kernel
theorem dX8_nextField_31 : decode cX8_nextField 31 = .ok (.iaload, 1) := by decide +kernel
theorem dX8_nextField_32 : decode cX8_nextField 32 = .ok (.ifCond .le 7, 3) := by decide +kernel
theorem dX8_nextField_35 : decode cX8_nextField 35 = .ok (.iconst 1, 1) := by decide +kernel
theorem dX8_nextField_36 : decode cX8_nextField 36 = .ok (.goto 4, 3) := by decide +kernel
theorem dX8_nextField_39 : decode cX8_nextField 39 = .ok (.iconst 0, 1) := by decide +kernel
theorem dX8_nextField_40 : decode cX8_nextField 40 = .ok (.istore_n 3, 1) := by decide +kernel
theorem dX8_nextField_41 : decode cX8_nextField 41 = .ok (.iload_n 3, 1) := by decide +kernel
theorem dX8_nextField_42 : decode cX8_nextField 42 = .ok (.ifCond .eq 22, 3) := by decide +kernel
theorem dX8_nextField_45 : decode cX8_nextField 45 = .ok (.iload_n 1, 1) := by decide +kernel
theorem dX8_nextField_46 : decode cX8_nextField 46 = .ok (.bipush (-6), 2) := by decide +kernel
theorem dX8_nextField_48 : decode cX8_nextField 48 = .ok (.if_icmp .eq 12, 3) := by decide +kernel
theorem dX8_nextField_51 : decode cX8_nextField 51 = .ok (.aload_n 0, 1) := by decide +kernel
theorem dX8_nextField_52 : decode cX8_nextField 52 = .ok (.iload_n 2, 1) := by decide +kernel
theorem dX8_nextField_53 : decode cX8_nextField 53 = .ok (.iload_n 1, 1) := by decide +kernel
theorem dX8_nextField_54 : decode cX8_nextField 54 = .ok (.invokestatic 55, 3) := by decide +kernel
theorem dX8_nextField_57 : decode cX8_nextField 57 = .ok (.ifCond .eq 7, 3) := by decide +kernel
theorem dX8_nextField_60 : decode cX8_nextField 60 = .ok (.iload_n 2, 1) := by decide +kernel
theorem dX8_nextField_61 : decode cX8_nextField 61 = .ok (.goto 4, 3) := by decide +kernel
theorem dX8_nextField_64 : decode cX8_nextField 64 = .ok (.iload_n 1, 1) := by decide +kernel
theorem dX8_nextField_65 : decode cX8_nextField 65 = .ok (.istore_n 1, 1) := by decide +kernel
theorem dX8_nextField_66 : decode cX8_nextField 66 = .ok (.iinc 2 1, 3) := by decide +kernel
theorem dX8_nextField_69 : decode cX8_nextField 69 = .ok (.goto (-64), 3) := by decide +kernel
theorem dX8_nextField_72 : decode cX8_nextField 72 = .ok (.aload_n 0, 1) := by decide +kernel
theorem dX8_nextField_73 : decode cX8_nextField 73 = .ok (.invokestatic 59, 3) := by decide +kernel
theorem dX8_nextField_76 : decode cX8_nextField 76 = .ok (.aload_n 0, 1) := by decide +kernel
theorem dX8_nextField_77 : decode cX8_nextField 77 = .ok (.bipush 6, 2) := by decide +kernel
theorem dX8_nextField_79 : decode cX8_nextField 79 = .ok (.iaload, 1) := by decide +kernel
theorem dX8_nextField_80 : decode cX8_nextField 80 = .ok (.if_icmp .ge 7, 3) := by decide +kernel
theorem dX8_nextField_83 : decode cX8_nextField 83 = .ok (.iload_n 1, 1) := by decide +kernel
theorem dX8_nextField_84 : decode cX8_nextField 84 = .ok (.goto 5, 3) := by decide +kernel
theorem dX8_nextField_87 : decode cX8_nextField 87 = .ok (.bipush (-6), 2) := by decide +kernel
theorem dX8_nextField_89 : decode cX8_nextField 89 = .ok (.ireturn, 1) := by decide +kernel
theorem dX8_least_0 : decode cX8_least 0 = .ok (.iload_n 0, 1) := by decide +kernel
theorem dX8_least_1 : decode cX8_least 1 = .ok (.iload_n 1, 1) := by decide +kernel
theorem dX8_least_2 : decode cX8_least 2 = .ok (.if_icmp .ge 7, 3) := by decide +kernel
theorem dX8_least_5 : decode cX8_least 5 = .ok (.iload_n 0, 1) := by decide +kernel
theorem dX8_least_6 : decode cX8_least 6 = .ok (.goto 4, 3) := by decide +kernel
theorem dX8_least_9 : decode cX8_least 9 = .ok (.iload_n 1, 1) := by decide +kernel
theorem dX8_least_10 : decode cX8_least 10 = .ok (.ireturn, 1) := by decide +kernel
theorem dX8_brings_0 : decode cX8_brings 0 = .ok (.aload_n 0, 1) := by decide +kernel
theorem dX8_brings_1 : decode cX8_brings 1 = .ok (.iload_n 1, 1) := by decide +kernel
theorem dX8_brings_2 : decode cX8_brings 2 = .ok (.iconst 0, 1) := by decide +kernel
theorem dX8_brings_3 : decode cX8_brings 3 = .ok (.invokestatic 47, 3) := by decide +kernel
theorem dX8_brings_6 : decode cX8_brings 6 = .ok (.istore_n 2, 1) := by decide +kernel
theorem dX8_brings_7 : decode cX8_brings 7 = .ok (.aload_n 0, 1) := by decide +kernel
theorem dX8_brings_8 : decode cX8_brings 8 = .ok (.iconst 4, 1) := by decide +kernel
theorem dX8_brings_9 : decode cX8_brings 9 = .ok (.iaload, 1) := by decide +kernel
theorem dX8_brings_10 : decode cX8_brings 10 = .ok (.aload_n 0, 1) := by decide +kernel
theorem dX8_brings_11 : decode cX8_brings 11 = .ok (.iload_n 1, 1) := by decide +kernel
theorem dX8_brings_12 : decode cX8_brings 12 = .ok (.iconst 4, 1) := by decide +kernel
theorem dX8_brings_13 : decode cX8_brings 13 = .ok (.invokestatic 47, 3) := by decide +kernel
theorem dX8_brings_16 : decode cX8_brings 16 = .ok (.invokestatic 63, 3) := by decide +kernel
theorem dX8_brings_19 : decode cX8_brings 19 = .ok (.aload_n 0, 1) := by decide +kernel
theorem dX8_brings_20 : decode cX8_brings 20 = .ok (.bipush 10, 2) := by decide +kernel
theorem dX8_brings_22 : decode cX8_brings 22 = .ok (.iload_n 2, 1) := by decide +kernel
theorem dX8_brings_23 : decode cX8_brings 23 = .ok (.iadd, 1) := by decide +kernel
theorem dX8_brings_24 : decode cX8_brings 24 = .ok (.iaload, 1) := by decide +kernel
theorem dX8_brings_25 : decode cX8_brings 25 = .ok (.aload_n 0, 1) := by decide +kernel
theorem dX8_brings_26 : decode cX8_brings 26 = .ok (.bipush 6, 2) := by decide +kernel
theorem dX8_brings_28 : decode cX8_brings 28 = .ok (.iaload, 1) := by decide +kernel
theorem dX8_brings_29 : decode cX8_brings 29 = .ok (.aload_n 0, 1) := by decide +kernel
theorem dX8_brings_30 : decode cX8_brings 30 = .ok (.invokestatic 59, 3) := by decide +kernel
theorem dX8_brings_33 : decode cX8_brings 33 = .ok (.isub, 1) := by decide +kernel
theorem dX8_brings_34 : decode cX8_brings 34 = .ok (.invokestatic 63, 3) := by decide +kernel
theorem dX8_brings_37 : decode cX8_brings 37 = .ok (.invokestatic 63, 3) := by decide +kernel
theorem dX8_brings_40 : decode cX8_brings 40 = .ok (.istore_n 3, 1) := by decide +kernel
theorem dX8_brings_41 : decode cX8_brings 41 = .ok (.aload_n 0, 1) := by decide +kernel
theorem dX8_brings_42 : decode cX8_brings 42 = .ok (.bipush 56, 2) := by decide +kernel
theorem dX8_brings_44 : decode cX8_brings 44 = .ok (.bipush 8, 2) := by decide +kernel
theorem dX8_brings_46 : decode cX8_brings 46 = .ok (.iload_n 1, 1) := by decide +kernel
theorem dX8_brings_47 : decode cX8_brings 47 = .ok (.imul, 1) := by decide +kernel
theorem dX8_brings_48 : decode cX8_brings 48 = .ok (.iadd, 1) := by decide +kernel
theorem dX8_brings_49 : decode cX8_brings 49 = .ok (.iconst 4, 1) := by decide +kernel
theorem dX8_brings_50 : decode cX8_brings 50 = .ok (.iadd, 1) := by decide +kernel
theorem dX8_brings_51 : decode cX8_brings 51 = .ok (.dup2, 1) := by decide +kernel
theorem dX8_brings_52 : decode cX8_brings 52 = .ok (.iaload, 1) := by decide +kernel
theorem dX8_brings_53 : decode cX8_brings 53 = .ok (.iload_n 3, 1) := by decide +kernel
theorem dX8_brings_54 : decode cX8_brings 54 = .ok (.isub, 1) := by decide +kernel
theorem dX8_brings_55 : decode cX8_brings 55 = .ok (.iastore, 1) := by decide +kernel
theorem dX8_brings_56 : decode cX8_brings 56 = .ok (.aload_n 0, 1) := by decide +kernel
theorem dX8_brings_57 : decode cX8_brings 57 = .ok (.bipush 56, 2) := by decide +kernel
theorem dX8_brings_59 : decode cX8_brings 59 = .ok (.bipush 8, 2) := by decide +kernel
theorem dX8_brings_61 : decode cX8_brings 61 = .ok (.iload_n 1, 1) := by decide +kernel
theorem dX8_brings_62 : decode cX8_brings 62 = .ok (.imul, 1) := by decide +kernel
theorem dX8_brings_63 : decode cX8_brings 63 = .ok (.iadd, 1) := by decide +kernel
theorem dX8_brings_64 : decode cX8_brings 64 = .ok (.iconst 5, 1) := by decide +kernel
theorem dX8_brings_65 : decode cX8_brings 65 = .ok (.iadd, 1) := by decide +kernel
theorem dX8_brings_66 : decode cX8_brings 66 = .ok (.dup2, 1) := by decide +kernel
theorem dX8_brings_67 : decode cX8_brings 67 = .ok (.iaload, 1) := by decide +kernel
theorem dX8_brings_68 : decode cX8_brings 68 = .ok (.iload_n 3, 1) := by decide +kernel
theorem dX8_brings_69 : decode cX8_brings 69 = .ok (.iadd, 1) := by decide +kernel
theorem dX8_brings_70 : decode cX8_brings 70 = .ok (.iastore, 1) := by decide +kernel
theorem dX8_brings_71 : decode cX8_brings 71 = .ok (.aload_n 0, 1) := by decide +kernel
theorem dX8_brings_72 : decode cX8_brings 72 = .ok (.bipush 10, 2) := by decide +kernel
theorem dX8_brings_74 : decode cX8_brings 74 = .ok (.iload_n 2, 1) := by decide +kernel
theorem dX8_brings_75 : decode cX8_brings 75 = .ok (.iadd, 1) := by decide +kernel
theorem dX8_brings_76 : decode cX8_brings 76 = .ok (.dup2, 1) := by decide +kernel
theorem dX8_brings_77 : decode cX8_brings 77 = .ok (.iaload, 1) := by decide +kernel
theorem dX8_brings_78 : decode cX8_brings 78 = .ok (.iload_n 3, 1) := by decide +kernel
theorem dX8_brings_79 : decode cX8_brings 79 = .ok (.isub, 1) := by decide +kernel
theorem dX8_brings_80 : decode cX8_brings 80 = .ok (.iastore, 1) := by decide +kernel
theorem dX8_brings_81 : decode cX8_brings 81 = .ok (.aload_n 0, 1) := by decide +kernel
theorem dX8_brings_82 : decode cX8_brings 82 = .ok (.bipush 32, 2) := by decide +kernel
theorem dX8_brings_84 : decode cX8_brings 84 = .ok (.iconst 4, 1) := by decide +kernel
theorem dX8_brings_85 : decode cX8_brings 85 = .ok (.iload_n 2, 1) := by decide +kernel
theorem dX8_brings_86 : decode cX8_brings 86 = .ok (.imul, 1) := by decide +kernel
theorem dX8_brings_87 : decode cX8_brings 87 = .ok (.iadd, 1) := by decide +kernel
theorem dX8_brings_88 : decode cX8_brings 88 = .ok (.dup2, 1) := by decide +kernel
theorem dX8_brings_89 : decode cX8_brings 89 = .ok (.iaload, 1) := by decide +kernel
theorem dX8_brings_90 : decode cX8_brings 90 = .ok (.iload_n 3, 1) := by decide +kernel
theorem dX8_brings_91 : decode cX8_brings 91 = .ok (.iadd, 1) := by decide +kernel
theorem dX8_brings_92 : decode cX8_brings 92 = .ok (.iastore, 1) := by decide +kernel
theorem dX8_brings_93 : decode cX8_brings 93 = .ok (.sipush 297, 3) := by decide +kernel
theorem dX8_brings_96 : decode cX8_brings 96 = .ok (.iconst 3, 1) := by decide +kernel
theorem dX8_brings_97 : decode cX8_brings 97 = .ok (.aload_n 0, 1) := by decide +kernel
theorem dX8_brings_98 : decode cX8_brings 98 = .ok (.sipush 296, 3) := by decide +kernel
theorem dX8_brings_101 : decode cX8_brings 101 = .ok (.iaload, 1) := by decide +kernel
theorem dX8_brings_102 : decode cX8_brings 102 = .ok (.imul, 1) := by decide +kernel
theorem dX8_brings_103 : decode cX8_brings 103 = .ok (.iadd, 1) := by decide +kernel
theorem dX8_brings_104 : decode cX8_brings 104 = .ok (.istore 4, 2) := by decide +kernel
theorem dX8_brings_106 : decode cX8_brings 106 = .ok (.aload_n 0, 1) := by decide +kernel
theorem dX8_brings_107 : decode cX8_brings 107 = .ok (.iload 4, 2) := by decide +kernel
theorem dX8_brings_109 : decode cX8_brings 109 = .ok (.iload_n 1, 1) := by decide +kernel
theorem dX8_brings_110 : decode cX8_brings 110 = .ok (.iastore, 1) := by decide +kernel
theorem dX8_brings_111 : decode cX8_brings 111 = .ok (.aload_n 0, 1) := by decide +kernel
theorem dX8_brings_112 : decode cX8_brings 112 = .ok (.iload 4, 2) := by decide +kernel
theorem dX8_brings_114 : decode cX8_brings 114 = .ok (.iconst 1, 1) := by decide +kernel
theorem dX8_brings_115 : decode cX8_brings 115 = .ok (.iadd, 1) := by decide +kernel
theorem dX8_brings_116 : decode cX8_brings 116 = .ok (.iload_n 3, 1) := by decide +kernel
theorem dX8_brings_117 : decode cX8_brings 117 = .ok (.iastore, 1) := by decide +kernel
theorem dX8_brings_118 : decode cX8_brings 118 = .ok (.aload_n 0, 1) := by decide +kernel
theorem dX8_brings_119 : decode cX8_brings 119 = .ok (.iload 4, 2) := by decide +kernel
theorem dX8_brings_121 : decode cX8_brings 121 = .ok (.iconst 2, 1) := by decide +kernel
theorem dX8_brings_122 : decode cX8_brings 122 = .ok (.iadd, 1) := by decide +kernel
theorem dX8_brings_123 : decode cX8_brings 123 = .ok (.aload_n 0, 1) := by decide +kernel
theorem dX8_brings_124 : decode cX8_brings 124 = .ok (.iconst 0, 1) := by decide +kernel
theorem dX8_brings_125 : decode cX8_brings 125 = .ok (.iaload, 1) := by decide +kernel
theorem dX8_brings_126 : decode cX8_brings 126 = .ok (.iastore, 1) := by decide +kernel
theorem dX8_brings_127 : decode cX8_brings 127 = .ok (.aload_n 0, 1) := by decide +kernel
theorem dX8_brings_128 : decode cX8_brings 128 = .ok (.sipush 296, 3) := by decide +kernel
theorem dX8_brings_131 : decode cX8_brings 131 = .ok (.dup2, 1) := by decide +kernel
theorem dX8_brings_132 : decode cX8_brings 132 = .ok (.iaload, 1) := by decide +kernel
theorem dX8_brings_133 : decode cX8_brings 133 = .ok (.iconst 1, 1) := by decide +kernel
theorem dX8_brings_134 : decode cX8_brings 134 = .ok (.iadd, 1) := by decide +kernel
theorem dX8_brings_135 : decode cX8_brings 135 = .ok (.iastore, 1) := by decide +kernel
theorem dX8_brings_136 : decode cX8_brings 136 = .ok (.aload_n 0, 1) := by decide +kernel
theorem dX8_brings_137 : decode cX8_brings 137 = .ok (.bipush 30, 2) := by decide +kernel
theorem dX8_brings_139 : decode cX8_brings 139 = .ok (.dup2, 1) := by decide +kernel
theorem dX8_brings_140 : decode cX8_brings 140 = .ok (.iaload, 1) := by decide +kernel
theorem dX8_brings_141 : decode cX8_brings 141 = .ok (.iconst 1, 1) := by decide +kernel
theorem dX8_brings_142 : decode cX8_brings 142 = .ok (.iadd, 1) := by decide +kernel
theorem dX8_brings_143 : decode cX8_brings 143 = .ok (.iastore, 1) := by decide +kernel
theorem dX8_brings_144 : decode cX8_brings 144 = .ok (.return_, 1) := by decide +kernel
theorem dX8_crushes_0 : decode cX8_crushes 0 = .ok (.aload_n 0, 1) := by decide +kernel
theorem dX8_crushes_1 : decode cX8_crushes 1 = .ok (.iload_n 1, 1) := by decide +kernel
theorem dX8_crushes_2 : decode cX8_crushes 2 = .ok (.iconst 0, 1) := by decide +kernel
theorem dX8_crushes_3 : decode cX8_crushes 3 = .ok (.invokestatic 47, 3) := by decide +kernel
theorem dX8_crushes_6 : decode cX8_crushes 6 = .ok (.istore_n 3, 1) := by decide +kernel
theorem dX8_crushes_7 : decode cX8_crushes 7 = .ok (.aload_n 0, 1) := by decide +kernel
theorem dX8_crushes_8 : decode cX8_crushes 8 = .ok (.iload_n 1, 1) := by decide +kernel
theorem dX8_crushes_9 : decode cX8_crushes 9 = .ok (.invokestatic 67, 3) := by decide +kernel
theorem dX8_crushes_12 : decode cX8_crushes 12 = .ok (.istore 4, 2) := by decide +kernel
theorem dX8_crushes_14 : decode cX8_crushes 14 = .ok (.iload_n 2, 1) := by decide +kernel
theorem dX8_crushes_15 : decode cX8_crushes 15 = .ok (.iload 4, 2) := by decide +kernel
theorem dX8_crushes_17 : decode cX8_crushes 17 = .ok (.imul, 1) := by decide +kernel
theorem dX8_crushes_18 : decode cX8_crushes 18 = .ok (.aload_n 0, 1) := by decide +kernel
theorem dX8_crushes_19 : decode cX8_crushes 19 = .ok (.bipush 9, 2) := by decide +kernel
theorem dX8_crushes_21 : decode cX8_crushes 21 = .ok (.iaload, 1) := by decide +kernel
theorem dX8_crushes_22 : decode cX8_crushes 22 = .ok (.imul, 1) := by decide +kernel
theorem dX8_crushes_23 : decode cX8_crushes 23 = .ok (.bipush 100, 2) := by decide +kernel
theorem dX8_crushes_25 : decode cX8_crushes 25 = .ok (.idiv, 1) := by decide +kernel
theorem dX8_crushes_26 : decode cX8_crushes 26 = .ok (.istore 5, 2) := by decide +kernel
theorem dX8_crushes_28 : decode cX8_crushes 28 = .ok (.aload_n 0, 1) := by decide +kernel
theorem dX8_crushes_29 : decode cX8_crushes 29 = .ok (.bipush 56, 2) := by decide +kernel
theorem dX8_crushes_31 : decode cX8_crushes 31 = .ok (.bipush 8, 2) := by decide +kernel
theorem dX8_crushes_33 : decode cX8_crushes 33 = .ok (.iload_n 1, 1) := by decide +kernel
theorem dX8_crushes_34 : decode cX8_crushes 34 = .ok (.imul, 1) := by decide +kernel
theorem dX8_crushes_35 : decode cX8_crushes 35 = .ok (.iadd, 1) := by decide +kernel
theorem dX8_crushes_36 : decode cX8_crushes 36 = .ok (.iconst 5, 1) := by decide +kernel
theorem dX8_crushes_37 : decode cX8_crushes 37 = .ok (.iadd, 1) := by decide +kernel
theorem dX8_crushes_38 : decode cX8_crushes 38 = .ok (.dup2, 1) := by decide +kernel
theorem dX8_crushes_39 : decode cX8_crushes 39 = .ok (.iaload, 1) := by decide +kernel
theorem dX8_crushes_40 : decode cX8_crushes 40 = .ok (.iload_n 2, 1) := by decide +kernel
theorem dX8_crushes_41 : decode cX8_crushes 41 = .ok (.isub, 1) := by decide +kernel
theorem dX8_crushes_42 : decode cX8_crushes 42 = .ok (.iastore, 1) := by decide +kernel
theorem dX8_crushes_43 : decode cX8_crushes 43 = .ok (.aload_n 0, 1) := by decide +kernel
theorem dX8_crushes_44 : decode cX8_crushes 44 = .ok (.bipush 56, 2) := by decide +kernel
theorem dX8_crushes_46 : decode cX8_crushes 46 = .ok (.bipush 8, 2) := by decide +kernel
theorem dX8_crushes_48 : decode cX8_crushes 48 = .ok (.iload_n 1, 1) := by decide +kernel
theorem dX8_crushes_49 : decode cX8_crushes 49 = .ok (.imul, 1) := by decide +kernel
theorem dX8_crushes_50 : decode cX8_crushes 50 = .ok (.iadd, 1) := by decide +kernel
theorem dX8_crushes_51 : decode cX8_crushes 51 = .ok (.bipush 6, 2) := by decide +kernel
theorem dX8_crushes_53 : decode cX8_crushes 53 = .ok (.iadd, 1) := by decide +kernel
theorem dX8_crushes_54 : decode cX8_crushes 54 = .ok (.dup2, 1) := by decide +kernel
theorem dX8_crushes_55 : decode cX8_crushes 55 = .ok (.iaload, 1) := by decide +kernel
theorem dX8_crushes_56 : decode cX8_crushes 56 = .ok (.iload_n 2, 1) := by decide +kernel
theorem dX8_crushes_57 : decode cX8_crushes 57 = .ok (.iadd, 1) := by decide +kernel
theorem dX8_crushes_58 : decode cX8_crushes 58 = .ok (.iastore, 1) := by decide +kernel
theorem dX8_crushes_59 : decode cX8_crushes 59 = .ok (.aload_n 0, 1) := by decide +kernel
theorem dX8_crushes_60 : decode cX8_crushes 60 = .ok (.bipush 26, 2) := by decide +kernel
theorem dX8_crushes_62 : decode cX8_crushes 62 = .ok (.dup2, 1) := by decide +kernel
theorem dX8_crushes_63 : decode cX8_crushes 63 = .ok (.iaload, 1) := by decide +kernel
theorem dX8_crushes_64 : decode cX8_crushes 64 = .ok (.iload_n 2, 1) := by decide +kernel
theorem dX8_crushes_65 : decode cX8_crushes 65 = .ok (.iadd, 1) := by decide +kernel
theorem dX8_crushes_66 : decode cX8_crushes 66 = .ok (.iastore, 1) := by decide +kernel
theorem dX8_crushes_67 : decode cX8_crushes 67 = .ok (.aload_n 0, 1) := by decide +kernel
theorem dX8_crushes_68 : decode cX8_crushes 68 = .ok (.bipush 27, 2) := by decide +kernel
theorem dX8_crushes_70 : decode cX8_crushes 70 = .ok (.dup2, 1) := by decide +kernel
theorem dX8_crushes_71 : decode cX8_crushes 71 = .ok (.iaload, 1) := by decide +kernel
theorem dX8_crushes_72 : decode cX8_crushes 72 = .ok (.iload_n 2, 1) := by decide +kernel
theorem dX8_crushes_73 : decode cX8_crushes 73 = .ok (.iload 4, 2) := by decide +kernel
theorem dX8_crushes_75 : decode cX8_crushes 75 = .ok (.imul, 1) := by decide +kernel
theorem dX8_crushes_76 : decode cX8_crushes 76 = .ok (.bipush 100, 2) := by decide +kernel
theorem dX8_crushes_78 : decode cX8_crushes 78 = .ok (.idiv, 1) := by decide +kernel
theorem dX8_crushes_79 : decode cX8_crushes 79 = .ok (.iadd, 1) := by decide +kernel
theorem dX8_crushes_80 : decode cX8_crushes 80 = .ok (.iastore, 1) := by decide +kernel
theorem dX8_crushes_81 : decode cX8_crushes 81 = .ok (.aload_n 0, 1) := by decide +kernel
theorem dX8_crushes_82 : decode cX8_crushes 82 = .ok (.bipush 29, 2) := by decide +kernel
theorem dX8_crushes_84 : decode cX8_crushes 84 = .ok (.dup2, 1) := by decide +kernel
theorem dX8_crushes_85 : decode cX8_crushes 85 = .ok (.iaload, 1) := by decide +kernel
theorem dX8_crushes_86 : decode cX8_crushes 86 = .ok (.iload 5, 2) := by decide +kernel
theorem dX8_crushes_88 : decode cX8_crushes 88 = .ok (.iadd, 1) := by decide +kernel
theorem dX8_crushes_89 : decode cX8_crushes 89 = .ok (.iastore, 1) := by decide +kernel
theorem dX8_crushes_90 : decode cX8_crushes 90 = .ok (.aload_n 0, 1) := by decide +kernel
theorem dX8_crushes_91 : decode cX8_crushes 91 = .ok (.bipush 32, 2) := by decide +kernel
theorem dX8_crushes_93 : decode cX8_crushes 93 = .ok (.iconst 4, 1) := by decide +kernel
theorem dX8_crushes_94 : decode cX8_crushes 94 = .ok (.iload_n 3, 1) := by decide +kernel
theorem dX8_crushes_95 : decode cX8_crushes 95 = .ok (.imul, 1) := by decide +kernel
theorem dX8_crushes_96 : decode cX8_crushes 96 = .ok (.iadd, 1) := by decide +kernel
theorem dX8_crushes_97 : decode cX8_crushes 97 = .ok (.iconst 1, 1) := by decide +kernel
theorem dX8_crushes_98 : decode cX8_crushes 98 = .ok (.iadd, 1) := by decide +kernel
theorem dX8_crushes_99 : decode cX8_crushes 99 = .ok (.dup2, 1) := by decide +kernel
theorem dX8_crushes_100 : decode cX8_crushes 100 = .ok (.iaload, 1) := by decide +kernel
theorem dX8_crushes_101 : decode cX8_crushes 101 = .ok (.iload_n 2, 1) := by decide +kernel
theorem dX8_crushes_102 : decode cX8_crushes 102 = .ok (.iadd, 1) := by decide +kernel
theorem dX8_crushes_103 : decode cX8_crushes 103 = .ok (.iastore, 1) := by decide +kernel
theorem dX8_crushes_104 : decode cX8_crushes 104 = .ok (.aload_n 0, 1) := by decide +kernel
theorem dX8_crushes_105 : decode cX8_crushes 105 = .ok (.bipush 32, 2) := by decide +kernel
theorem dX8_crushes_107 : decode cX8_crushes 107 = .ok (.iconst 4, 1) := by decide +kernel
theorem dX8_crushes_108 : decode cX8_crushes 108 = .ok (.iload_n 3, 1) := by decide +kernel
theorem dX8_crushes_109 : decode cX8_crushes 109 = .ok (.imul, 1) := by decide +kernel
theorem dX8_crushes_110 : decode cX8_crushes 110 = .ok (.iadd, 1) := by decide +kernel
theorem dX8_crushes_111 : decode cX8_crushes 111 = .ok (.iconst 3, 1) := by decide +kernel
theorem dX8_crushes_112 : decode cX8_crushes 112 = .ok (.iadd, 1) := by decide +kernel
theorem dX8_crushes_113 : decode cX8_crushes 113 = .ok (.dup2, 1) := by decide +kernel
theorem dX8_crushes_114 : decode cX8_crushes 114 = .ok (.iaload, 1) := by decide +kernel
theorem dX8_crushes_115 : decode cX8_crushes 115 = .ok (.iload 5, 2) := by decide +kernel
theorem dX8_crushes_117 : decode cX8_crushes 117 = .ok (.iadd, 1) := by decide +kernel
theorem dX8_crushes_118 : decode cX8_crushes 118 = .ok (.iastore, 1) := by decide +kernel
theorem dX8_crushes_119 : decode cX8_crushes 119 = .ok (.return_, 1) := by decide +kernel
theorem dX8_mills_0 : decode cX8_mills 0 = .ok (.aload_n 0, 1) := by decide +kernel
theorem dX8_mills_1 : decode cX8_mills 1 = .ok (.iconst 5, 1) := by decide +kernel
theorem dX8_mills_2 : decode cX8_mills 2 = .ok (.iaload, 1) := by decide +kernel
theorem dX8_mills_3 : decode cX8_mills 3 = .ok (.istore_n 1, 1) := by decide +kernel
theorem dX8_mills_4 : decode cX8_mills 4 = .ok (.iconst 0, 1) := by decide +kernel
theorem dX8_mills_5 : decode cX8_mills 5 = .ok (.istore_n 2, 1) := by decide +kernel
theorem dX8_mills_6 : decode cX8_mills 6 = .ok (.iload_n 1, 1) := by decide +kernel
theorem dX8_mills_7 : decode cX8_mills 7 = .ok (.ifCond .le 86, 3) := by decide +kernel
theorem dX8_mills_10 : decode cX8_mills 10 = .ok (.iload_n 2, 1) := by decide +kernel
theorem dX8_mills_11 : decode cX8_mills 11 = .ok (.aload_n 0, 1) := by decide +kernel
theorem dX8_mills_12 : decode cX8_mills 12 = .ok (.sipush 296, 3) := by decide +kernel
theorem dX8_mills_15 : decode cX8_mills 15 = .ok (.iaload, 1) := by decide +kernel
theorem dX8_mills_16 : decode cX8_mills 16 = .ok (.if_icmp .ge 77, 3) := by decide +kernel
theorem dX8_mills_19 : decode cX8_mills 19 = .ok (.iload_n 1, 1) := by decide +kernel
theorem dX8_mills_20 : decode cX8_mills 20 = .ok (.aload_n 0, 1) := by decide +kernel
theorem dX8_mills_21 : decode cX8_mills 21 = .ok (.sipush 297, 3) := by decide +kernel
theorem dX8_mills_24 : decode cX8_mills 24 = .ok (.iconst 3, 1) := by decide +kernel
theorem dX8_mills_25 : decode cX8_mills 25 = .ok (.iload_n 2, 1) := by decide +kernel
theorem dX8_mills_26 : decode cX8_mills 26 = .ok (.imul, 1) := by decide +kernel
theorem dX8_mills_27 : decode cX8_mills 27 = .ok (.iadd, 1) := by decide +kernel
theorem dX8_mills_28 : decode cX8_mills 28 = .ok (.iconst 1, 1) := by decide +kernel
theorem dX8_mills_29 : decode cX8_mills 29 = .ok (.iadd, 1) := by decide +kernel
theorem dX8_mills_30 : decode cX8_mills 30 = .ok (.iaload, 1) := by decide +kernel
theorem dX8_mills_31 : decode cX8_mills 31 = .ok (.invokestatic 63, 3) := by decide +kernel
theorem dX8_mills_34 : decode cX8_mills 34 = .ok (.istore_n 3, 1) := by decide +kernel
theorem dX8_mills_35 : decode cX8_mills 35 = .ok (.aload_n 0, 1) := by decide +kernel
theorem dX8_mills_36 : decode cX8_mills 36 = .ok (.aload_n 0, 1) := by decide +kernel
theorem dX8_mills_37 : decode cX8_mills 37 = .ok (.sipush 297, 3) := by decide +kernel
theorem dX8_mills_40 : decode cX8_mills 40 = .ok (.iconst 3, 1) := by decide +kernel
theorem dX8_mills_41 : decode cX8_mills 41 = .ok (.iload_n 2, 1) := by decide +kernel
theorem dX8_mills_42 : decode cX8_mills 42 = .ok (.imul, 1) := by decide +kernel
theorem dX8_mills_43 : decode cX8_mills 43 = .ok (.iadd, 1) := by decide +kernel
theorem dX8_mills_44 : decode cX8_mills 44 = .ok (.iaload, 1) := by decide +kernel
theorem dX8_mills_45 : decode cX8_mills 45 = .ok (.iload_n 3, 1) := by decide +kernel
theorem dX8_mills_46 : decode cX8_mills 46 = .ok (.invokestatic 70, 3) := by decide +kernel
theorem dX8_mills_49 : decode cX8_mills 49 = .ok (.aload_n 0, 1) := by decide +kernel
theorem dX8_mills_50 : decode cX8_mills 50 = .ok (.sipush 297, 3) := by decide +kernel
theorem dX8_mills_53 : decode cX8_mills 53 = .ok (.iconst 3, 1) := by decide +kernel
theorem dX8_mills_54 : decode cX8_mills 54 = .ok (.iload_n 2, 1) := by decide +kernel
theorem dX8_mills_55 : decode cX8_mills 55 = .ok (.imul, 1) := by decide +kernel
theorem dX8_mills_56 : decode cX8_mills 56 = .ok (.iadd, 1) := by decide +kernel
theorem dX8_mills_57 : decode cX8_mills 57 = .ok (.iconst 1, 1) := by decide +kernel
theorem dX8_mills_58 : decode cX8_mills 58 = .ok (.iadd, 1) := by decide +kernel
theorem dX8_mills_59 : decode cX8_mills 59 = .ok (.dup2, 1) := by decide +kernel
theorem dX8_mills_60 : decode cX8_mills 60 = .ok (.iaload, 1) := by decide +kernel
theorem dX8_mills_61 : decode cX8_mills 61 = .ok (.iload_n 3, 1) := by decide +kernel
theorem dX8_mills_62 : decode cX8_mills 62 = .ok (.isub, 1) := by decide +kernel
theorem dX8_mills_63 : decode cX8_mills 63 = .ok (.iastore, 1) := by decide +kernel
theorem dX8_mills_64 : decode cX8_mills 64 = .ok (.iload_n 1, 1) := by decide +kernel
theorem dX8_mills_65 : decode cX8_mills 65 = .ok (.iload_n 3, 1) := by decide +kernel
theorem dX8_mills_66 : decode cX8_mills 66 = .ok (.isub, 1) := by decide +kernel
theorem dX8_mills_67 : decode cX8_mills 67 = .ok (.istore_n 1, 1) := by decide +kernel
theorem dX8_mills_68 : decode cX8_mills 68 = .ok (.iload_n 2, 1) := by decide +kernel
theorem dX8_mills_69 : decode cX8_mills 69 = .ok (.aload_n 0, 1) := by decide +kernel
theorem dX8_mills_70 : decode cX8_mills 70 = .ok (.sipush 297, 3) := by decide +kernel
theorem dX8_mills_73 : decode cX8_mills 73 = .ok (.iconst 3, 1) := by decide +kernel
theorem dX8_mills_74 : decode cX8_mills 74 = .ok (.iload_n 2, 1) := by decide +kernel
theorem dX8_mills_75 : decode cX8_mills 75 = .ok (.imul, 1) := by decide +kernel
theorem dX8_mills_76 : decode cX8_mills 76 = .ok (.iadd, 1) := by decide +kernel
theorem dX8_mills_77 : decode cX8_mills 77 = .ok (.iconst 1, 1) := by decide +kernel
theorem dX8_mills_78 : decode cX8_mills 78 = .ok (.iadd, 1) := by decide +kernel
theorem dX8_mills_79 : decode cX8_mills 79 = .ok (.iaload, 1) := by decide +kernel
theorem dX8_mills_80 : decode cX8_mills 80 = .ok (.ifCond .ne 7, 3) := by decide +kernel
theorem dX8_mills_83 : decode cX8_mills 83 = .ok (.iconst 1, 1) := by decide +kernel
theorem dX8_mills_84 : decode cX8_mills 84 = .ok (.goto 4, 3) := by decide +kernel
theorem dX8_mills_87 : decode cX8_mills 87 = .ok (.iconst 0, 1) := by decide +kernel
theorem dX8_mills_88 : decode cX8_mills 88 = .ok (.iadd, 1) := by decide +kernel
theorem dX8_mills_89 : decode cX8_mills 89 = .ok (.istore_n 2, 1) := by decide +kernel
theorem dX8_mills_90 : decode cX8_mills 90 = .ok (.goto (-84), 3) := by decide +kernel
theorem dX8_mills_93 : decode cX8_mills 93 = .ok (.aload_n 0, 1) := by decide +kernel
theorem dX8_mills_94 : decode cX8_mills 94 = .ok (.sipush 296, 3) := by decide +kernel
theorem dX8_mills_97 : decode cX8_mills 97 = .ok (.dup2, 1) := by decide +kernel
theorem dX8_mills_98 : decode cX8_mills 98 = .ok (.iaload, 1) := by decide +kernel
theorem dX8_mills_99 : decode cX8_mills 99 = .ok (.iload_n 2, 1) := by decide +kernel
theorem dX8_mills_100 : decode cX8_mills 100 = .ok (.isub, 1) := by decide +kernel
theorem dX8_mills_101 : decode cX8_mills 101 = .ok (.iastore, 1) := by decide +kernel
theorem dX8_mills_102 : decode cX8_mills 102 = .ok (.iconst 0, 1) := by decide +kernel
theorem dX8_mills_103 : decode cX8_mills 103 = .ok (.istore_n 3, 1) := by decide +kernel
theorem dX8_mills_104 : decode cX8_mills 104 = .ok (.iload_n 3, 1) := by decide +kernel
theorem dX8_mills_105 : decode cX8_mills 105 = .ok (.iconst 3, 1) := by decide +kernel
theorem dX8_mills_106 : decode cX8_mills 106 = .ok (.aload_n 0, 1) := by decide +kernel
theorem dX8_mills_107 : decode cX8_mills 107 = .ok (.sipush 296, 3) := by decide +kernel
theorem dX8_mills_110 : decode cX8_mills 110 = .ok (.iaload, 1) := by decide +kernel
theorem dX8_mills_111 : decode cX8_mills 111 = .ok (.imul, 1) := by decide +kernel
theorem dX8_mills_112 : decode cX8_mills 112 = .ok (.if_icmp .ge 27, 3) := by decide +kernel
theorem dX8_mills_115 : decode cX8_mills 115 = .ok (.aload_n 0, 1) := by decide +kernel
theorem dX8_mills_116 : decode cX8_mills 116 = .ok (.sipush 297, 3) := by decide +kernel
theorem dX8_mills_119 : decode cX8_mills 119 = .ok (.iload_n 3, 1) := by decide +kernel
theorem dX8_mills_120 : decode cX8_mills 120 = .ok (.iadd, 1) := by decide +kernel
theorem dX8_mills_121 : decode cX8_mills 121 = .ok (.aload_n 0, 1) := by decide +kernel
theorem dX8_mills_122 : decode cX8_mills 122 = .ok (.sipush 297, 3) := by decide +kernel
theorem dX8_mills_125 : decode cX8_mills 125 = .ok (.iload_n 3, 1) := by decide +kernel
theorem dX8_mills_126 : decode cX8_mills 126 = .ok (.iadd, 1) := by decide +kernel
theorem dX8_mills_127 : decode cX8_mills 127 = .ok (.iconst 3, 1) := by decide +kernel
theorem dX8_mills_128 : decode cX8_mills 128 = .ok (.iload_n 2, 1) := by decide +kernel
theorem dX8_mills_129 : decode cX8_mills 129 = .ok (.imul, 1) := by decide +kernel
theorem dX8_mills_130 : decode cX8_mills 130 = .ok (.iadd, 1) := by decide +kernel
theorem dX8_mills_131 : decode cX8_mills 131 = .ok (.iaload, 1) := by decide +kernel
theorem dX8_mills_132 : decode cX8_mills 132 = .ok (.iastore, 1) := by decide +kernel
theorem dX8_mills_133 : decode cX8_mills 133 = .ok (.iinc 3 1, 3) := by decide +kernel
theorem dX8_mills_136 : decode cX8_mills 136 = .ok (.goto (-32), 3) := by decide +kernel
theorem dX8_mills_139 : decode cX8_mills 139 = .ok (.return_, 1) := by decide +kernel
theorem dX8_isStopped_0 : decode cX8_isStopped 0 = .ok (.iconst 0, 1) := by decide +kernel
theorem dX8_isStopped_1 : decode cX8_isStopped 1 = .ok (.istore_n 1, 1) := by decide +kernel
theorem dX8_isStopped_2 : decode cX8_isStopped 2 = .ok (.iconst 0, 1) := by decide +kernel
theorem dX8_isStopped_3 : decode cX8_isStopped 3 = .ok (.istore_n 2, 1) := by decide +kernel
theorem dX8_isStopped_4 : decode cX8_isStopped 4 = .ok (.iload_n 2, 1) := by decide +kernel
theorem dX8_isStopped_5 : decode cX8_isStopped 5 = .ok (.aload_n 0, 1) := by decide +kernel
theorem dX8_isStopped_6 : decode cX8_isStopped 6 = .ok (.iconst 2, 1) := by decide +kernel
theorem dX8_isStopped_7 : decode cX8_isStopped 7 = .ok (.iaload, 1) := by decide +kernel
theorem dX8_isStopped_8 : decode cX8_isStopped 8 = .ok (.if_icmp .ge 46, 3) := by decide +kernel
theorem dX8_isStopped_11 : decode cX8_isStopped 11 = .ok (.iload_n 1, 1) := by decide +kernel
theorem dX8_isStopped_12 : decode cX8_isStopped 12 = .ok (.ifCond .ne 30, 3) := by decide +kernel
theorem dX8_isStopped_15 : decode cX8_isStopped 15 = .ok (.aload_n 0, 1) := by decide +kernel
theorem dX8_isStopped_16 : decode cX8_isStopped 16 = .ok (.iconst 0, 1) := by decide +kernel
theorem dX8_isStopped_17 : decode cX8_isStopped 17 = .ok (.iaload, 1) := by decide +kernel
theorem dX8_isStopped_18 : decode cX8_isStopped 18 = .ok (.aload_n 0, 1) := by decide +kernel
theorem dX8_isStopped_19 : decode cX8_isStopped 19 = .ok (.bipush 16, 2) := by decide +kernel
theorem dX8_isStopped_21 : decode cX8_isStopped 21 = .ok (.iconst 2, 1) := by decide +kernel
theorem dX8_isStopped_22 : decode cX8_isStopped 22 = .ok (.iload_n 2, 1) := by decide +kernel
theorem dX8_isStopped_23 : decode cX8_isStopped 23 = .ok (.imul, 1) := by decide +kernel
theorem dX8_isStopped_24 : decode cX8_isStopped 24 = .ok (.iadd, 1) := by decide +kernel
theorem dX8_isStopped_25 : decode cX8_isStopped 25 = .ok (.iaload, 1) := by decide +kernel
theorem dX8_isStopped_26 : decode cX8_isStopped 26 = .ok (.aload_n 0, 1) := by decide +kernel
theorem dX8_isStopped_27 : decode cX8_isStopped 27 = .ok (.bipush 16, 2) := by decide +kernel
theorem dX8_isStopped_29 : decode cX8_isStopped 29 = .ok (.iconst 2, 1) := by decide +kernel
theorem dX8_isStopped_30 : decode cX8_isStopped 30 = .ok (.iload_n 2, 1) := by decide +kernel
theorem dX8_isStopped_31 : decode cX8_isStopped 31 = .ok (.imul, 1) := by decide +kernel
theorem dX8_isStopped_32 : decode cX8_isStopped 32 = .ok (.iadd, 1) := by decide +kernel
theorem dX8_isStopped_33 : decode cX8_isStopped 33 = .ok (.iconst 1, 1) := by decide +kernel
theorem dX8_isStopped_34 : decode cX8_isStopped 34 = .ok (.iadd, 1) := by decide +kernel
theorem dX8_isStopped_35 : decode cX8_isStopped 35 = .ok (.iaload, 1) := by decide +kernel
theorem dX8_isStopped_36 : decode cX8_isStopped 36 = .ok (.invokestatic 32, 3) := by decide +kernel
theorem dX8_isStopped_39 : decode cX8_isStopped 39 = .ok (.ifCond .eq 7, 3) := by decide +kernel
theorem dX8_isStopped_42 : decode cX8_isStopped 42 = .ok (.iconst 1, 1) := by decide +kernel
theorem dX8_isStopped_43 : decode cX8_isStopped 43 = .ok (.goto 4, 3) := by decide +kernel
theorem dX8_isStopped_46 : decode cX8_isStopped 46 = .ok (.iconst 0, 1) := by decide +kernel
theorem dX8_isStopped_47 : decode cX8_isStopped 47 = .ok (.istore_n 1, 1) := by decide +kernel
theorem dX8_isStopped_48 : decode cX8_isStopped 48 = .ok (.iinc 2 1, 3) := by decide +kernel
theorem dX8_isStopped_51 : decode cX8_isStopped 51 = .ok (.goto (-47), 3) := by decide +kernel
theorem dX8_isStopped_54 : decode cX8_isStopped 54 = .ok (.iload_n 1, 1) := by decide +kernel
theorem dX8_isStopped_55 : decode cX8_isStopped 55 = .ok (.ireturn, 1) := by decide +kernel
theorem dX8_day_0 : decode cX8_day 0 = .ok (.aload_n 0, 1) := by decide +kernel
theorem dX8_day_1 : decode cX8_day 1 = .ok (.invokestatic 74, 3) := by decide +kernel
theorem dX8_day_4 : decode cX8_day 4 = .ok (.aload_n 0, 1) := by decide +kernel
theorem dX8_day_5 : decode cX8_day 5 = .ok (.invokestatic 78, 3) := by decide +kernel
theorem dX8_day_8 : decode cX8_day 8 = .ok (.istore_n 2, 1) := by decide +kernel
theorem dX8_day_9 : decode cX8_day 9 = .ok (.iconst 0, 1) := by decide +kernel
theorem dX8_day_10 : decode cX8_day 10 = .ok (.istore_n 3, 1) := by decide +kernel
theorem dX8_day_11 : decode cX8_day 11 = .ok (.iload_n 3, 1) := by decide +kernel
theorem dX8_day_12 : decode cX8_day 12 = .ok (.aload_n 0, 1) := by decide +kernel
theorem dX8_day_13 : decode cX8_day 13 = .ok (.iconst 3, 1) := by decide +kernel
theorem dX8_day_14 : decode cX8_day 14 = .ok (.iaload, 1) := by decide +kernel
theorem dX8_day_15 : decode cX8_day 15 = .ok (.if_icmp .ge 25, 3) := by decide +kernel
theorem dX8_day_18 : decode cX8_day 18 = .ok (.iload_n 2, 1) := by decide +kernel
theorem dX8_day_19 : decode cX8_day 19 = .ok (.bipush (-6), 2) := by decide +kernel
theorem dX8_day_21 : decode cX8_day 21 = .ok (.if_icmp .eq 19, 3) := by decide +kernel
theorem dX8_day_24 : decode cX8_day 24 = .ok (.aload_n 0, 1) := by decide +kernel
theorem dX8_day_25 : decode cX8_day 25 = .ok (.iload_n 2, 1) := by decide +kernel
theorem dX8_day_26 : decode cX8_day 26 = .ok (.invokestatic 81, 3) := by decide +kernel
theorem dX8_day_29 : decode cX8_day 29 = .ok (.aload_n 0, 1) := by decide +kernel
theorem dX8_day_30 : decode cX8_day 30 = .ok (.invokestatic 78, 3) := by decide +kernel
theorem dX8_day_33 : decode cX8_day 33 = .ok (.istore_n 2, 1) := by decide +kernel
theorem dX8_day_34 : decode cX8_day 34 = .ok (.iinc 3 1, 3) := by decide +kernel
theorem dX8_day_37 : decode cX8_day 37 = .ok (.goto (-26), 3) := by decide +kernel
theorem dX8_day_40 : decode cX8_day 40 = .ok (.iload_n 1, 1) := by decide +kernel
theorem dX8_day_41 : decode cX8_day 41 = .ok (.ifCond .ne 10, 3) := by decide +kernel
theorem dX8_day_44 : decode cX8_day 44 = .ok (.aload_n 0, 1) := by decide +kernel
theorem dX8_day_45 : decode cX8_day 45 = .ok (.invokestatic 85, 3) := by decide +kernel
theorem dX8_day_48 : decode cX8_day 48 = .ok (.ifCond .eq 14, 3) := by decide +kernel
theorem dX8_day_51 : decode cX8_day 51 = .ok (.aload_n 0, 1) := by decide +kernel
theorem dX8_day_52 : decode cX8_day 52 = .ok (.bipush 31, 2) := by decide +kernel
theorem dX8_day_54 : decode cX8_day 54 = .ok (.dup2, 1) := by decide +kernel
theorem dX8_day_55 : decode cX8_day 55 = .ok (.iaload, 1) := by decide +kernel
theorem dX8_day_56 : decode cX8_day 56 = .ok (.iconst 1, 1) := by decide +kernel
theorem dX8_day_57 : decode cX8_day 57 = .ok (.iadd, 1) := by decide +kernel
theorem dX8_day_58 : decode cX8_day 58 = .ok (.iastore, 1) := by decide +kernel
theorem dX8_day_59 : decode cX8_day 59 = .ok (.goto 7, 3) := by decide +kernel
theorem dX8_day_62 : decode cX8_day 62 = .ok (.aload_n 0, 1) := by decide +kernel
theorem dX8_day_63 : decode cX8_day 63 = .ok (.invokestatic 89, 3) := by decide +kernel
theorem dX8_day_66 : decode cX8_day 66 = .ok (.aload_n 0, 1) := by decide +kernel
theorem dX8_day_67 : decode cX8_day 67 = .ok (.iconst 0, 1) := by decide +kernel
theorem dX8_day_68 : decode cX8_day 68 = .ok (.dup2, 1) := by decide +kernel
theorem dX8_day_69 : decode cX8_day 69 = .ok (.iaload, 1) := by decide +kernel
theorem dX8_day_70 : decode cX8_day 70 = .ok (.iconst 1, 1) := by decide +kernel
theorem dX8_day_71 : decode cX8_day 71 = .ok (.iadd, 1) := by decide +kernel
theorem dX8_day_72 : decode cX8_day 72 = .ok (.iastore, 1) := by decide +kernel
theorem dX8_day_73 : decode cX8_day 73 = .ok (.return_, 1) := by decide +kernel
theorem dX8_days_0 : decode cX8_days 0 = .ok (.iconst 0, 1) := by decide +kernel
theorem dX8_days_1 : decode cX8_days 1 = .ok (.istore_n 3, 1) := by decide +kernel
theorem dX8_days_2 : decode cX8_days 2 = .ok (.iload_n 3, 1) := by decide +kernel
theorem dX8_days_3 : decode cX8_days 3 = .ok (.iload_n 1, 1) := by decide +kernel
theorem dX8_days_4 : decode cX8_days 4 = .ok (.if_icmp .ge 23, 3) := by decide +kernel
theorem dX8_days_7 : decode cX8_days 7 = .ok (.aload_n 0, 1) := by decide +kernel
theorem dX8_days_8 : decode cX8_days 8 = .ok (.iload_n 3, 1) := by decide +kernel
theorem dX8_days_9 : decode cX8_days 9 = .ok (.iload_n 2, 1) := by decide +kernel
theorem dX8_days_10 : decode cX8_days 10 = .ok (.if_icmp .ge 7, 3) := by decide +kernel
theorem dX8_days_13 : decode cX8_days 13 = .ok (.iconst 1, 1) := by decide +kernel
theorem dX8_days_14 : decode cX8_days 14 = .ok (.goto 4, 3) := by decide +kernel
theorem dX8_days_17 : decode cX8_days 17 = .ok (.iconst 0, 1) := by decide +kernel
theorem dX8_days_18 : decode cX8_days 18 = .ok (.invokestatic 92, 3) := by decide +kernel
theorem dX8_days_21 : decode cX8_days 21 = .ok (.iinc 3 1, 3) := by decide +kernel
theorem dX8_days_24 : decode cX8_days 24 = .ok (.goto (-22), 3) := by decide +kernel
theorem dX8_days_27 : decode cX8_days 27 = .ok (.return_, 1) := by decide +kernel
theorem dX8_isFor_0 : decode cX8_isFor 0 = .ok (.iload_n 0, 1) := by decide +kernel
theorem dX8_isFor_1 : decode cX8_isFor 1 = .ok (.tableswitch 89 0 5 #[39, 47, 55, 64, 73, 81], 39) := by decide +kernel
theorem dX8_isFor_40 : decode cX8_isFor 40 = .ok (.iload_n 1, 1) := by decide +kernel
theorem dX8_isFor_41 : decode cX8_isFor 41 = .ok (.iconst 0, 1) := by decide +kernel
theorem dX8_isFor_42 : decode cX8_isFor 42 = .ok (.bipush 20, 2) := by decide +kernel
theorem dX8_isFor_44 : decode cX8_isFor 44 = .ok (.invokestatic 32, 3) := by decide +kernel
theorem dX8_isFor_47 : decode cX8_isFor 47 = .ok (.ireturn, 1) := by decide +kernel
theorem dX8_isFor_48 : decode cX8_isFor 48 = .ok (.iload_n 1, 1) := by decide +kernel
theorem dX8_isFor_49 : decode cX8_isFor 49 = .ok (.iconst 1, 1) := by decide +kernel
theorem dX8_isFor_50 : decode cX8_isFor 50 = .ok (.bipush 30, 2) := by decide +kernel
theorem dX8_isFor_52 : decode cX8_isFor 52 = .ok (.invokestatic 32, 3) := by decide +kernel
theorem dX8_isFor_55 : decode cX8_isFor 55 = .ok (.ireturn, 1) := by decide +kernel
theorem dX8_isFor_56 : decode cX8_isFor 56 = .ok (.iload_n 1, 1) := by decide +kernel
theorem dX8_isFor_57 : decode cX8_isFor 57 = .ok (.iconst 1, 1) := by decide +kernel
theorem dX8_isFor_58 : decode cX8_isFor 58 = .ok (.sipush 200, 3) := by decide +kernel
theorem dX8_isFor_61 : decode cX8_isFor 61 = .ok (.invokestatic 32, 3) := by decide +kernel
theorem dX8_isFor_64 : decode cX8_isFor 64 = .ok (.ireturn, 1) := by decide +kernel
theorem dX8_isFor_65 : decode cX8_isFor 65 = .ok (.iload_n 1, 1) := by decide +kernel
theorem dX8_isFor_66 : decode cX8_isFor 66 = .ok (.iconst 0, 1) := by decide +kernel
theorem dX8_isFor_67 : decode cX8_isFor 67 = .ok (.sipush 400, 3) := by decide +kernel
theorem dX8_isFor_70 : decode cX8_isFor 70 = .ok (.invokestatic 32, 3) := by decide +kernel
theorem dX8_isFor_73 : decode cX8_isFor 73 = .ok (.ireturn, 1) := by decide +kernel
theorem dX8_isFor_74 : decode cX8_isFor 74 = .ok (.iload_n 1, 1) := by decide +kernel
theorem dX8_isFor_75 : decode cX8_isFor 75 = .ok (.iconst 0, 1) := by decide +kernel
theorem dX8_isFor_76 : decode cX8_isFor 76 = .ok (.bipush 100, 2) := by decide +kernel
theorem dX8_isFor_78 : decode cX8_isFor 78 = .ok (.invokestatic 32, 3) := by decide +kernel
theorem dX8_isFor_81 : decode cX8_isFor 81 = .ok (.ireturn, 1) := by decide +kernel
theorem dX8_isFor_82 : decode cX8_isFor 82 = .ok (.iload_n 1, 1) := by decide +kernel
theorem dX8_isFor_83 : decode cX8_isFor 83 = .ok (.iconst 1, 1) := by decide +kernel
theorem dX8_isFor_84 : decode cX8_isFor 84 = .ok (.bipush 20, 2) := by decide +kernel
theorem dX8_isFor_86 : decode cX8_isFor 86 = .ok (.invokestatic 32, 3) := by decide +kernel
theorem dX8_isFor_89 : decode cX8_isFor 89 = .ok (.ireturn, 1) := by decide +kernel
theorem dX8_isFor_90 : decode cX8_isFor 90 = .ok (.iload_n 1, 1) := by decide +kernel
theorem dX8_isFor_91 : decode cX8_isFor 91 = .ok (.iconst 0, 1) := by decide +kernel
theorem dX8_isFor_92 : decode cX8_isFor 92 = .ok (.sipush 999, 3) := by decide +kernel
theorem dX8_isFor_95 : decode cX8_isFor 95 = .ok (.invokestatic 32, 3) := by decide +kernel
theorem dX8_isFor_98 : decode cX8_isFor 98 = .ok (.ireturn, 1) := by decide +kernel
theorem dX8_changes_0 : decode cX8_changes 0 = .ok (.aload_n 0, 1) := by decide +kernel
theorem dX8_changes_1 : decode cX8_changes 1 = .ok (.getfield 7, 3) := by decide +kernel
theorem dX8_changes_4 : decode cX8_changes 4 = .ok (.iload_n 1, 1) := by decide +kernel
theorem dX8_changes_5 : decode cX8_changes 5 = .ok (.iaload, 1) := by decide +kernel
theorem dX8_changes_6 : decode cX8_changes 6 = .ok (.istore_n 3, 1) := by decide +kernel
theorem dX8_changes_7 : decode cX8_changes 7 = .ok (.aload_n 0, 1) := by decide +kernel
theorem dX8_changes_8 : decode cX8_changes 8 = .ok (.getfield 7, 3) := by decide +kernel
theorem dX8_changes_11 : decode cX8_changes 11 = .ok (.iload_n 1, 1) := by decide +kernel
theorem dX8_changes_12 : decode cX8_changes 12 = .ok (.iload_n 2, 1) := by decide +kernel
theorem dX8_changes_13 : decode cX8_changes 13 = .ok (.iastore, 1) := by decide +kernel
theorem dX8_changes_14 : decode cX8_changes 14 = .ok (.iload_n 3, 1) := by decide +kernel
theorem dX8_changes_15 : decode cX8_changes 15 = .ok (.ireturn, 1) := by decide +kernel
theorem dX8_set_0 : decode cX8_set 0 = .ok (.iload_n 1, 1) := by decide +kernel
theorem dX8_set_1 : decode cX8_set 1 = .ok (.iconst 0, 1) := by decide +kernel
theorem dX8_set_2 : decode cX8_set 2 = .ok (.bipush 6, 2) := by decide +kernel
theorem dX8_set_4 : decode cX8_set 4 = .ok (.invokestatic 32, 3) := by decide +kernel
theorem dX8_set_7 : decode cX8_set 7 = .ok (.ifCond .eq 11, 3) := by decide +kernel
theorem dX8_set_10 : decode cX8_set 10 = .ok (.iload_n 1, 1) := by decide +kernel
theorem dX8_set_11 : decode cX8_set 11 = .ok (.iload_n 2, 1) := by decide +kernel
theorem dX8_set_12 : decode cX8_set 12 = .ok (.invokestatic 96, 3) := by decide +kernel
theorem dX8_set_15 : decode cX8_set 15 = .ok (.ifCond .ne 6, 3) := by decide +kernel
theorem dX8_set_18 : decode cX8_set 18 = .ok (.bipush (-2), 2) := by decide +kernel
theorem dX8_set_20 : decode cX8_set 20 = .ok (.ireturn, 1) := by decide +kernel
theorem dX8_set_21 : decode cX8_set 21 = .ok (.aload_n 0, 1) := by decide +kernel
theorem dX8_set_22 : decode cX8_set 22 = .ok (.invokevirtual 44, 3) := by decide +kernel
theorem dX8_set_25 : decode cX8_set 25 = .ok (.aload_n 0, 1) := by decide +kernel
theorem dX8_set_26 : decode cX8_set 26 = .ok (.iconst 3, 1) := by decide +kernel
theorem dX8_set_27 : decode cX8_set 27 = .ok (.iload_n 1, 1) := by decide +kernel
theorem dX8_set_28 : decode cX8_set 28 = .ok (.iadd, 1) := by decide +kernel
theorem dX8_set_29 : decode cX8_set 29 = .ok (.iload_n 2, 1) := by decide +kernel
theorem dX8_set_30 : decode cX8_set 30 = .ok (.invokevirtual 100, 3) := by decide +kernel
theorem dX8_set_33 : decode cX8_set 33 = .ok (.ireturn, 1) := by decide +kernel
theorem dX8_mayQuota_0 : decode cX8_mayQuota 0 = .ok (.iload_n 0, 1) := by decide +kernel
theorem dX8_mayQuota_1 : decode cX8_mayQuota 1 = .ok (.invokestatic 103, 3) := by decide +kernel
theorem dX8_mayQuota_4 : decode cX8_mayQuota 4 = .ok (.ifCond .ne 7, 3) := by decide +kernel
theorem dX8_mayQuota_7 : decode cX8_mayQuota 7 = .ok (.iconst (-1), 1) := by decide +kernel
theorem dX8_mayQuota_8 : decode cX8_mayQuota 8 = .ok (.goto 20, 3) := by decide +kernel
theorem dX8_mayQuota_11 : decode cX8_mayQuota 11 = .ok (.iload_n 1, 1) := by decide +kernel
theorem dX8_mayQuota_12 : decode cX8_mayQuota 12 = .ok (.iconst 0, 1) := by decide +kernel
theorem dX8_mayQuota_13 : decode cX8_mayQuota 13 = .ok (.sipush 9999, 3) := by decide +kernel
theorem dX8_mayQuota_16 : decode cX8_mayQuota 16 = .ok (.invokestatic 32, 3) := by decide +kernel
theorem dX8_mayQuota_19 : decode cX8_mayQuota 19 = .ok (.ifCond .eq 7, 3) := by decide +kernel
theorem dX8_mayQuota_22 : decode cX8_mayQuota 22 = .ok (.iconst 0, 1) := by decide +kernel
theorem dX8_mayQuota_23 : decode cX8_mayQuota 23 = .ok (.goto 5, 3) := by decide +kernel
theorem dX8_mayQuota_26 : decode cX8_mayQuota 26 = .ok (.bipush (-2), 2) := by decide +kernel
theorem dX8_mayQuota_28 : decode cX8_mayQuota 28 = .ok (.ireturn, 1) := by decide +kernel
theorem dX8_quota_0 : decode cX8_quota 0 = .ok (.iload_n 1, 1) := by decide +kernel
theorem dX8_quota_1 : decode cX8_quota 1 = .ok (.iload_n 2, 1) := by decide +kernel
theorem dX8_quota_2 : decode cX8_quota 2 = .ok (.invokestatic 107, 3) := by decide +kernel
theorem dX8_quota_5 : decode cX8_quota 5 = .ok (.istore_n 3, 1) := by decide +kernel
theorem dX8_quota_6 : decode cX8_quota 6 = .ok (.iload_n 3, 1) := by decide +kernel
theorem dX8_quota_7 : decode cX8_quota 7 = .ok (.ifCond .eq 5, 3) := by decide +kernel
theorem dX8_quota_10 : decode cX8_quota 10 = .ok (.iload_n 3, 1) := by decide +kernel
theorem dX8_quota_11 : decode cX8_quota 11 = .ok (.ireturn, 1) := by decide +kernel
theorem dX8_quota_12 : decode cX8_quota 12 = .ok (.aload_n 0, 1) := by decide +kernel
theorem dX8_quota_13 : decode cX8_quota 13 = .ok (.invokevirtual 44, 3) := by decide +kernel
theorem dX8_quota_16 : decode cX8_quota 16 = .ok (.aload_n 0, 1) := by decide +kernel
theorem dX8_quota_17 : decode cX8_quota 17 = .ok (.bipush 10, 2) := by decide +kernel
theorem dX8_quota_19 : decode cX8_quota 19 = .ok (.iload_n 1, 1) := by decide +kernel
theorem dX8_quota_20 : decode cX8_quota 20 = .ok (.iadd, 1) := by decide +kernel
theorem dX8_quota_21 : decode cX8_quota 21 = .ok (.iload_n 2, 1) := by decide +kernel
theorem dX8_quota_22 : decode cX8_quota 22 = .ok (.invokevirtual 100, 3) := by decide +kernel
theorem dX8_quota_25 : decode cX8_quota 25 = .ok (.ireturn, 1) := by decide +kernel
theorem dX8_mayLend_0 : decode cX8_mayLend 0 = .ok (.iload_n 1, 1) := by decide +kernel
theorem dX8_mayLend_1 : decode cX8_mayLend 1 = .ok (.invokestatic 103, 3) := by decide +kernel
theorem dX8_mayLend_4 : decode cX8_mayLend 4 = .ok (.ifCond .eq 10, 3) := by decide +kernel
theorem dX8_mayLend_7 : decode cX8_mayLend 7 = .ok (.iload_n 2, 1) := by decide +kernel
end
section
theorem dX8_mayLend_8 : decode cX8_mayLend 8 = .ok (.invokestatic 103, 3) := by decide +kernel
theorem dX8_mayLend_11 : decode cX8_mayLend 11 = .ok (.ifCond .ne 5, 3) := by decide +kernel
theorem dX8_mayLend_14 : decode cX8_mayLend 14 = .ok (.iconst (-1), 1) := by decide +kernel
theorem dX8_mayLend_15 : decode cX8_mayLend 15 = .ok (.ireturn, 1) := by decide +kernel
theorem dX8_mayLend_16 : decode cX8_mayLend 16 = .ok (.iload_n 3, 1) := by decide +kernel
theorem dX8_mayLend_17 : decode cX8_mayLend 17 = .ok (.iconst 1, 1) := by decide +kernel
theorem dX8_mayLend_18 : decode cX8_mayLend 18 = .ok (.if_icmp .lt 8, 3) := by decide +kernel
theorem dX8_mayLend_21 : decode cX8_mayLend 21 = .ok (.iload_n 1, 1) := by decide +kernel
theorem dX8_mayLend_22 : decode cX8_mayLend 22 = .ok (.iload_n 2, 1) := by decide +kernel
theorem dX8_mayLend_23 : decode cX8_mayLend 23 = .ok (.if_icmp .ne 6, 3) := by decide +kernel
theorem dX8_mayLend_26 : decode cX8_mayLend 26 = .ok (.bipush (-2), 2) := by decide +kernel
theorem dX8_mayLend_28 : decode cX8_mayLend 28 = .ok (.ireturn, 1) := by decide +kernel
theorem dX8_mayLend_29 : decode cX8_mayLend 29 = .ok (.iload_n 3, 1) := by decide +kernel
theorem dX8_mayLend_30 : decode cX8_mayLend 30 = .ok (.aload_n 0, 1) := by decide +kernel
theorem dX8_mayLend_31 : decode cX8_mayLend 31 = .ok (.getfield 7, 3) := by decide +kernel
theorem dX8_mayLend_34 : decode cX8_mayLend 34 = .ok (.bipush 10, 2) := by decide +kernel
theorem dX8_mayLend_36 : decode cX8_mayLend 36 = .ok (.iload_n 1, 1) := by decide +kernel
theorem dX8_mayLend_37 : decode cX8_mayLend 37 = .ok (.iadd, 1) := by decide +kernel
theorem dX8_mayLend_38 : decode cX8_mayLend 38 = .ok (.iaload, 1) := by decide +kernel
theorem dX8_mayLend_39 : decode cX8_mayLend 39 = .ok (.if_icmp .gt 20, 3) := by decide +kernel
theorem dX8_mayLend_42 : decode cX8_mayLend 42 = .ok (.iload_n 3, 1) := by decide +kernel
theorem dX8_mayLend_43 : decode cX8_mayLend 43 = .ok (.sipush 9999, 3) := by decide +kernel
theorem dX8_mayLend_46 : decode cX8_mayLend 46 = .ok (.aload_n 0, 1) := by decide +kernel
theorem dX8_mayLend_47 : decode cX8_mayLend 47 = .ok (.getfield 7, 3) := by decide +kernel
theorem dX8_mayLend_50 : decode cX8_mayLend 50 = .ok (.bipush 10, 2) := by decide +kernel
theorem dX8_mayLend_52 : decode cX8_mayLend 52 = .ok (.iload_n 2, 1) := by decide +kernel
theorem dX8_mayLend_53 : decode cX8_mayLend 53 = .ok (.iadd, 1) := by decide +kernel
theorem dX8_mayLend_54 : decode cX8_mayLend 54 = .ok (.iaload, 1) := by decide +kernel
theorem dX8_mayLend_55 : decode cX8_mayLend 55 = .ok (.isub, 1) := by decide +kernel
theorem dX8_mayLend_56 : decode cX8_mayLend 56 = .ok (.if_icmp .le 8, 3) := by decide +kernel
theorem dX8_mayLend_59 : decode cX8_mayLend 59 = .ok (.bipush (-5), 2) := by decide +kernel
theorem dX8_mayLend_61 : decode cX8_mayLend 61 = .ok (.goto 4, 3) := by decide +kernel
theorem dX8_mayLend_64 : decode cX8_mayLend 64 = .ok (.iconst 0, 1) := by decide +kernel
theorem dX8_mayLend_65 : decode cX8_mayLend 65 = .ok (.ireturn, 1) := by decide +kernel
theorem dX8_lends_0 : decode cX8_lends 0 = .ok (.aload_n 0, 1) := by decide +kernel
theorem dX8_lends_1 : decode cX8_lends 1 = .ok (.getfield 7, 3) := by decide +kernel
theorem dX8_lends_4 : decode cX8_lends 4 = .ok (.bipush 10, 2) := by decide +kernel
theorem dX8_lends_6 : decode cX8_lends 6 = .ok (.iload_n 1, 1) := by decide +kernel
theorem dX8_lends_7 : decode cX8_lends 7 = .ok (.iadd, 1) := by decide +kernel
theorem dX8_lends_8 : decode cX8_lends 8 = .ok (.dup2, 1) := by decide +kernel
theorem dX8_lends_9 : decode cX8_lends 9 = .ok (.iaload, 1) := by decide +kernel
theorem dX8_lends_10 : decode cX8_lends 10 = .ok (.iload_n 3, 1) := by decide +kernel
theorem dX8_lends_11 : decode cX8_lends 11 = .ok (.isub, 1) := by decide +kernel
theorem dX8_lends_12 : decode cX8_lends 12 = .ok (.iastore, 1) := by decide +kernel
theorem dX8_lends_13 : decode cX8_lends 13 = .ok (.aload_n 0, 1) := by decide +kernel
theorem dX8_lends_14 : decode cX8_lends 14 = .ok (.getfield 7, 3) := by decide +kernel
theorem dX8_lends_17 : decode cX8_lends 17 = .ok (.bipush 10, 2) := by decide +kernel
theorem dX8_lends_19 : decode cX8_lends 19 = .ok (.iload_n 2, 1) := by decide +kernel
theorem dX8_lends_20 : decode cX8_lends 20 = .ok (.iadd, 1) := by decide +kernel
theorem dX8_lends_21 : decode cX8_lends 21 = .ok (.dup2, 1) := by decide +kernel
theorem dX8_lends_22 : decode cX8_lends 22 = .ok (.iaload, 1) := by decide +kernel
theorem dX8_lends_23 : decode cX8_lends 23 = .ok (.iload_n 3, 1) := by decide +kernel
theorem dX8_lends_24 : decode cX8_lends 24 = .ok (.iadd, 1) := by decide +kernel
theorem dX8_lends_25 : decode cX8_lends 25 = .ok (.iastore, 1) := by decide +kernel
theorem dX8_lends_26 : decode cX8_lends 26 = .ok (.aload_n 0, 1) := by decide +kernel
theorem dX8_lends_27 : decode cX8_lends 27 = .ok (.getfield 7, 3) := by decide +kernel
theorem dX8_lends_30 : decode cX8_lends 30 = .ok (.bipush 10, 2) := by decide +kernel
theorem dX8_lends_32 : decode cX8_lends 32 = .ok (.iload_n 1, 1) := by decide +kernel
theorem dX8_lends_33 : decode cX8_lends 33 = .ok (.iadd, 1) := by decide +kernel
theorem dX8_lends_34 : decode cX8_lends 34 = .ok (.iaload, 1) := by decide +kernel
theorem dX8_lends_35 : decode cX8_lends 35 = .ok (.ireturn, 1) := by decide +kernel
theorem dX8_lend_0 : decode cX8_lend 0 = .ok (.aload_n 0, 1) := by decide +kernel
theorem dX8_lend_1 : decode cX8_lend 1 = .ok (.iload_n 1, 1) := by decide +kernel
theorem dX8_lend_2 : decode cX8_lend 2 = .ok (.iload_n 2, 1) := by decide +kernel
theorem dX8_lend_3 : decode cX8_lend 3 = .ok (.iload_n 3, 1) := by decide +kernel
theorem dX8_lend_4 : decode cX8_lend 4 = .ok (.invokevirtual 110, 3) := by decide +kernel
theorem dX8_lend_7 : decode cX8_lend 7 = .ok (.istore 4, 2) := by decide +kernel
theorem dX8_lend_9 : decode cX8_lend 9 = .ok (.iload 4, 2) := by decide +kernel
theorem dX8_lend_11 : decode cX8_lend 11 = .ok (.ifCond .eq 6, 3) := by decide +kernel
theorem dX8_lend_14 : decode cX8_lend 14 = .ok (.iload 4, 2) := by decide +kernel
theorem dX8_lend_16 : decode cX8_lend 16 = .ok (.ireturn, 1) := by decide +kernel
theorem dX8_lend_17 : decode cX8_lend 17 = .ok (.aload_n 0, 1) := by decide +kernel
theorem dX8_lend_18 : decode cX8_lend 18 = .ok (.invokevirtual 44, 3) := by decide +kernel
theorem dX8_lend_21 : decode cX8_lend 21 = .ok (.aload_n 0, 1) := by decide +kernel
theorem dX8_lend_22 : decode cX8_lend 22 = .ok (.iload_n 1, 1) := by decide +kernel
theorem dX8_lend_23 : decode cX8_lend 23 = .ok (.iload_n 2, 1) := by decide +kernel
theorem dX8_lend_24 : decode cX8_lend 24 = .ok (.iload_n 3, 1) := by decide +kernel
theorem dX8_lend_25 : decode cX8_lend 25 = .ok (.invokevirtual 114, 3) := by decide +kernel
theorem dX8_lend_28 : decode cX8_lend 28 = .ok (.ireturn, 1) := by decide +kernel
theorem dX8_mayCome_0 : decode cX8_mayCome 0 = .ok (.iload_n 1, 1) := by decide +kernel
theorem dX8_mayCome_1 : decode cX8_mayCome 1 = .ok (.invokestatic 103, 3) := by decide +kernel
theorem dX8_mayCome_4 : decode cX8_mayCome 4 = .ok (.ifCond .ne 5, 3) := by decide +kernel
theorem dX8_mayCome_7 : decode cX8_mayCome 7 = .ok (.iconst (-1), 1) := by decide +kernel
theorem dX8_mayCome_8 : decode cX8_mayCome 8 = .ok (.ireturn, 1) := by decide +kernel
theorem dX8_mayCome_9 : decode cX8_mayCome 9 = .ok (.iload_n 2, 1) := by decide +kernel
theorem dX8_mayCome_10 : decode cX8_mayCome 10 = .ok (.iconst 1, 1) := by decide +kernel
theorem dX8_mayCome_11 : decode cX8_mayCome 11 = .ok (.sipush 300, 3) := by decide +kernel
theorem dX8_mayCome_14 : decode cX8_mayCome 14 = .ok (.invokestatic 32, 3) := by decide +kernel
theorem dX8_mayCome_17 : decode cX8_mayCome 17 = .ok (.ifCond .eq 30, 3) := by decide +kernel
theorem dX8_mayCome_20 : decode cX8_mayCome 20 = .ok (.iload_n 3, 1) := by decide +kernel
theorem dX8_mayCome_21 : decode cX8_mayCome 21 = .ok (.iconst 1, 1) := by decide +kernel
theorem dX8_mayCome_22 : decode cX8_mayCome 22 = .ok (.bipush 100, 2) := by decide +kernel
theorem dX8_mayCome_24 : decode cX8_mayCome 24 = .ok (.invokestatic 32, 3) := by decide +kernel
theorem dX8_mayCome_27 : decode cX8_mayCome 27 = .ok (.ifCond .eq 20, 3) := by decide +kernel
theorem dX8_mayCome_30 : decode cX8_mayCome 30 = .ok (.iload 4, 2) := by decide +kernel
theorem dX8_mayCome_32 : decode cX8_mayCome 32 = .ok (.aload_n 0, 1) := by decide +kernel
theorem dX8_mayCome_33 : decode cX8_mayCome 33 = .ok (.getfield 7, 3) := by decide +kernel
theorem dX8_mayCome_36 : decode cX8_mayCome 36 = .ok (.iconst 0, 1) := by decide +kernel
theorem dX8_mayCome_37 : decode cX8_mayCome 37 = .ok (.iaload, 1) := by decide +kernel
theorem dX8_mayCome_38 : decode cX8_mayCome 38 = .ok (.sipush 999, 3) := by decide +kernel
theorem dX8_mayCome_41 : decode cX8_mayCome 41 = .ok (.invokestatic 32, 3) := by decide +kernel
theorem dX8_mayCome_44 : decode cX8_mayCome 44 = .ok (.ifCond .ne 6, 3) := by decide +kernel
theorem dX8_mayCome_47 : decode cX8_mayCome 47 = .ok (.bipush (-2), 2) := by decide +kernel
theorem dX8_mayCome_49 : decode cX8_mayCome 49 = .ok (.ireturn, 1) := by decide +kernel
theorem dX8_mayCome_50 : decode cX8_mayCome 50 = .ok (.aload_n 0, 1) := by decide +kernel
theorem dX8_mayCome_51 : decode cX8_mayCome 51 = .ok (.getfield 7, 3) := by decide +kernel
theorem dX8_mayCome_54 : decode cX8_mayCome 54 = .ok (.iconst 1, 1) := by decide +kernel
theorem dX8_mayCome_55 : decode cX8_mayCome 55 = .ok (.iaload, 1) := by decide +kernel
theorem dX8_mayCome_56 : decode cX8_mayCome 56 = .ok (.bipush 30, 2) := by decide +kernel
theorem dX8_mayCome_58 : decode cX8_mayCome 58 = .ok (.if_icmp .ne 8, 3) := by decide +kernel
theorem dX8_mayCome_61 : decode cX8_mayCome 61 = .ok (.bipush (-4), 2) := by decide +kernel
theorem dX8_mayCome_63 : decode cX8_mayCome 63 = .ok (.goto 4, 3) := by decide +kernel
theorem dX8_mayCome_66 : decode cX8_mayCome 66 = .ok (.iconst 0, 1) := by decide +kernel
theorem dX8_mayCome_67 : decode cX8_mayCome 67 = .ok (.ireturn, 1) := by decide +kernel
theorem dX8_comes_0 : decode cX8_comes 0 = .ok (.bipush 56, 2) := by decide +kernel
theorem dX8_comes_2 : decode cX8_comes 2 = .ok (.bipush 8, 2) := by decide +kernel
theorem dX8_comes_4 : decode cX8_comes 4 = .ok (.aload_n 0, 1) := by decide +kernel
theorem dX8_comes_5 : decode cX8_comes 5 = .ok (.getfield 7, 3) := by decide +kernel
theorem dX8_comes_8 : decode cX8_comes 8 = .ok (.iconst 1, 1) := by decide +kernel
theorem dX8_comes_9 : decode cX8_comes 9 = .ok (.iaload, 1) := by decide +kernel
theorem dX8_comes_10 : decode cX8_comes 10 = .ok (.imul, 1) := by decide +kernel
theorem dX8_comes_11 : decode cX8_comes 11 = .ok (.iadd, 1) := by decide +kernel
theorem dX8_comes_12 : decode cX8_comes 12 = .ok (.istore 5, 2) := by decide +kernel
theorem dX8_comes_14 : decode cX8_comes 14 = .ok (.iconst 0, 1) := by decide +kernel
theorem dX8_comes_15 : decode cX8_comes 15 = .ok (.istore 6, 2) := by decide +kernel
theorem dX8_comes_17 : decode cX8_comes 17 = .ok (.iload 6, 2) := by decide +kernel
theorem dX8_comes_19 : decode cX8_comes 19 = .ok (.bipush 8, 2) := by decide +kernel
theorem dX8_comes_21 : decode cX8_comes 21 = .ok (.if_icmp .ge 20, 3) := by decide +kernel
theorem dX8_comes_24 : decode cX8_comes 24 = .ok (.aload_n 0, 1) := by decide +kernel
theorem dX8_comes_25 : decode cX8_comes 25 = .ok (.getfield 7, 3) := by decide +kernel
theorem dX8_comes_28 : decode cX8_comes 28 = .ok (.iload 5, 2) := by decide +kernel
theorem dX8_comes_30 : decode cX8_comes 30 = .ok (.iload 6, 2) := by decide +kernel
theorem dX8_comes_32 : decode cX8_comes 32 = .ok (.iadd, 1) := by decide +kernel
theorem dX8_comes_33 : decode cX8_comes 33 = .ok (.iconst 0, 1) := by decide +kernel
theorem dX8_comes_34 : decode cX8_comes 34 = .ok (.iastore, 1) := by decide +kernel
theorem dX8_comes_35 : decode cX8_comes 35 = .ok (.iinc 6 1, 3) := by decide +kernel
theorem dX8_comes_38 : decode cX8_comes 38 = .ok (.goto (-21), 3) := by decide +kernel
theorem dX8_comes_41 : decode cX8_comes 41 = .ok (.aload_n 0, 1) := by decide +kernel
theorem dX8_comes_42 : decode cX8_comes 42 = .ok (.getfield 7, 3) := by decide +kernel
theorem dX8_comes_45 : decode cX8_comes 45 = .ok (.iload 5, 2) := by decide +kernel
theorem dX8_comes_47 : decode cX8_comes 47 = .ok (.iconst 0, 1) := by decide +kernel
theorem dX8_comes_48 : decode cX8_comes 48 = .ok (.iadd, 1) := by decide +kernel
theorem dX8_comes_49 : decode cX8_comes 49 = .ok (.iload_n 1, 1) := by decide +kernel
theorem dX8_comes_50 : decode cX8_comes 50 = .ok (.iastore, 1) := by decide +kernel
theorem dX8_comes_51 : decode cX8_comes 51 = .ok (.aload_n 0, 1) := by decide +kernel
theorem dX8_comes_52 : decode cX8_comes 52 = .ok (.getfield 7, 3) := by decide +kernel
theorem dX8_comes_55 : decode cX8_comes 55 = .ok (.iload 5, 2) := by decide +kernel
theorem dX8_comes_57 : decode cX8_comes 57 = .ok (.iconst 1, 1) := by decide +kernel
theorem dX8_comes_58 : decode cX8_comes 58 = .ok (.iadd, 1) := by decide +kernel
theorem dX8_comes_59 : decode cX8_comes 59 = .ok (.iload_n 2, 1) := by decide +kernel
theorem dX8_comes_60 : decode cX8_comes 60 = .ok (.iastore, 1) := by decide +kernel
theorem dX8_comes_61 : decode cX8_comes 61 = .ok (.aload_n 0, 1) := by decide +kernel
theorem dX8_comes_62 : decode cX8_comes 62 = .ok (.getfield 7, 3) := by decide +kernel
theorem dX8_comes_65 : decode cX8_comes 65 = .ok (.iload 5, 2) := by decide +kernel
theorem dX8_comes_67 : decode cX8_comes 67 = .ok (.iconst 2, 1) := by decide +kernel
theorem dX8_comes_68 : decode cX8_comes 68 = .ok (.iadd, 1) := by decide +kernel
theorem dX8_comes_69 : decode cX8_comes 69 = .ok (.iload_n 3, 1) := by decide +kernel
theorem dX8_comes_70 : decode cX8_comes 70 = .ok (.iastore, 1) := by decide +kernel
theorem dX8_comes_71 : decode cX8_comes 71 = .ok (.aload_n 0, 1) := by decide +kernel
theorem dX8_comes_72 : decode cX8_comes 72 = .ok (.getfield 7, 3) := by decide +kernel
theorem dX8_comes_75 : decode cX8_comes 75 = .ok (.iload 5, 2) := by decide +kernel
theorem dX8_comes_77 : decode cX8_comes 77 = .ok (.iconst 3, 1) := by decide +kernel
theorem dX8_comes_78 : decode cX8_comes 78 = .ok (.iadd, 1) := by decide +kernel
theorem dX8_comes_79 : decode cX8_comes 79 = .ok (.iload 4, 2) := by decide +kernel
theorem dX8_comes_81 : decode cX8_comes 81 = .ok (.iastore, 1) := by decide +kernel
theorem dX8_comes_82 : decode cX8_comes 82 = .ok (.aload_n 0, 1) := by decide +kernel
theorem dX8_comes_83 : decode cX8_comes 83 = .ok (.getfield 7, 3) := by decide +kernel
theorem dX8_comes_86 : decode cX8_comes 86 = .ok (.iload 5, 2) := by decide +kernel
theorem dX8_comes_88 : decode cX8_comes 88 = .ok (.iconst 4, 1) := by decide +kernel
theorem dX8_comes_89 : decode cX8_comes 89 = .ok (.iadd, 1) := by decide +kernel
theorem dX8_comes_90 : decode cX8_comes 90 = .ok (.iload_n 2, 1) := by decide +kernel
theorem dX8_comes_91 : decode cX8_comes 91 = .ok (.iastore, 1) := by decide +kernel
theorem dX8_comes_92 : decode cX8_comes 92 = .ok (.aload_n 0, 1) := by decide +kernel
theorem dX8_comes_93 : decode cX8_comes 93 = .ok (.getfield 7, 3) := by decide +kernel
theorem dX8_comes_96 : decode cX8_comes 96 = .ok (.iconst 1, 1) := by decide +kernel
theorem dX8_comes_97 : decode cX8_comes 97 = .ok (.dup2, 1) := by decide +kernel
theorem dX8_comes_98 : decode cX8_comes 98 = .ok (.iaload, 1) := by decide +kernel
theorem dX8_comes_99 : decode cX8_comes 99 = .ok (.iconst 1, 1) := by decide +kernel
theorem dX8_comes_100 : decode cX8_comes 100 = .ok (.iadd, 1) := by decide +kernel
theorem dX8_comes_101 : decode cX8_comes 101 = .ok (.iastore, 1) := by decide +kernel
theorem dX8_comes_102 : decode cX8_comes 102 = .ok (.aload_n 0, 1) := by decide +kernel
theorem dX8_comes_103 : decode cX8_comes 103 = .ok (.getfield 7, 3) := by decide +kernel
theorem dX8_comes_106 : decode cX8_comes 106 = .ok (.iconst 1, 1) := by decide +kernel
theorem dX8_comes_107 : decode cX8_comes 107 = .ok (.iaload, 1) := by decide +kernel
theorem dX8_comes_108 : decode cX8_comes 108 = .ok (.iconst 1, 1) := by decide +kernel
theorem dX8_comes_109 : decode cX8_comes 109 = .ok (.isub, 1) := by decide +kernel
theorem dX8_comes_110 : decode cX8_comes 110 = .ok (.ireturn, 1) := by decide +kernel
theorem dX8_field_0 : decode cX8_field 0 = .ok (.aload_n 0, 1) := by decide +kernel
theorem dX8_field_1 : decode cX8_field 1 = .ok (.iload_n 1, 1) := by decide +kernel
theorem dX8_field_2 : decode cX8_field 2 = .ok (.iload_n 2, 1) := by decide +kernel
theorem dX8_field_3 : decode cX8_field 3 = .ok (.iload_n 3, 1) := by decide +kernel
theorem dX8_field_4 : decode cX8_field 4 = .ok (.iload 4, 2) := by decide +kernel
theorem dX8_field_6 : decode cX8_field 6 = .ok (.invokevirtual 117, 3) := by decide +kernel
theorem dX8_field_9 : decode cX8_field 9 = .ok (.istore 5, 2) := by decide +kernel
theorem dX8_field_11 : decode cX8_field 11 = .ok (.iload 5, 2) := by decide +kernel
theorem dX8_field_13 : decode cX8_field 13 = .ok (.ifCond .eq 6, 3) := by decide +kernel
theorem dX8_field_16 : decode cX8_field 16 = .ok (.iload 5, 2) := by decide +kernel
theorem dX8_field_18 : decode cX8_field 18 = .ok (.ireturn, 1) := by decide +kernel
theorem dX8_field_19 : decode cX8_field 19 = .ok (.aload_n 0, 1) := by decide +kernel
theorem dX8_field_20 : decode cX8_field 20 = .ok (.invokevirtual 44, 3) := by decide +kernel
theorem dX8_field_23 : decode cX8_field 23 = .ok (.aload_n 0, 1) := by decide +kernel
theorem dX8_field_24 : decode cX8_field 24 = .ok (.iload_n 1, 1) := by decide +kernel
theorem dX8_field_25 : decode cX8_field 25 = .ok (.iload_n 2, 1) := by decide +kernel
theorem dX8_field_26 : decode cX8_field 26 = .ok (.iload_n 3, 1) := by decide +kernel
theorem dX8_field_27 : decode cX8_field 27 = .ok (.iload 4, 2) := by decide +kernel
theorem dX8_field_29 : decode cX8_field 29 = .ok (.invokevirtual 121, 3) := by decide +kernel
theorem dX8_field_32 : decode cX8_field 32 = .ok (.ireturn, 1) := by decide +kernel
theorem dX8_mayStop_0 : decode cX8_mayStop 0 = .ok (.iload_n 1, 1) := by decide +kernel
theorem dX8_mayStop_1 : decode cX8_mayStop 1 = .ok (.invokestatic 124, 3) := by decide +kernel
theorem dX8_mayStop_4 : decode cX8_mayStop 4 = .ok (.ifCond .eq 14, 3) := by decide +kernel
theorem dX8_mayStop_7 : decode cX8_mayStop 7 = .ok (.iload_n 2, 1) := by decide +kernel
theorem dX8_mayStop_8 : decode cX8_mayStop 8 = .ok (.iload_n 1, 1) := by decide +kernel
theorem dX8_mayStop_9 : decode cX8_mayStop 9 = .ok (.sipush 999, 3) := by decide +kernel
theorem dX8_mayStop_12 : decode cX8_mayStop 12 = .ok (.invokestatic 32, 3) := by decide +kernel
theorem dX8_mayStop_15 : decode cX8_mayStop 15 = .ok (.ifCond .ne 8, 3) := by decide +kernel
theorem dX8_mayStop_18 : decode cX8_mayStop 18 = .ok (.bipush (-2), 2) := by decide +kernel
theorem dX8_mayStop_20 : decode cX8_mayStop 20 = .ok (.goto 19, 3) := by decide +kernel
theorem dX8_mayStop_23 : decode cX8_mayStop 23 = .ok (.aload_n 0, 1) := by decide +kernel
theorem dX8_mayStop_24 : decode cX8_mayStop 24 = .ok (.getfield 7, 3) := by decide +kernel
theorem dX8_mayStop_27 : decode cX8_mayStop 27 = .ok (.iconst 2, 1) := by decide +kernel
theorem dX8_mayStop_28 : decode cX8_mayStop 28 = .ok (.iaload, 1) := by decide +kernel
theorem dX8_mayStop_29 : decode cX8_mayStop 29 = .ok (.iconst 5, 1) := by decide +kernel
theorem dX8_mayStop_30 : decode cX8_mayStop 30 = .ok (.if_icmp .ne 8, 3) := by decide +kernel
theorem dX8_mayStop_33 : decode cX8_mayStop 33 = .ok (.bipush (-4), 2) := by decide +kernel
theorem dX8_mayStop_35 : decode cX8_mayStop 35 = .ok (.goto 4, 3) := by decide +kernel
theorem dX8_mayStop_38 : decode cX8_mayStop 38 = .ok (.iconst 0, 1) := by decide +kernel
theorem dX8_mayStop_39 : decode cX8_mayStop 39 = .ok (.ireturn, 1) := by decide +kernel
theorem dX8_stops_0 : decode cX8_stops 0 = .ok (.aload_n 0, 1) := by decide +kernel
theorem dX8_stops_1 : decode cX8_stops 1 = .ok (.getfield 7, 3) := by decide +kernel
theorem dX8_stops_4 : decode cX8_stops 4 = .ok (.bipush 16, 2) := by decide +kernel
theorem dX8_stops_6 : decode cX8_stops 6 = .ok (.iconst 2, 1) := by decide +kernel
theorem dX8_stops_7 : decode cX8_stops 7 = .ok (.aload_n 0, 1) := by decide +kernel
theorem dX8_stops_8 : decode cX8_stops 8 = .ok (.getfield 7, 3) := by decide +kernel
theorem dX8_stops_11 : decode cX8_stops 11 = .ok (.iconst 2, 1) := by decide +kernel
theorem dX8_stops_12 : decode cX8_stops 12 = .ok (.iaload, 1) := by decide +kernel
theorem dX8_stops_13 : decode cX8_stops 13 = .ok (.imul, 1) := by decide +kernel
theorem dX8_stops_14 : decode cX8_stops 14 = .ok (.iadd, 1) := by decide +kernel
theorem dX8_stops_15 : decode cX8_stops 15 = .ok (.iload_n 1, 1) := by decide +kernel
theorem dX8_stops_16 : decode cX8_stops 16 = .ok (.iastore, 1) := by decide +kernel
theorem dX8_stops_17 : decode cX8_stops 17 = .ok (.aload_n 0, 1) := by decide +kernel
theorem dX8_stops_18 : decode cX8_stops 18 = .ok (.getfield 7, 3) := by decide +kernel
theorem dX8_stops_21 : decode cX8_stops 21 = .ok (.bipush 16, 2) := by decide +kernel
theorem dX8_stops_23 : decode cX8_stops 23 = .ok (.iconst 2, 1) := by decide +kernel
theorem dX8_stops_24 : decode cX8_stops 24 = .ok (.aload_n 0, 1) := by decide +kernel
theorem dX8_stops_25 : decode cX8_stops 25 = .ok (.getfield 7, 3) := by decide +kernel
theorem dX8_stops_28 : decode cX8_stops 28 = .ok (.iconst 2, 1) := by decide +kernel
theorem dX8_stops_29 : decode cX8_stops 29 = .ok (.iaload, 1) := by decide +kernel
theorem dX8_stops_30 : decode cX8_stops 30 = .ok (.imul, 1) := by decide +kernel
theorem dX8_stops_31 : decode cX8_stops 31 = .ok (.iadd, 1) := by decide +kernel
theorem dX8_stops_32 : decode cX8_stops 32 = .ok (.iconst 1, 1) := by decide +kernel
theorem dX8_stops_33 : decode cX8_stops 33 = .ok (.iadd, 1) := by decide +kernel
theorem dX8_stops_34 : decode cX8_stops 34 = .ok (.iload_n 2, 1) := by decide +kernel
theorem dX8_stops_35 : decode cX8_stops 35 = .ok (.iastore, 1) := by decide +kernel
theorem dX8_stops_36 : decode cX8_stops 36 = .ok (.aload_n 0, 1) := by decide +kernel
theorem dX8_stops_37 : decode cX8_stops 37 = .ok (.getfield 7, 3) := by decide +kernel
theorem dX8_stops_40 : decode cX8_stops 40 = .ok (.iconst 2, 1) := by decide +kernel
theorem dX8_stops_41 : decode cX8_stops 41 = .ok (.dup2, 1) := by decide +kernel
theorem dX8_stops_42 : decode cX8_stops 42 = .ok (.iaload, 1) := by decide +kernel
theorem dX8_stops_43 : decode cX8_stops 43 = .ok (.iconst 1, 1) := by decide +kernel
theorem dX8_stops_44 : decode cX8_stops 44 = .ok (.iadd, 1) := by decide +kernel
theorem dX8_stops_45 : decode cX8_stops 45 = .ok (.iastore, 1) := by decide +kernel
theorem dX8_stops_46 : decode cX8_stops 46 = .ok (.aload_n 0, 1) := by decide +kernel
theorem dX8_stops_47 : decode cX8_stops 47 = .ok (.getfield 7, 3) := by decide +kernel
theorem dX8_stops_50 : decode cX8_stops 50 = .ok (.iconst 2, 1) := by decide +kernel
theorem dX8_stops_51 : decode cX8_stops 51 = .ok (.iaload, 1) := by decide +kernel
theorem dX8_stops_52 : decode cX8_stops 52 = .ok (.iconst 1, 1) := by decide +kernel
theorem dX8_stops_53 : decode cX8_stops 53 = .ok (.isub, 1) := by decide +kernel
theorem dX8_stops_54 : decode cX8_stops 54 = .ok (.ireturn, 1) := by decide +kernel
theorem dX8_stop_0 : decode cX8_stop 0 = .ok (.aload_n 0, 1) := by decide +kernel
theorem dX8_stop_1 : decode cX8_stop 1 = .ok (.iload_n 1, 1) := by decide +kernel
theorem dX8_stop_2 : decode cX8_stop 2 = .ok (.iload_n 2, 1) := by decide +kernel
theorem dX8_stop_3 : decode cX8_stop 3 = .ok (.invokevirtual 127, 3) := by decide +kernel
theorem dX8_stop_6 : decode cX8_stop 6 = .ok (.istore_n 3, 1) := by decide +kernel
theorem dX8_stop_7 : decode cX8_stop 7 = .ok (.iload_n 3, 1) := by decide +kernel
theorem dX8_stop_8 : decode cX8_stop 8 = .ok (.ifCond .eq 5, 3) := by decide +kernel
theorem dX8_stop_11 : decode cX8_stop 11 = .ok (.iload_n 3, 1) := by decide +kernel
theorem dX8_stop_12 : decode cX8_stop 12 = .ok (.ireturn, 1) := by decide +kernel
theorem dX8_stop_13 : decode cX8_stop 13 = .ok (.aload_n 0, 1) := by decide +kernel
theorem dX8_stop_14 : decode cX8_stop 14 = .ok (.invokevirtual 44, 3) := by decide +kernel
theorem dX8_stop_17 : decode cX8_stop 17 = .ok (.aload_n 0, 1) := by decide +kernel
theorem dX8_stop_18 : decode cX8_stop 18 = .ok (.iload_n 1, 1) := by decide +kernel
theorem dX8_stop_19 : decode cX8_stop 19 = .ok (.iload_n 2, 1) := by decide +kernel
theorem dX8_stop_20 : decode cX8_stop 20 = .ok (.invokevirtual 130, 3) := by decide +kernel
theorem dX8_stop_23 : decode cX8_stop 23 = .ok (.ireturn, 1) := by decide +kernel
theorem dX8_dropStop_0 : decode cX8_dropStop 0 = .ok (.iload_n 1, 1) := by decide +kernel
theorem dX8_dropStop_1 : decode cX8_dropStop 1 = .ok (.iconst 0, 1) := by decide +kernel
theorem dX8_dropStop_2 : decode cX8_dropStop 2 = .ok (.aload_n 0, 1) := by decide +kernel
theorem dX8_dropStop_3 : decode cX8_dropStop 3 = .ok (.getfield 7, 3) := by decide +kernel
theorem dX8_dropStop_6 : decode cX8_dropStop 6 = .ok (.iconst 2, 1) := by decide +kernel
theorem dX8_dropStop_7 : decode cX8_dropStop 7 = .ok (.iaload, 1) := by decide +kernel
theorem dX8_dropStop_8 : decode cX8_dropStop 8 = .ok (.iconst 1, 1) := by decide +kernel
theorem dX8_dropStop_9 : decode cX8_dropStop 9 = .ok (.isub, 1) := by decide +kernel
theorem dX8_dropStop_10 : decode cX8_dropStop 10 = .ok (.invokestatic 32, 3) := by decide +kernel
theorem dX8_dropStop_13 : decode cX8_dropStop 13 = .ok (.ifCond .ne 5, 3) := by decide +kernel
theorem dX8_dropStop_16 : decode cX8_dropStop 16 = .ok (.iconst (-1), 1) := by decide +kernel
theorem dX8_dropStop_17 : decode cX8_dropStop 17 = .ok (.ireturn, 1) := by decide +kernel
theorem dX8_dropStop_18 : decode cX8_dropStop 18 = .ok (.aload_n 0, 1) := by decide +kernel
theorem dX8_dropStop_19 : decode cX8_dropStop 19 = .ok (.invokevirtual 44, 3) := by decide +kernel
theorem dX8_dropStop_22 : decode cX8_dropStop 22 = .ok (.aload_n 0, 1) := by decide +kernel
theorem dX8_dropStop_23 : decode cX8_dropStop 23 = .ok (.getfield 7, 3) := by decide +kernel
theorem dX8_dropStop_26 : decode cX8_dropStop 26 = .ok (.iconst 2, 1) := by decide +kernel
theorem dX8_dropStop_27 : decode cX8_dropStop 27 = .ok (.dup2, 1) := by decide +kernel
theorem dX8_dropStop_28 : decode cX8_dropStop 28 = .ok (.iaload, 1) := by decide +kernel
theorem dX8_dropStop_29 : decode cX8_dropStop 29 = .ok (.iconst 1, 1) := by decide +kernel
theorem dX8_dropStop_30 : decode cX8_dropStop 30 = .ok (.isub, 1) := by decide +kernel
theorem dX8_dropStop_31 : decode cX8_dropStop 31 = .ok (.iastore, 1) := by decide +kernel
theorem dX8_dropStop_32 : decode cX8_dropStop 32 = .ok (.bipush 16, 2) := by decide +kernel
theorem dX8_dropStop_34 : decode cX8_dropStop 34 = .ok (.iconst 2, 1) := by decide +kernel
theorem dX8_dropStop_35 : decode cX8_dropStop 35 = .ok (.iload_n 1, 1) := by decide +kernel
theorem dX8_dropStop_36 : decode cX8_dropStop 36 = .ok (.imul, 1) := by decide +kernel
theorem dX8_dropStop_37 : decode cX8_dropStop 37 = .ok (.iadd, 1) := by decide +kernel
theorem dX8_dropStop_38 : decode cX8_dropStop 38 = .ok (.istore_n 2, 1) := by decide +kernel
theorem dX8_dropStop_39 : decode cX8_dropStop 39 = .ok (.iload_n 2, 1) := by decide +kernel
theorem dX8_dropStop_40 : decode cX8_dropStop 40 = .ok (.bipush 16, 2) := by decide +kernel
theorem dX8_dropStop_42 : decode cX8_dropStop 42 = .ok (.iconst 2, 1) := by decide +kernel
theorem dX8_dropStop_43 : decode cX8_dropStop 43 = .ok (.aload_n 0, 1) := by decide +kernel
theorem dX8_dropStop_44 : decode cX8_dropStop 44 = .ok (.getfield 7, 3) := by decide +kernel
theorem dX8_dropStop_47 : decode cX8_dropStop 47 = .ok (.iconst 2, 1) := by decide +kernel
theorem dX8_dropStop_48 : decode cX8_dropStop 48 = .ok (.iaload, 1) := by decide +kernel
theorem dX8_dropStop_49 : decode cX8_dropStop 49 = .ok (.imul, 1) := by decide +kernel
theorem dX8_dropStop_50 : decode cX8_dropStop 50 = .ok (.iadd, 1) := by decide +kernel
theorem dX8_dropStop_51 : decode cX8_dropStop 51 = .ok (.if_icmp .ge 23, 3) := by decide +kernel
theorem dX8_dropStop_54 : decode cX8_dropStop 54 = .ok (.aload_n 0, 1) := by decide +kernel
theorem dX8_dropStop_55 : decode cX8_dropStop 55 = .ok (.getfield 7, 3) := by decide +kernel
theorem dX8_dropStop_58 : decode cX8_dropStop 58 = .ok (.iload_n 2, 1) := by decide +kernel
theorem dX8_dropStop_59 : decode cX8_dropStop 59 = .ok (.aload_n 0, 1) := by decide +kernel
theorem dX8_dropStop_60 : decode cX8_dropStop 60 = .ok (.getfield 7, 3) := by decide +kernel
theorem dX8_dropStop_63 : decode cX8_dropStop 63 = .ok (.iload_n 2, 1) := by decide +kernel
theorem dX8_dropStop_64 : decode cX8_dropStop 64 = .ok (.iconst 2, 1) := by decide +kernel
theorem dX8_dropStop_65 : decode cX8_dropStop 65 = .ok (.iadd, 1) := by decide +kernel
theorem dX8_dropStop_66 : decode cX8_dropStop 66 = .ok (.iaload, 1) := by decide +kernel
theorem dX8_dropStop_67 : decode cX8_dropStop 67 = .ok (.iastore, 1) := by decide +kernel
theorem dX8_dropStop_68 : decode cX8_dropStop 68 = .ok (.iinc 2 1, 3) := by decide +kernel
theorem dX8_dropStop_71 : decode cX8_dropStop 71 = .ok (.goto (-32), 3) := by decide +kernel
theorem dX8_dropStop_74 : decode cX8_dropStop 74 = .ok (.aload_n 0, 1) := by decide +kernel
theorem dX8_dropStop_75 : decode cX8_dropStop 75 = .ok (.getfield 7, 3) := by decide +kernel
theorem dX8_dropStop_78 : decode cX8_dropStop 78 = .ok (.iconst 2, 1) := by decide +kernel
theorem dX8_dropStop_79 : decode cX8_dropStop 79 = .ok (.iaload, 1) := by decide +kernel
theorem dX8_dropStop_80 : decode cX8_dropStop 80 = .ok (.ireturn, 1) := by decide +kernel
theorem dX8_mayPass_0 : decode cX8_mayPass 0 = .ok (.iload_n 1, 1) := by decide +kernel
theorem dX8_mayPass_1 : decode cX8_mayPass 1 = .ok (.iconst 1, 1) := by decide +kernel
theorem dX8_mayPass_2 : decode cX8_mayPass 2 = .ok (.bipush 99, 2) := by decide +kernel
theorem dX8_mayPass_4 : decode cX8_mayPass 4 = .ok (.invokestatic 32, 3) := by decide +kernel
theorem dX8_mayPass_7 : decode cX8_mayPass 7 = .ok (.ifCond .ne 8, 3) := by decide +kernel
theorem dX8_mayPass_10 : decode cX8_mayPass 10 = .ok (.bipush (-2), 2) := by decide +kernel
theorem dX8_mayPass_12 : decode cX8_mayPass 12 = .ok (.goto 23, 3) := by decide +kernel
theorem dX8_mayPass_15 : decode cX8_mayPass 15 = .ok (.aload_n 0, 1) := by decide +kernel
theorem dX8_mayPass_16 : decode cX8_mayPass 16 = .ok (.getfield 7, 3) := by decide +kernel
theorem dX8_mayPass_19 : decode cX8_mayPass 19 = .ok (.iconst 0, 1) := by decide +kernel
theorem dX8_mayPass_20 : decode cX8_mayPass 20 = .ok (.iaload, 1) := by decide +kernel
theorem dX8_mayPass_21 : decode cX8_mayPass 21 = .ok (.iload_n 1, 1) := by decide +kernel
theorem dX8_mayPass_22 : decode cX8_mayPass 22 = .ok (.iadd, 1) := by decide +kernel
theorem dX8_mayPass_23 : decode cX8_mayPass 23 = .ok (.sipush 1000, 3) := by decide +kernel
theorem dX8_mayPass_26 : decode cX8_mayPass 26 = .ok (.if_icmp .le 8, 3) := by decide +kernel
theorem dX8_mayPass_29 : decode cX8_mayPass 29 = .ok (.bipush (-5), 2) := by decide +kernel
theorem dX8_mayPass_31 : decode cX8_mayPass 31 = .ok (.goto 4, 3) := by decide +kernel
theorem dX8_mayPass_34 : decode cX8_mayPass 34 = .ok (.iconst 0, 1) := by decide +kernel
theorem dX8_mayPass_35 : decode cX8_mayPass 35 = .ok (.ireturn, 1) := by decide +kernel
theorem dX8_pass_0 : decode cX8_pass 0 = .ok (.aload_n 0, 1) := by decide +kernel
theorem dX8_pass_1 : decode cX8_pass 1 = .ok (.iload_n 1, 1) := by decide +kernel
theorem dX8_pass_2 : decode cX8_pass 2 = .ok (.invokevirtual 133, 3) := by decide +kernel
theorem dX8_pass_5 : decode cX8_pass 5 = .ok (.istore_n 2, 1) := by decide +kernel
theorem dX8_pass_6 : decode cX8_pass 6 = .ok (.iload_n 2, 1) := by decide +kernel
theorem dX8_pass_7 : decode cX8_pass 7 = .ok (.ifCond .eq 5, 3) := by decide +kernel
theorem dX8_pass_10 : decode cX8_pass 10 = .ok (.iload_n 2, 1) := by decide +kernel
theorem dX8_pass_11 : decode cX8_pass 11 = .ok (.ireturn, 1) := by decide +kernel
theorem dX8_pass_12 : decode cX8_pass 12 = .ok (.aload_n 0, 1) := by decide +kernel
theorem dX8_pass_13 : decode cX8_pass 13 = .ok (.invokevirtual 44, 3) := by decide +kernel
theorem dX8_pass_16 : decode cX8_pass 16 = .ok (.aload_n 0, 1) := by decide +kernel
theorem dX8_pass_17 : decode cX8_pass 17 = .ok (.getfield 7, 3) := by decide +kernel
theorem dX8_pass_20 : decode cX8_pass 20 = .ok (.iload_n 1, 1) := by decide +kernel
theorem dX8_pass_21 : decode cX8_pass 21 = .ok (.iconst 0, 1) := by decide +kernel
theorem dX8_pass_22 : decode cX8_pass 22 = .ok (.invokestatic 137, 3) := by decide +kernel
theorem dX8_pass_25 : decode cX8_pass 25 = .ok (.aload_n 0, 1) := by decide +kernel
theorem dX8_pass_26 : decode cX8_pass 26 = .ok (.getfield 7, 3) := by decide +kernel
theorem dX8_pass_29 : decode cX8_pass 29 = .ok (.iconst 0, 1) := by decide +kernel
theorem dX8_pass_30 : decode cX8_pass 30 = .ok (.iaload, 1) := by decide +kernel
theorem dX8_pass_31 : decode cX8_pass 31 = .ok (.ireturn, 1) := by decide +kernel
theorem dX8_ofField_0 : decode cX8_ofField 0 = .ok (.iload_n 1, 1) := by decide +kernel
theorem dX8_ofField_1 : decode cX8_ofField 1 = .ok (.iconst 0, 1) := by decide +kernel
theorem dX8_ofField_2 : decode cX8_ofField 2 = .ok (.aload_n 0, 1) := by decide +kernel
theorem dX8_ofField_3 : decode cX8_ofField 3 = .ok (.getfield 7, 3) := by decide +kernel
theorem dX8_ofField_6 : decode cX8_ofField 6 = .ok (.iconst 1, 1) := by decide +kernel
theorem dX8_ofField_7 : decode cX8_ofField 7 = .ok (.iaload, 1) := by decide +kernel
theorem dX8_ofField_8 : decode cX8_ofField 8 = .ok (.iconst 1, 1) := by decide +kernel
theorem dX8_ofField_9 : decode cX8_ofField 9 = .ok (.isub, 1) := by decide +kernel
theorem dX8_ofField_10 : decode cX8_ofField 10 = .ok (.invokestatic 32, 3) := by decide +kernel
theorem dX8_ofField_13 : decode cX8_ofField 13 = .ok (.ifCond .ne 5, 3) := by decide +kernel
theorem dX8_ofField_16 : decode cX8_ofField 16 = .ok (.iconst (-1), 1) := by decide +kernel
theorem dX8_ofField_17 : decode cX8_ofField 17 = .ok (.ireturn, 1) := by decide +kernel
theorem dX8_ofField_18 : decode cX8_ofField 18 = .ok (.iload_n 2, 1) := by decide +kernel
theorem dX8_ofField_19 : decode cX8_ofField 19 = .ok (.iconst 0, 1) := by decide +kernel
theorem dX8_ofField_20 : decode cX8_ofField 20 = .ok (.bipush 9, 2) := by decide +kernel
theorem dX8_ofField_22 : decode cX8_ofField 22 = .ok (.invokestatic 32, 3) := by decide +kernel
theorem dX8_ofField_25 : decode cX8_ofField 25 = .ok (.ifCond .ne 6, 3) := by decide +kernel
theorem dX8_ofField_28 : decode cX8_ofField 28 = .ok (.bipush (-2), 2) := by decide +kernel
theorem dX8_ofField_30 : decode cX8_ofField 30 = .ok (.ireturn, 1) := by decide +kernel
theorem dX8_ofField_31 : decode cX8_ofField 31 = .ok (.iload_n 2, 1) := by decide +kernel
theorem dX8_ofField_32 : decode cX8_ofField 32 = .ok (.iconst 4, 1) := by decide +kernel
theorem dX8_ofField_33 : decode cX8_ofField 33 = .ok (.if_icmp .ge 15, 3) := by decide +kernel
theorem dX8_ofField_36 : decode cX8_ofField 36 = .ok (.aload_n 0, 1) := by decide +kernel
theorem dX8_ofField_37 : decode cX8_ofField 37 = .ok (.getfield 7, 3) := by decide +kernel
theorem dX8_ofField_40 : decode cX8_ofField 40 = .ok (.iload_n 1, 1) := by decide +kernel
theorem dX8_ofField_41 : decode cX8_ofField 41 = .ok (.iload_n 2, 1) := by decide +kernel
theorem dX8_ofField_42 : decode cX8_ofField 42 = .ok (.invokestatic 47, 3) := by decide +kernel
theorem dX8_ofField_45 : decode cX8_ofField 45 = .ok (.goto 49, 3) := by decide +kernel
theorem dX8_ofField_48 : decode cX8_ofField 48 = .ok (.iload_n 2, 1) := by decide +kernel
theorem dX8_ofField_49 : decode cX8_ofField 49 = .ok (.iconst 4, 1) := by decide +kernel
theorem dX8_ofField_50 : decode cX8_ofField 50 = .ok (.if_icmp .ne 14, 3) := by decide +kernel
theorem dX8_ofField_53 : decode cX8_ofField 53 = .ok (.aload_n 0, 1) := by decide +kernel
theorem dX8_ofField_54 : decode cX8_ofField 54 = .ok (.getfield 7, 3) := by decide +kernel
theorem dX8_ofField_57 : decode cX8_ofField 57 = .ok (.iload_n 1, 1) := by decide +kernel
theorem dX8_ofField_58 : decode cX8_ofField 58 = .ok (.invokestatic 51, 3) := by decide +kernel
theorem dX8_ofField_61 : decode cX8_ofField 61 = .ok (.goto 33, 3) := by decide +kernel
theorem dX8_ofField_64 : decode cX8_ofField 64 = .ok (.iload_n 2, 1) := by decide +kernel
theorem dX8_ofField_65 : decode cX8_ofField 65 = .ok (.bipush 9, 2) := by decide +kernel
theorem dX8_ofField_67 : decode cX8_ofField 67 = .ok (.if_icmp .ne 14, 3) := by decide +kernel
theorem dX8_ofField_70 : decode cX8_ofField 70 = .ok (.aload_n 0, 1) := by decide +kernel
theorem dX8_ofField_71 : decode cX8_ofField 71 = .ok (.getfield 7, 3) := by decide +kernel
theorem dX8_ofField_74 : decode cX8_ofField 74 = .ok (.iload_n 1, 1) := by decide +kernel
theorem dX8_ofField_75 : decode cX8_ofField 75 = .ok (.invokestatic 67, 3) := by decide +kernel
theorem dX8_ofField_78 : decode cX8_ofField 78 = .ok (.goto 16, 3) := by decide +kernel
theorem dX8_ofField_81 : decode cX8_ofField 81 = .ok (.aload_n 0, 1) := by decide +kernel
theorem dX8_ofField_82 : decode cX8_ofField 82 = .ok (.getfield 7, 3) := by decide +kernel
theorem dX8_ofField_85 : decode cX8_ofField 85 = .ok (.iload_n 1, 1) := by decide +kernel
theorem dX8_ofField_86 : decode cX8_ofField 86 = .ok (.iconst 4, 1) := by decide +kernel
theorem dX8_ofField_87 : decode cX8_ofField 87 = .ok (.iload_n 2, 1) := by decide +kernel
theorem dX8_ofField_88 : decode cX8_ofField 88 = .ok (.iadd, 1) := by decide +kernel
theorem dX8_ofField_89 : decode cX8_ofField 89 = .ok (.iconst 5, 1) := by decide +kernel
theorem dX8_ofField_90 : decode cX8_ofField 90 = .ok (.isub, 1) := by decide +kernel
theorem dX8_ofField_91 : decode cX8_ofField 91 = .ok (.invokestatic 47, 3) := by decide +kernel
theorem dX8_ofField_94 : decode cX8_ofField 94 = .ok (.ireturn, 1) := by decide +kernel
theorem dX8_burnt_0 : decode cX8_burnt 0 = .ok (.iconst 0, 1) := by decide +kernel
theorem dX8_burnt_1 : decode cX8_burnt 1 = .ok (.istore_n 2, 1) := by decide +kernel
theorem dX8_burnt_2 : decode cX8_burnt 2 = .ok (.iconst 0, 1) := by decide +kernel
theorem dX8_burnt_3 : decode cX8_burnt 3 = .ok (.istore_n 3, 1) := by decide +kernel
theorem dX8_burnt_4 : decode cX8_burnt 4 = .ok (.iload_n 3, 1) := by decide +kernel
theorem dX8_burnt_5 : decode cX8_burnt 5 = .ok (.aload_n 0, 1) := by decide +kernel
theorem dX8_burnt_6 : decode cX8_burnt 6 = .ok (.getfield 7, 3) := by decide +kernel
theorem dX8_burnt_9 : decode cX8_burnt 9 = .ok (.iconst 1, 1) := by decide +kernel
theorem dX8_burnt_10 : decode cX8_burnt 10 = .ok (.iaload, 1) := by decide +kernel
theorem dX8_burnt_11 : decode cX8_burnt 11 = .ok (.if_icmp .ge 50, 3) := by decide +kernel
theorem dX8_burnt_14 : decode cX8_burnt 14 = .ok (.iload_n 2, 1) := by decide +kernel
theorem dX8_burnt_15 : decode cX8_burnt 15 = .ok (.aload_n 0, 1) := by decide +kernel
theorem dX8_burnt_16 : decode cX8_burnt 16 = .ok (.getfield 7, 3) := by decide +kernel
theorem dX8_burnt_19 : decode cX8_burnt 19 = .ok (.iload_n 3, 1) := by decide +kernel
theorem dX8_burnt_20 : decode cX8_burnt 20 = .ok (.iconst 0, 1) := by decide +kernel
theorem dX8_burnt_21 : decode cX8_burnt 21 = .ok (.invokestatic 47, 3) := by decide +kernel
theorem dX8_burnt_24 : decode cX8_burnt 24 = .ok (.iload_n 1, 1) := by decide +kernel
theorem dX8_burnt_25 : decode cX8_burnt 25 = .ok (.if_icmp .ne 27, 3) := by decide +kernel
theorem dX8_burnt_28 : decode cX8_burnt 28 = .ok (.aload_n 0, 1) := by decide +kernel
theorem dX8_burnt_29 : decode cX8_burnt 29 = .ok (.getfield 7, 3) := by decide +kernel
theorem dX8_burnt_32 : decode cX8_burnt 32 = .ok (.iload_n 3, 1) := by decide +kernel
theorem dX8_burnt_33 : decode cX8_burnt 33 = .ok (.invokestatic 51, 3) := by decide +kernel
theorem dX8_burnt_36 : decode cX8_burnt 36 = .ok (.iconst 1, 1) := by decide +kernel
theorem dX8_burnt_37 : decode cX8_burnt 37 = .ok (.if_icmp .ne 15, 3) := by decide +kernel
theorem dX8_burnt_40 : decode cX8_burnt 40 = .ok (.aload_n 0, 1) := by decide +kernel
theorem dX8_burnt_41 : decode cX8_burnt 41 = .ok (.getfield 7, 3) := by decide +kernel
theorem dX8_burnt_44 : decode cX8_burnt 44 = .ok (.iload_n 3, 1) := by decide +kernel
theorem dX8_burnt_45 : decode cX8_burnt 45 = .ok (.iconst 4, 1) := by decide +kernel
theorem dX8_burnt_46 : decode cX8_burnt 46 = .ok (.invokestatic 47, 3) := by decide +kernel
theorem dX8_burnt_49 : decode cX8_burnt 49 = .ok (.goto 4, 3) := by decide +kernel
theorem dX8_burnt_52 : decode cX8_burnt 52 = .ok (.iconst 0, 1) := by decide +kernel
theorem dX8_burnt_53 : decode cX8_burnt 53 = .ok (.iadd, 1) := by decide +kernel
theorem dX8_burnt_54 : decode cX8_burnt 54 = .ok (.istore_n 2, 1) := by decide +kernel
theorem dX8_burnt_55 : decode cX8_burnt 55 = .ok (.iinc 3 1, 3) := by decide +kernel
theorem dX8_burnt_58 : decode cX8_burnt 58 = .ok (.goto (-54), 3) := by decide +kernel
theorem dX8_burnt_61 : decode cX8_burnt 61 = .ok (.iload_n 2, 1) := by decide +kernel
theorem dX8_burnt_62 : decode cX8_burnt 62 = .ok (.ireturn, 1) := by decide +kernel
theorem dX8_ofGrower_0 : decode cX8_ofGrower 0 = .ok (.iload_n 1, 1) := by decide +kernel
theorem dX8_ofGrower_1 : decode cX8_ofGrower 1 = .ok (.invokestatic 103, 3) := by decide +kernel
theorem dX8_ofGrower_4 : decode cX8_ofGrower 4 = .ok (.ifCond .ne 5, 3) := by decide +kernel
theorem dX8_ofGrower_7 : decode cX8_ofGrower 7 = .ok (.iconst (-1), 1) := by decide +kernel
theorem dX8_ofGrower_8 : decode cX8_ofGrower 8 = .ok (.ireturn, 1) := by decide +kernel
theorem dX8_ofGrower_9 : decode cX8_ofGrower 9 = .ok (.iload_n 2, 1) := by decide +kernel
theorem dX8_ofGrower_10 : decode cX8_ofGrower 10 = .ok (.iconst 0, 1) := by decide +kernel
theorem dX8_ofGrower_11 : decode cX8_ofGrower 11 = .ok (.iconst 5, 1) := by decide +kernel
theorem dX8_ofGrower_12 : decode cX8_ofGrower 12 = .ok (.invokestatic 32, 3) := by decide +kernel
theorem dX8_ofGrower_15 : decode cX8_ofGrower 15 = .ok (.ifCond .ne 6, 3) := by decide +kernel
theorem dX8_ofGrower_18 : decode cX8_ofGrower 18 = .ok (.bipush (-2), 2) := by decide +kernel
theorem dX8_ofGrower_20 : decode cX8_ofGrower 20 = .ok (.ireturn, 1) := by decide +kernel
theorem dX8_ofGrower_21 : decode cX8_ofGrower 21 = .ok (.iload_n 2, 1) := by decide +kernel
theorem dX8_ofGrower_22 : decode cX8_ofGrower 22 = .ok (.ifCond .ne 15, 3) := by decide +kernel
theorem dX8_ofGrower_25 : decode cX8_ofGrower 25 = .ok (.aload_n 0, 1) := by decide +kernel
theorem dX8_ofGrower_26 : decode cX8_ofGrower 26 = .ok (.getfield 7, 3) := by decide +kernel
theorem dX8_ofGrower_29 : decode cX8_ofGrower 29 = .ok (.bipush 10, 2) := by decide +kernel
theorem dX8_ofGrower_31 : decode cX8_ofGrower 31 = .ok (.iload_n 1, 1) := by decide +kernel
theorem dX8_ofGrower_32 : decode cX8_ofGrower 32 = .ok (.iadd, 1) := by decide +kernel
theorem dX8_ofGrower_33 : decode cX8_ofGrower 33 = .ok (.iaload, 1) := by decide +kernel
theorem dX8_ofGrower_34 : decode cX8_ofGrower 34 = .ok (.goto 31, 3) := by decide +kernel
theorem dX8_ofGrower_37 : decode cX8_ofGrower 37 = .ok (.iload_n 2, 1) := by decide +kernel
theorem dX8_ofGrower_38 : decode cX8_ofGrower 38 = .ok (.iconst 5, 1) := by decide +kernel
theorem dX8_ofGrower_39 : decode cX8_ofGrower 39 = .ok (.if_icmp .ge 21, 3) := by decide +kernel
theorem dX8_ofGrower_42 : decode cX8_ofGrower 42 = .ok (.aload_n 0, 1) := by decide +kernel
theorem dX8_ofGrower_43 : decode cX8_ofGrower 43 = .ok (.getfield 7, 3) := by decide +kernel
theorem dX8_ofGrower_46 : decode cX8_ofGrower 46 = .ok (.bipush 32, 2) := by decide +kernel
theorem dX8_ofGrower_48 : decode cX8_ofGrower 48 = .ok (.iconst 4, 1) := by decide +kernel
theorem dX8_ofGrower_49 : decode cX8_ofGrower 49 = .ok (.iload_n 1, 1) := by decide +kernel
theorem dX8_ofGrower_50 : decode cX8_ofGrower 50 = .ok (.imul, 1) := by decide +kernel
theorem dX8_ofGrower_51 : decode cX8_ofGrower 51 = .ok (.iadd, 1) := by decide +kernel
theorem dX8_ofGrower_52 : decode cX8_ofGrower 52 = .ok (.iload_n 2, 1) := by decide +kernel
theorem dX8_ofGrower_53 : decode cX8_ofGrower 53 = .ok (.iadd, 1) := by decide +kernel
theorem dX8_ofGrower_54 : decode cX8_ofGrower 54 = .ok (.iconst 1, 1) := by decide +kernel
theorem dX8_ofGrower_55 : decode cX8_ofGrower 55 = .ok (.isub, 1) := by decide +kernel
theorem dX8_ofGrower_56 : decode cX8_ofGrower 56 = .ok (.iaload, 1) := by decide +kernel
theorem dX8_ofGrower_57 : decode cX8_ofGrower 57 = .ok (.goto 8, 3) := by decide +kernel
theorem dX8_ofGrower_60 : decode cX8_ofGrower 60 = .ok (.aload_n 0, 1) := by decide +kernel
theorem dX8_ofGrower_61 : decode cX8_ofGrower 61 = .ok (.iload_n 1, 1) := by decide +kernel
theorem dX8_ofGrower_62 : decode cX8_ofGrower 62 = .ok (.invokevirtual 140, 3) := by decide +kernel
theorem dX8_ofGrower_65 : decode cX8_ofGrower 65 = .ok (.ireturn, 1) := by decide +kernel
theorem dX8_load_0 : decode cX8_load 0 = .ok (.iload_n 1, 1) := by decide +kernel
theorem dX8_load_1 : decode cX8_load 1 = .ok (.iconst 0, 1) := by decide +kernel
theorem dX8_load_2 : decode cX8_load 2 = .ok (.aload_n 0, 1) := by decide +kernel
theorem dX8_load_3 : decode cX8_load 3 = .ok (.getfield 7, 3) := by decide +kernel
theorem dX8_load_6 : decode cX8_load 6 = .ok (.sipush 296, 3) := by decide +kernel
theorem dX8_load_9 : decode cX8_load 9 = .ok (.iaload, 1) := by decide +kernel
theorem dX8_load_10 : decode cX8_load 10 = .ok (.iconst 1, 1) := by decide +kernel
theorem dX8_load_11 : decode cX8_load 11 = .ok (.isub, 1) := by decide +kernel
theorem dX8_load_12 : decode cX8_load 12 = .ok (.invokestatic 32, 3) := by decide +kernel
theorem dX8_load_15 : decode cX8_load 15 = .ok (.ifCond .ne 5, 3) := by decide +kernel
theorem dX8_load_18 : decode cX8_load 18 = .ok (.iconst (-1), 1) := by decide +kernel
theorem dX8_load_19 : decode cX8_load 19 = .ok (.ireturn, 1) := by decide +kernel
theorem dX8_load_20 : decode cX8_load 20 = .ok (.iload_n 2, 1) := by decide +kernel
theorem dX8_load_21 : decode cX8_load 21 = .ok (.iconst 0, 1) := by decide +kernel
theorem dX8_load_22 : decode cX8_load 22 = .ok (.iconst 2, 1) := by decide +kernel
theorem dX8_load_23 : decode cX8_load 23 = .ok (.invokestatic 32, 3) := by decide +kernel
theorem dX8_load_26 : decode cX8_load 26 = .ok (.ifCond .eq 20, 3) := by decide +kernel
theorem dX8_load_29 : decode cX8_load 29 = .ok (.aload_n 0, 1) := by decide +kernel
theorem dX8_load_30 : decode cX8_load 30 = .ok (.getfield 7, 3) := by decide +kernel
theorem dX8_load_33 : decode cX8_load 33 = .ok (.sipush 297, 3) := by decide +kernel
theorem dX8_load_36 : decode cX8_load 36 = .ok (.iconst 3, 1) := by decide +kernel
theorem dX8_load_37 : decode cX8_load 37 = .ok (.iload_n 1, 1) := by decide +kernel
theorem dX8_load_38 : decode cX8_load 38 = .ok (.imul, 1) := by decide +kernel
theorem dX8_load_39 : decode cX8_load 39 = .ok (.iadd, 1) := by decide +kernel
theorem dX8_load_40 : decode cX8_load 40 = .ok (.iload_n 2, 1) := by decide +kernel
theorem dX8_load_41 : decode cX8_load 41 = .ok (.iadd, 1) := by decide +kernel
theorem dX8_load_42 : decode cX8_load 42 = .ok (.iaload, 1) := by decide +kernel
theorem dX8_load_43 : decode cX8_load 43 = .ok (.goto 5, 3) := by decide +kernel
theorem dX8_load_46 : decode cX8_load 46 = .ok (.bipush (-2), 2) := by decide +kernel
theorem dX8_load_48 : decode cX8_load 48 = .ok (.ireturn, 1) := by decide +kernel
theorem dX8_count_0 : decode cX8_count 0 = .ok (.iload_n 1, 1) := by decide +kernel
theorem dX8_count_1 : decode cX8_count 1 = .ok (.iconst 0, 1) := by decide +kernel
theorem dX8_count_2 : decode cX8_count 2 = .ok (.bipush 19, 2) := by decide +kernel
theorem dX8_count_4 : decode cX8_count 4 = .ok (.invokestatic 32, 3) := by decide +kernel
theorem dX8_count_7 : decode cX8_count 7 = .ok (.ifCond .ne 6, 3) := by decide +kernel
theorem dX8_count_10 : decode cX8_count 10 = .ok (.bipush (-2), 2) := by decide +kernel
theorem dX8_count_12 : decode cX8_count 12 = .ok (.ireturn, 1) := by decide +kernel
theorem dX8_count_13 : decode cX8_count 13 = .ok (.iload_n 1, 1) := by decide +kernel
theorem dX8_count_14 : decode cX8_count 14 = .ok (.iconst 5, 1) := by decide +kernel
theorem dX8_count_15 : decode cX8_count 15 = .ok (.if_icmp .ge 41, 3) := by decide +kernel
theorem dX8_count_18 : decode cX8_count 18 = .ok (.iload_n 1, 1) := by decide +kernel
theorem dX8_count_19 : decode cX8_count 19 = .ok (.iconst 3, 1) := by decide +kernel
theorem dX8_count_20 : decode cX8_count 20 = .ok (.if_icmp .ge 12, 3) := by decide +kernel
theorem dX8_count_23 : decode cX8_count 23 = .ok (.aload_n 0, 1) := by decide +kernel
theorem dX8_count_24 : decode cX8_count 24 = .ok (.getfield 7, 3) := by decide +kernel
theorem dX8_count_27 : decode cX8_count 27 = .ok (.iload_n 1, 1) := by decide +kernel
theorem dX8_count_28 : decode cX8_count 28 = .ok (.iaload, 1) := by decide +kernel
theorem dX8_count_29 : decode cX8_count 29 = .ok (.goto 26, 3) := by decide +kernel
theorem dX8_count_32 : decode cX8_count 32 = .ok (.iload_n 1, 1) := by decide +kernel
theorem dX8_count_33 : decode cX8_count 33 = .ok (.iconst 3, 1) := by decide +kernel
theorem dX8_count_34 : decode cX8_count 34 = .ok (.if_icmp .ne 13, 3) := by decide +kernel
theorem dX8_count_37 : decode cX8_count 37 = .ok (.aload_n 0, 1) := by decide +kernel
theorem dX8_count_38 : decode cX8_count 38 = .ok (.getfield 7, 3) := by decide +kernel
theorem dX8_count_41 : decode cX8_count 41 = .ok (.invokestatic 59, 3) := by decide +kernel
theorem dX8_count_44 : decode cX8_count 44 = .ok (.goto 11, 3) := by decide +kernel
theorem dX8_count_47 : decode cX8_count 47 = .ok (.aload_n 0, 1) := by decide +kernel
theorem dX8_count_48 : decode cX8_count 48 = .ok (.getfield 7, 3) := by decide +kernel
theorem dX8_count_51 : decode cX8_count 51 = .ok (.sipush 296, 3) := by decide +kernel
theorem dX8_count_54 : decode cX8_count 54 = .ok (.iaload, 1) := by decide +kernel
theorem dX8_count_55 : decode cX8_count 55 = .ok (.ireturn, 1) := by decide +kernel
theorem dX8_count_56 : decode cX8_count 56 = .ok (.iload_n 1, 1) := by decide +kernel
theorem dX8_count_57 : decode cX8_count 57 = .ok (.bipush 11, 2) := by decide +kernel
theorem dX8_count_59 : decode cX8_count 59 = .ok (.if_icmp .ge 17, 3) := by decide +kernel
theorem dX8_count_62 : decode cX8_count 62 = .ok (.aload_n 0, 1) := by decide +kernel
theorem dX8_count_63 : decode cX8_count 63 = .ok (.getfield 7, 3) := by decide +kernel
theorem dX8_count_66 : decode cX8_count 66 = .ok (.bipush 26, 2) := by decide +kernel
theorem dX8_count_68 : decode cX8_count 68 = .ok (.iload_n 1, 1) := by decide +kernel
theorem dX8_count_69 : decode cX8_count 69 = .ok (.iadd, 1) := by decide +kernel
theorem dX8_count_70 : decode cX8_count 70 = .ok (.iconst 5, 1) := by decide +kernel
theorem dX8_count_71 : decode cX8_count 71 = .ok (.isub, 1) := by decide +kernel
theorem dX8_count_72 : decode cX8_count 72 = .ok (.iaload, 1) := by decide +kernel
theorem dX8_count_73 : decode cX8_count 73 = .ok (.goto 40, 3) := by decide +kernel
theorem dX8_count_76 : decode cX8_count 76 = .ok (.iload_n 1, 1) := by decide +kernel
theorem dX8_count_77 : decode cX8_count 77 = .ok (.bipush 18, 2) := by decide +kernel
theorem dX8_count_79 : decode cX8_count 79 = .ok (.if_icmp .ge 17, 3) := by decide +kernel
theorem dX8_count_82 : decode cX8_count 82 = .ok (.aload_n 0, 1) := by decide +kernel
theorem dX8_count_83 : decode cX8_count 83 = .ok (.getfield 7, 3) := by decide +kernel
theorem dX8_count_86 : decode cX8_count 86 = .ok (.iconst 3, 1) := by decide +kernel
theorem dX8_count_87 : decode cX8_count 87 = .ok (.iload_n 1, 1) := by decide +kernel
theorem dX8_count_88 : decode cX8_count 88 = .ok (.iadd, 1) := by decide +kernel
theorem dX8_count_89 : decode cX8_count 89 = .ok (.bipush 11, 2) := by decide +kernel
theorem dX8_count_91 : decode cX8_count 91 = .ok (.isub, 1) := by decide +kernel
theorem dX8_count_92 : decode cX8_count 92 = .ok (.iaload, 1) := by decide +kernel
theorem dX8_count_93 : decode cX8_count 93 = .ok (.goto 20, 3) := by decide +kernel
theorem dX8_count_96 : decode cX8_count 96 = .ok (.iload_n 1, 1) := by decide +kernel
theorem dX8_count_97 : decode cX8_count 97 = .ok (.bipush 18, 2) := by decide +kernel
theorem dX8_count_99 : decode cX8_count 99 = .ok (.if_icmp .ne 10, 3) := by decide +kernel
theorem dX8_count_102 : decode cX8_count 102 = .ok (.aload_n 0, 1) := by decide +kernel
theorem dX8_count_103 : decode cX8_count 103 = .ok (.getfield 143, 3) := by decide +kernel
theorem dX8_count_106 : decode cX8_count 106 = .ok (.goto 7, 3) := by decide +kernel
theorem dX8_count_109 : decode cX8_count 109 = .ok (.aload_n 0, 1) := by decide +kernel
theorem dX8_count_110 : decode cX8_count 110 = .ok (.getfield 36, 3) := by decide +kernel
theorem dX8_count_113 : decode cX8_count 113 = .ok (.ireturn, 1) := by decide +kernel
theorem dX8_fields_0 : decode cX8_fields 0 = .ok (.iload_n 1, 1) := by decide +kernel
theorem dX8_fields_1 : decode cX8_fields 1 = .ok (.iconst 0, 1) := by decide +kernel
theorem dX8_fields_2 : decode cX8_fields 2 = .ok (.iconst 3, 1) := by decide +kernel
theorem dX8_fields_3 : decode cX8_fields 3 = .ok (.invokestatic 32, 3) := by decide +kernel
theorem dX8_fields_6 : decode cX8_fields 6 = .ok (.ifCond .ne 7, 3) := by decide +kernel
theorem dX8_fields_9 : decode cX8_fields 9 = .ok (.ldc2_w 146, 3) := by decide +kernel
theorem dX8_fields_12 : decode cX8_fields 12 = .ok (.lreturn, 1) := by decide +kernel
theorem dX8_fields_13 : decode cX8_fields 13 = .ok (.lconst 0, 1) := by decide +kernel
theorem dX8_fields_14 : decode cX8_fields 14 = .ok (.lstore_n 2, 1) := by decide +kernel
theorem dX8_fields_15 : decode cX8_fields 15 = .ok (.iconst 0, 1) := by decide +kernel
theorem dX8_fields_16 : decode cX8_fields 16 = .ok (.istore 4, 2) := by decide +kernel
theorem dX8_fields_18 : decode cX8_fields 18 = .ok (.iload 4, 2) := by decide +kernel
theorem dX8_fields_20 : decode cX8_fields 20 = .ok (.aload_n 0, 1) := by decide +kernel
theorem dX8_fields_21 : decode cX8_fields 21 = .ok (.getfield 7, 3) := by decide +kernel
theorem dX8_fields_24 : decode cX8_fields 24 = .ok (.iconst 1, 1) := by decide +kernel
theorem dX8_fields_25 : decode cX8_fields 25 = .ok (.iaload, 1) := by decide +kernel
theorem dX8_fields_26 : decode cX8_fields 26 = .ok (.if_icmp .ge 33, 3) := by decide +kernel
theorem dX8_fields_29 : decode cX8_fields 29 = .ok (.lload_n 2, 1) := by decide +kernel
theorem dX8_fields_30 : decode cX8_fields 30 = .ok (.aload_n 0, 1) := by decide +kernel
theorem dX8_fields_31 : decode cX8_fields 31 = .ok (.getfield 7, 3) := by decide +kernel
theorem dX8_fields_34 : decode cX8_fields 34 = .ok (.iload 4, 2) := by decide +kernel
theorem dX8_fields_36 : decode cX8_fields 36 = .ok (.invokestatic 51, 3) := by decide +kernel
theorem dX8_fields_39 : decode cX8_fields 39 = .ok (.iload_n 1, 1) := by decide +kernel
theorem dX8_fields_40 : decode cX8_fields 40 = .ok (.if_icmp .ne 10, 3) := by decide +kernel
theorem dX8_fields_43 : decode cX8_fields 43 = .ok (.lconst 1, 1) := by decide +kernel
theorem dX8_fields_44 : decode cX8_fields 44 = .ok (.iload 4, 2) := by decide +kernel
theorem dX8_fields_46 : decode cX8_fields 46 = .ok (.lshl, 1) := by decide +kernel
theorem dX8_fields_47 : decode cX8_fields 47 = .ok (.goto 4, 3) := by decide +kernel
theorem dX8_fields_50 : decode cX8_fields 50 = .ok (.lconst 0, 1) := by decide +kernel
theorem dX8_fields_51 : decode cX8_fields 51 = .ok (.lor, 1) := by decide +kernel
theorem dX8_fields_52 : decode cX8_fields 52 = .ok (.lstore_n 2, 1) := by decide +kernel
theorem dX8_fields_53 : decode cX8_fields 53 = .ok (.iinc 4 1, 3) := by decide +kernel
theorem dX8_fields_56 : decode cX8_fields 56 = .ok (.goto (-38), 3) := by decide +kernel
theorem dX8_fields_59 : decode cX8_fields 59 = .ok (.lload_n 2, 1) := by decide +kernel
theorem dX8_fields_60 : decode cX8_fields 60 = .ok (.lreturn, 1) := by decide +kernel
theorem dX8_next_0 : decode cX8_next 0 = .ok (.aload_n 0, 1) := by decide +kernel
theorem dX8_next_1 : decode cX8_next 1 = .ok (.getfield 7, 3) := by decide +kernel
theorem dX8_next_4 : decode cX8_next 4 = .ok (.invokestatic 78, 3) := by decide +kernel
theorem dX8_next_7 : decode cX8_next 7 = .ok (.ireturn, 1) := by decide +kernel
theorem dX8_tries_0 : decode cX8_tries 0 = .ok (.aload_n 0, 1) := by decide +kernel
theorem dX8_tries_1 : decode cX8_tries 1 = .ok (.getfield 13, 3) := by decide +kernel
theorem dX8_tries_4 : decode cX8_tries 4 = .ok (.iload_n 1, 1) := by decide +kernel
theorem dX8_tries_5 : decode cX8_tries 5 = .ok (.iload_n 2, 1) := by decide +kernel
theorem dX8_tries_6 : decode cX8_tries 6 = .ok (.invokestatic 137, 3) := by decide +kernel
theorem dX8_tries_9 : decode cX8_tries 9 = .ok (.return_, 1) := by decide +kernel
theorem dX8_then_0 : decode cX8_then 0 = .ok (.iload_n 1, 1) := by decide +kernel
theorem dX8_then_1 : decode cX8_then 1 = .ok (.iconst 1, 1) := by decide +kernel
theorem dX8_then_2 : decode cX8_then 2 = .ok (.sipush 300, 3) := by decide +kernel
theorem dX8_then_5 : decode cX8_then 5 = .ok (.invokestatic 32, 3) := by decide +kernel
theorem dX8_then_8 : decode cX8_then 8 = .ok (.ifCond .eq 12, 3) := by decide +kernel
theorem dX8_then_11 : decode cX8_then 11 = .ok (.iload_n 2, 1) := by decide +kernel
theorem dX8_then_12 : decode cX8_then 12 = .ok (.iconst 0, 1) := by decide +kernel
theorem dX8_then_13 : decode cX8_then 13 = .ok (.iconst 2, 1) := by decide +kernel
theorem dX8_then_14 : decode cX8_then 14 = .ok (.invokestatic 32, 3) := by decide +kernel
theorem dX8_then_17 : decode cX8_then 17 = .ok (.ifCond .ne 6, 3) := by decide +kernel
theorem dX8_then_20 : decode cX8_then 20 = .ok (.bipush (-2), 2) := by decide +kernel
theorem dX8_then_22 : decode cX8_then 22 = .ok (.ireturn, 1) := by decide +kernel
theorem dX8_then_23 : decode cX8_then 23 = .ok (.aload_n 0, 1) := by decide +kernel
theorem dX8_then_24 : decode cX8_then 24 = .ok (.getfield 7, 3) := by decide +kernel
theorem dX8_then_27 : decode cX8_then 27 = .ok (.iconst 0, 1) := by decide +kernel
theorem dX8_then_28 : decode cX8_then 28 = .ok (.aload_n 0, 1) := by decide +kernel
theorem dX8_then_29 : decode cX8_then 29 = .ok (.getfield 13, 3) := by decide +kernel
theorem dX8_then_32 : decode cX8_then 32 = .ok (.iconst 0, 1) := by decide +kernel
theorem dX8_then_33 : decode cX8_then 33 = .ok (.invokestatic 40, 3) := by decide +kernel
theorem dX8_then_36 : decode cX8_then 36 = .ok (.aload_n 0, 1) := by decide +kernel
theorem dX8_then_37 : decode cX8_then 37 = .ok (.iload_n 1, 1) := by decide +kernel
theorem dX8_then_38 : decode cX8_then 38 = .ok (.iconst 0, 1) := by decide +kernel
theorem dX8_then_39 : decode cX8_then 39 = .ok (.invokevirtual 148, 3) := by decide +kernel
theorem dX8_then_42 : decode cX8_then 42 = .ok (.iload_n 2, 1) := by decide +kernel
theorem dX8_then_43 : decode cX8_then 43 = .ok (.ifCond .ne 8, 3) := by decide +kernel
theorem dX8_then_46 : decode cX8_then 46 = .ok (.bipush 28, 2) := by decide +kernel
theorem dX8_then_48 : decode cX8_then 48 = .ok (.goto 15, 3) := by decide +kernel
theorem dX8_then_51 : decode cX8_then 51 = .ok (.iload_n 2, 1) := by decide +kernel
theorem dX8_then_52 : decode cX8_then 52 = .ok (.iconst 1, 1) := by decide +kernel
theorem dX8_then_53 : decode cX8_then 53 = .ok (.if_icmp .ne 8, 3) := by decide +kernel
theorem dX8_then_56 : decode cX8_then 56 = .ok (.bipush 27, 2) := by decide +kernel
theorem dX8_then_58 : decode cX8_then 58 = .ok (.goto 5, 3) := by decide +kernel
theorem dX8_then_61 : decode cX8_then 61 = .ok (.bipush 29, 2) := by decide +kernel
theorem dX8_then_63 : decode cX8_then 63 = .ok (.istore_n 3, 1) := by decide +kernel
theorem dX8_then_64 : decode cX8_then 64 = .ok (.aload_n 0, 1) := by decide +kernel
theorem dX8_then_65 : decode cX8_then 65 = .ok (.getfield 13, 3) := by decide +kernel
theorem dX8_then_68 : decode cX8_then 68 = .ok (.iload_n 3, 1) := by decide +kernel
theorem dX8_then_69 : decode cX8_then 69 = .ok (.iaload, 1) := by decide +kernel
theorem dX8_then_70 : decode cX8_then 70 = .ok (.aload_n 0, 1) := by decide +kernel
theorem dX8_then_71 : decode cX8_then 71 = .ok (.getfield 7, 3) := by decide +kernel
theorem dX8_then_74 : decode cX8_then 74 = .ok (.iload_n 3, 1) := by decide +kernel
theorem dX8_then_75 : decode cX8_then 75 = .ok (.iaload, 1) := by decide +kernel
theorem dX8_then_76 : decode cX8_then 76 = .ok (.isub, 1) := by decide +kernel
theorem dX8_then_77 : decode cX8_then 77 = .ok (.ireturn, 1) := by decide +kernel
theorem dX8_leastTrucks_0 : decode cX8_leastTrucks 0 = .ok (.iload_n 1, 1) := by decide +kernel
theorem dX8_leastTrucks_1 : decode cX8_leastTrucks 1 = .ok (.iconst 1, 1) := by decide +kernel
theorem dX8_leastTrucks_2 : decode cX8_leastTrucks 2 = .ok (.sipush 300, 3) := by decide +kernel
theorem dX8_leastTrucks_5 : decode cX8_leastTrucks 5 = .ok (.invokestatic 32, 3) := by decide +kernel
theorem dX8_leastTrucks_8 : decode cX8_leastTrucks 8 = .ok (.ifCond .ne 6, 3) := by decide +kernel
theorem dX8_leastTrucks_11 : decode cX8_leastTrucks 11 = .ok (.bipush (-2), 2) := by decide +kernel
theorem dX8_leastTrucks_13 : decode cX8_leastTrucks 13 = .ok (.ireturn, 1) := by decide +kernel
theorem dX8_leastTrucks_14 : decode cX8_leastTrucks 14 = .ok (.iconst 0, 1) := by decide +kernel
theorem dX8_leastTrucks_15 : decode cX8_leastTrucks 15 = .ok (.istore_n 2, 1) := by decide +kernel
theorem dX8_leastTrucks_16 : decode cX8_leastTrucks 16 = .ok (.iload_n 2, 1) := by decide +kernel
theorem dX8_leastTrucks_17 : decode cX8_leastTrucks 17 = .ok (.bipush 20, 2) := by decide +kernel
theorem dX8_leastTrucks_19 : decode cX8_leastTrucks 19 = .ok (.if_icmp .gt 54, 3) := by decide +kernel
theorem dX8_leastTrucks_22 : decode cX8_leastTrucks 22 = .ok (.aload_n 0, 1) := by decide +kernel
theorem dX8_leastTrucks_23 : decode cX8_leastTrucks 23 = .ok (.getfield 7, 3) := by decide +kernel
theorem dX8_leastTrucks_26 : decode cX8_leastTrucks 26 = .ok (.iconst 0, 1) := by decide +kernel
theorem dX8_leastTrucks_27 : decode cX8_leastTrucks 27 = .ok (.aload_n 0, 1) := by decide +kernel
theorem dX8_leastTrucks_28 : decode cX8_leastTrucks 28 = .ok (.getfield 13, 3) := by decide +kernel
theorem dX8_leastTrucks_31 : decode cX8_leastTrucks 31 = .ok (.iconst 0, 1) := by decide +kernel
theorem dX8_leastTrucks_32 : decode cX8_leastTrucks 32 = .ok (.invokestatic 40, 3) := by decide +kernel
theorem dX8_leastTrucks_35 : decode cX8_leastTrucks 35 = .ok (.aload_n 0, 1) := by decide +kernel
theorem dX8_leastTrucks_36 : decode cX8_leastTrucks 36 = .ok (.getfield 13, 3) := by decide +kernel
theorem dX8_leastTrucks_39 : decode cX8_leastTrucks 39 = .ok (.iconst 3, 1) := by decide +kernel
theorem dX8_leastTrucks_40 : decode cX8_leastTrucks 40 = .ok (.iload_n 2, 1) := by decide +kernel
theorem dX8_leastTrucks_41 : decode cX8_leastTrucks 41 = .ok (.iastore, 1) := by decide +kernel
theorem dX8_leastTrucks_42 : decode cX8_leastTrucks 42 = .ok (.aload_n 0, 1) := by decide +kernel
theorem dX8_leastTrucks_43 : decode cX8_leastTrucks 43 = .ok (.iload_n 1, 1) := by decide +kernel
theorem dX8_leastTrucks_44 : decode cX8_leastTrucks 44 = .ok (.iconst 0, 1) := by decide +kernel
theorem dX8_leastTrucks_45 : decode cX8_leastTrucks 45 = .ok (.invokevirtual 148, 3) := by decide +kernel
theorem dX8_leastTrucks_48 : decode cX8_leastTrucks 48 = .ok (.aload_n 0, 1) := by decide +kernel
theorem dX8_leastTrucks_49 : decode cX8_leastTrucks 49 = .ok (.getfield 13, 3) := by decide +kernel
theorem dX8_leastTrucks_52 : decode cX8_leastTrucks 52 = .ok (.bipush 28, 2) := by decide +kernel
theorem dX8_leastTrucks_54 : decode cX8_leastTrucks 54 = .ok (.iaload, 1) := by decide +kernel
theorem dX8_leastTrucks_55 : decode cX8_leastTrucks 55 = .ok (.aload_n 0, 1) := by decide +kernel
theorem dX8_leastTrucks_56 : decode cX8_leastTrucks 56 = .ok (.getfield 7, 3) := by decide +kernel
theorem dX8_leastTrucks_59 : decode cX8_leastTrucks 59 = .ok (.bipush 28, 2) := by decide +kernel
theorem dX8_leastTrucks_61 : decode cX8_leastTrucks 61 = .ok (.iaload, 1) := by decide +kernel
theorem dX8_leastTrucks_62 : decode cX8_leastTrucks 62 = .ok (.if_icmp .ne 5, 3) := by decide +kernel
theorem dX8_leastTrucks_65 : decode cX8_leastTrucks 65 = .ok (.iload_n 2, 1) := by decide +kernel
theorem dX8_leastTrucks_66 : decode cX8_leastTrucks 66 = .ok (.ireturn, 1) := by decide +kernel
theorem dX8_leastTrucks_67 : decode cX8_leastTrucks 67 = .ok (.iinc 2 1, 3) := by decide +kernel
theorem dX8_leastTrucks_70 : decode cX8_leastTrucks 70 = .ok (.goto (-54), 3) := by decide +kernel
theorem dX8_leastTrucks_73 : decode cX8_leastTrucks 73 = .ok (.bipush (-6), 2) := by decide +kernel
theorem dX8_leastTrucks_75 : decode cX8_leastTrucks 75 = .ok (.ireturn, 1) := by decide +kernel
theorem dX8_stopCosts_0 : decode cX8_stopCosts 0 = .ok (.iload_n 1, 1) := by decide +kernel
theorem dX8_stopCosts_1 : decode cX8_stopCosts 1 = .ok (.iconst 1, 1) := by decide +kernel
theorem dX8_stopCosts_2 : decode cX8_stopCosts 2 = .ok (.sipush 300, 3) := by decide +kernel
theorem dX8_stopCosts_5 : decode cX8_stopCosts 5 = .ok (.invokestatic 32, 3) := by decide +kernel
theorem dX8_stopCosts_8 : decode cX8_stopCosts 8 = .ok (.ifCond .eq 12, 3) := by decide +kernel
theorem dX8_stopCosts_11 : decode cX8_stopCosts 11 = .ok (.iload_n 2, 1) := by decide +kernel
theorem dX8_stopCosts_12 : decode cX8_stopCosts 12 = .ok (.iconst 0, 1) := by decide +kernel
theorem dX8_stopCosts_13 : decode cX8_stopCosts 13 = .ok (.iload_n 1, 1) := by decide +kernel
theorem dX8_stopCosts_14 : decode cX8_stopCosts 14 = .ok (.invokestatic 32, 3) := by decide +kernel
theorem dX8_stopCosts_17 : decode cX8_stopCosts 17 = .ok (.ifCond .ne 6, 3) := by decide +kernel
theorem dX8_stopCosts_20 : decode cX8_stopCosts 20 = .ok (.bipush (-2), 2) := by decide +kernel
theorem dX8_stopCosts_22 : decode cX8_stopCosts 22 = .ok (.ireturn, 1) := by decide +kernel
theorem dX8_stopCosts_23 : decode cX8_stopCosts 23 = .ok (.aload_n 0, 1) := by decide +kernel
theorem dX8_stopCosts_24 : decode cX8_stopCosts 24 = .ok (.getfield 7, 3) := by decide +kernel
theorem dX8_stopCosts_27 : decode cX8_stopCosts 27 = .ok (.iconst 0, 1) := by decide +kernel
theorem dX8_stopCosts_28 : decode cX8_stopCosts 28 = .ok (.aload_n 0, 1) := by decide +kernel
theorem dX8_stopCosts_29 : decode cX8_stopCosts 29 = .ok (.getfield 13, 3) := by decide +kernel
theorem dX8_stopCosts_32 : decode cX8_stopCosts 32 = .ok (.iconst 0, 1) := by decide +kernel
theorem dX8_stopCosts_33 : decode cX8_stopCosts 33 = .ok (.invokestatic 40, 3) := by decide +kernel
theorem dX8_stopCosts_36 : decode cX8_stopCosts 36 = .ok (.aload_n 0, 1) := by decide +kernel
theorem dX8_stopCosts_37 : decode cX8_stopCosts 37 = .ok (.iload_n 1, 1) := by decide +kernel
theorem dX8_stopCosts_38 : decode cX8_stopCosts 38 = .ok (.iconst 0, 1) := by decide +kernel
theorem dX8_stopCosts_39 : decode cX8_stopCosts 39 = .ok (.invokevirtual 148, 3) := by decide +kernel
theorem dX8_stopCosts_42 : decode cX8_stopCosts 42 = .ok (.aload_n 0, 1) := by decide +kernel
theorem dX8_stopCosts_43 : decode cX8_stopCosts 43 = .ok (.getfield 13, 3) := by decide +kernel
theorem dX8_stopCosts_46 : decode cX8_stopCosts 46 = .ok (.bipush 27, 2) := by decide +kernel
theorem dX8_stopCosts_48 : decode cX8_stopCosts 48 = .ok (.iaload, 1) := by decide +kernel
theorem dX8_stopCosts_49 : decode cX8_stopCosts 49 = .ok (.istore_n 3, 1) := by decide +kernel
theorem dX8_stopCosts_50 : decode cX8_stopCosts 50 = .ok (.aload_n 0, 1) := by decide +kernel
theorem dX8_stopCosts_51 : decode cX8_stopCosts 51 = .ok (.getfield 7, 3) := by decide +kernel
theorem dX8_stopCosts_54 : decode cX8_stopCosts 54 = .ok (.iconst 0, 1) := by decide +kernel
theorem dX8_stopCosts_55 : decode cX8_stopCosts 55 = .ok (.aload_n 0, 1) := by decide +kernel
theorem dX8_stopCosts_56 : decode cX8_stopCosts 56 = .ok (.getfield 13, 3) := by decide +kernel
theorem dX8_stopCosts_59 : decode cX8_stopCosts 59 = .ok (.iconst 0, 1) := by decide +kernel
theorem dX8_stopCosts_60 : decode cX8_stopCosts 60 = .ok (.invokestatic 40, 3) := by decide +kernel
theorem dX8_stopCosts_63 : decode cX8_stopCosts 63 = .ok (.aload_n 0, 1) := by decide +kernel
theorem dX8_stopCosts_64 : decode cX8_stopCosts 64 = .ok (.iload_n 1, 1) := by decide +kernel
theorem dX8_stopCosts_65 : decode cX8_stopCosts 65 = .ok (.iload_n 2, 1) := by decide +kernel
theorem dX8_stopCosts_66 : decode cX8_stopCosts 66 = .ok (.invokevirtual 148, 3) := by decide +kernel
theorem dX8_stopCosts_69 : decode cX8_stopCosts 69 = .ok (.iload_n 3, 1) := by decide +kernel
theorem dX8_stopCosts_70 : decode cX8_stopCosts 70 = .ok (.aload_n 0, 1) := by decide +kernel
theorem dX8_stopCosts_71 : decode cX8_stopCosts 71 = .ok (.getfield 13, 3) := by decide +kernel
theorem dX8_stopCosts_74 : decode cX8_stopCosts 74 = .ok (.bipush 27, 2) := by decide +kernel
theorem dX8_stopCosts_76 : decode cX8_stopCosts 76 = .ok (.iaload, 1) := by decide +kernel
theorem dX8_stopCosts_77 : decode cX8_stopCosts 77 = .ok (.isub, 1) := by decide +kernel
theorem dX8_stopCosts_78 : decode cX8_stopCosts 78 = .ok (.ldc 152, 2) := by decide +kernel
theorem dX8_stopCosts_80 : decode cX8_stopCosts 80 = .ok (.iadd, 1) := by decide +kernel
theorem dX8_stopCosts_81 : decode cX8_stopCosts 81 = .ok (.ireturn, 1) := by decide +kernel
theorem dX8_byteOf_0 : decode cX8_byteOf 0 = .ok (.lload_n 0, 1) := by decide +kernel
theorem dX8_byteOf_1 : decode cX8_byteOf 1 = .ok (.bipush 8, 2) := by decide +kernel
theorem dX8_byteOf_3 : decode cX8_byteOf 3 = .ok (.iload_n 2, 1) := by decide +kernel
theorem dX8_byteOf_4 : decode cX8_byteOf 4 = .ok (.imul, 1) := by decide +kernel
theorem dX8_byteOf_5 : decode cX8_byteOf 5 = .ok (.lshr, 1) := by decide +kernel
theorem dX8_byteOf_6 : decode cX8_byteOf 6 = .ok (.ldc2_w 153, 3) := by decide +kernel
theorem dX8_byteOf_9 : decode cX8_byteOf 9 = .ok (.land, 1) := by decide +kernel
theorem dX8_byteOf_10 : decode cX8_byteOf 10 = .ok (.l2i, 1) := by decide +kernel
theorem dX8_byteOf_11 : decode cX8_byteOf 11 = .ok (.ireturn, 1) := by decide +kernel
theorem dX8_toldBy_0 : decode cX8_toldBy 0 = .ok (.iconst 0, 1) := by decide +kernel
theorem dX8_toldBy_1 : decode cX8_toldBy 1 = .ok (.istore_n 2, 1) := by decide +kernel
theorem dX8_toldBy_2 : decode cX8_toldBy 2 = .ok (.iload_n 2, 1) := by decide +kernel
theorem dX8_toldBy_3 : decode cX8_toldBy 3 = .ok (.bipush 8, 2) := by decide +kernel
theorem dX8_toldBy_5 : decode cX8_toldBy 5 = .ok (.if_icmp .ge 35, 3) := by decide +kernel
theorem dX8_toldBy_8 : decode cX8_toldBy 8 = .ok (.lload_n 0, 1) := by decide +kernel
theorem dX8_toldBy_9 : decode cX8_toldBy 9 = .ok (.iload_n 2, 1) := by decide +kernel
theorem dX8_toldBy_10 : decode cX8_toldBy 10 = .ok (.invokestatic 155, 3) := by decide +kernel
theorem dX8_toldBy_13 : decode cX8_toldBy 13 = .ok (.ifCond .eq 27, 3) := by decide +kernel
theorem dX8_toldBy_16 : decode cX8_toldBy 16 = .ok (.lload_n 0, 1) := by decide +kernel
theorem dX8_toldBy_17 : decode cX8_toldBy 17 = .ok (.iload_n 2, 1) := by decide +kernel
theorem dX8_toldBy_18 : decode cX8_toldBy 18 = .ok (.invokestatic 155, 3) := by decide +kernel
theorem dX8_toldBy_21 : decode cX8_toldBy 21 = .ok (.bipush 33, 2) := by decide +kernel
theorem dX8_toldBy_23 : decode cX8_toldBy 23 = .ok (.bipush 126, 2) := by decide +kernel
theorem dX8_toldBy_25 : decode cX8_toldBy 25 = .ok (.invokestatic 32, 3) := by decide +kernel
theorem dX8_toldBy_28 : decode cX8_toldBy 28 = .ok (.ifCond .ne 6, 3) := by decide +kernel
theorem dX8_toldBy_31 : decode cX8_toldBy 31 = .ok (.bipush (-2), 2) := by decide +kernel
theorem dX8_toldBy_33 : decode cX8_toldBy 33 = .ok (.ireturn, 1) := by decide +kernel
theorem dX8_toldBy_34 : decode cX8_toldBy 34 = .ok (.iinc 2 1, 3) := by decide +kernel
theorem dX8_toldBy_37 : decode cX8_toldBy 37 = .ok (.goto (-35), 3) := by decide +kernel
theorem dX8_toldBy_40 : decode cX8_toldBy 40 = .ok (.iload_n 2, 1) := by decide +kernel
theorem dX8_toldBy_41 : decode cX8_toldBy 41 = .ok (.istore_n 3, 1) := by decide +kernel
theorem dX8_toldBy_42 : decode cX8_toldBy 42 = .ok (.iload_n 3, 1) := by decide +kernel
theorem dX8_toldBy_43 : decode cX8_toldBy 43 = .ok (.bipush 8, 2) := by decide +kernel
theorem dX8_toldBy_45 : decode cX8_toldBy 45 = .ok (.if_icmp .ge 20, 3) := by decide +kernel
theorem dX8_toldBy_48 : decode cX8_toldBy 48 = .ok (.lload_n 0, 1) := by decide +kernel
theorem dX8_toldBy_49 : decode cX8_toldBy 49 = .ok (.iload_n 3, 1) := by decide +kernel
theorem dX8_toldBy_50 : decode cX8_toldBy 50 = .ok (.invokestatic 155, 3) := by decide +kernel
theorem dX8_toldBy_53 : decode cX8_toldBy 53 = .ok (.ifCond .eq 6, 3) := by decide +kernel
theorem dX8_toldBy_56 : decode cX8_toldBy 56 = .ok (.bipush (-2), 2) := by decide +kernel
theorem dX8_toldBy_58 : decode cX8_toldBy 58 = .ok (.ireturn, 1) := by decide +kernel
theorem dX8_toldBy_59 : decode cX8_toldBy 59 = .ok (.iinc 3 1, 3) := by decide +kernel
theorem dX8_toldBy_62 : decode cX8_toldBy 62 = .ok (.goto (-20), 3) := by decide +kernel
theorem dX8_toldBy_65 : decode cX8_toldBy 65 = .ok (.iload_n 2, 1) := by decide +kernel
theorem dX8_toldBy_66 : decode cX8_toldBy 66 = .ok (.ifCond .ne 8, 3) := by decide +kernel
theorem dX8_toldBy_69 : decode cX8_toldBy 69 = .ok (.bipush (-2), 2) := by decide +kernel
theorem dX8_toldBy_71 : decode cX8_toldBy 71 = .ok (.goto 4, 3) := by decide +kernel
theorem dX8_toldBy_74 : decode cX8_toldBy 74 = .ok (.iload_n 2, 1) := by decide +kernel
theorem dX8_toldBy_75 : decode cX8_toldBy 75 = .ok (.ireturn, 1) := by decide +kernel
theorem dX8_put_0 : decode cX8_put 0 = .ok (.lload_n 1, 1) := by decide +kernel
theorem dX8_put_1 : decode cX8_put 1 = .ok (.invokestatic 159, 3) := by decide +kernel
theorem dX8_put_4 : decode cX8_put 4 = .ok (.istore_n 3, 1) := by decide +kernel
theorem dX8_put_5 : decode cX8_put 5 = .ok (.iload_n 3, 1) := by decide +kernel
theorem dX8_put_6 : decode cX8_put 6 = .ok (.ifCond .ge 5, 3) := by decide +kernel
theorem dX8_put_9 : decode cX8_put 9 = .ok (.iload_n 3, 1) := by decide +kernel
theorem dX8_put_10 : decode cX8_put 10 = .ok (.ireturn, 1) := by decide +kernel
theorem dX8_put_11 : decode cX8_put 11 = .ok (.aload_n 0, 1) := by decide +kernel
theorem dX8_put_12 : decode cX8_put 12 = .ok (.getfield 143, 3) := by decide +kernel
theorem dX8_put_15 : decode cX8_put 15 = .ok (.iload_n 3, 1) := by decide +kernel
theorem dX8_put_16 : decode cX8_put 16 = .ok (.iadd, 1) := by decide +kernel
theorem dX8_put_17 : decode cX8_put 17 = .ok (.bipush 80, 2) := by decide +kernel
theorem dX8_put_19 : decode cX8_put 19 = .ok (.if_icmp .le 6, 3) := by decide +kernel
theorem dX8_put_22 : decode cX8_put 22 = .ok (.bipush (-4), 2) := by decide +kernel
theorem dX8_put_24 : decode cX8_put 24 = .ok (.ireturn, 1) := by decide +kernel
theorem dX8_put_25 : decode cX8_put 25 = .ok (.iload_n 3, 1) := by decide +kernel
theorem dX8_put_26 : decode cX8_put 26 = .ok (.iconst 1, 1) := by decide +kernel
theorem dX8_put_27 : decode cX8_put 27 = .ok (.isub, 1) := by decide +kernel
theorem dX8_put_28 : decode cX8_put 28 = .ok (.istore 4, 2) := by decide +kernel
theorem dX8_put_30 : decode cX8_put 30 = .ok (.iload 4, 2) := by decide +kernel
theorem dX8_put_32 : decode cX8_put 32 = .ok (.ifCond .lt 34, 3) := by decide +kernel
theorem dX8_put_35 : decode cX8_put 35 = .ok (.aload_n 0, 1) := by decide +kernel
theorem dX8_put_36 : decode cX8_put 36 = .ok (.getfield 26, 3) := by decide +kernel
theorem dX8_put_39 : decode cX8_put 39 = .ok (.aload_n 0, 1) := by decide +kernel
theorem dX8_put_40 : decode cX8_put 40 = .ok (.getfield 143, 3) := by decide +kernel
theorem dX8_put_43 : decode cX8_put 43 = .ok (.lload_n 1, 1) := by decide +kernel
theorem dX8_put_44 : decode cX8_put 44 = .ok (.iload 4, 2) := by decide +kernel
theorem dX8_put_46 : decode cX8_put 46 = .ok (.invokestatic 155, 3) := by decide +kernel
theorem dX8_put_49 : decode cX8_put 49 = .ok (.iastore, 1) := by decide +kernel
theorem dX8_put_50 : decode cX8_put 50 = .ok (.aload_n 0, 1) := by decide +kernel
theorem dX8_put_51 : decode cX8_put 51 = .ok (.dup, 1) := by decide +kernel
theorem dX8_put_52 : decode cX8_put 52 = .ok (.getfield 143, 3) := by decide +kernel
theorem dX8_put_55 : decode cX8_put 55 = .ok (.iconst 1, 1) := by decide +kernel
theorem dX8_put_56 : decode cX8_put 56 = .ok (.iadd, 1) := by decide +kernel
theorem dX8_put_57 : decode cX8_put 57 = .ok (.putfield 143, 3) := by decide +kernel
theorem dX8_put_60 : decode cX8_put 60 = .ok (.iinc 4 (-1), 3) := by decide +kernel
theorem dX8_put_63 : decode cX8_put 63 = .ok (.goto (-33), 3) := by decide +kernel
theorem dX8_put_66 : decode cX8_put 66 = .ok (.aload_n 0, 1) := by decide +kernel
theorem dX8_put_67 : decode cX8_put 67 = .ok (.getfield 143, 3) := by decide +kernel
theorem dX8_put_70 : decode cX8_put 70 = .ok (.ireturn, 1) := by decide +kernel
theorem dX8_wipe_0 : decode cX8_wipe 0 = .ok (.aload_n 0, 1) := by decide +kernel
theorem dX8_wipe_1 : decode cX8_wipe 1 = .ok (.getfield 143, 3) := by decide +kernel
theorem dX8_wipe_4 : decode cX8_wipe 4 = .ok (.istore_n 1, 1) := by decide +kernel
theorem dX8_wipe_5 : decode cX8_wipe 5 = .ok (.aload_n 0, 1) := by decide +kernel
theorem dX8_wipe_6 : decode cX8_wipe 6 = .ok (.iconst 0, 1) := by decide +kernel
theorem dX8_wipe_7 : decode cX8_wipe 7 = .ok (.putfield 143, 3) := by decide +kernel
theorem dX8_wipe_10 : decode cX8_wipe 10 = .ok (.iload_n 1, 1) := by decide +kernel
theorem dX8_wipe_11 : decode cX8_wipe 11 = .ok (.ireturn, 1) := by decide +kernel
theorem dX8_isAt_0 : decode cX8_isAt 0 = .ok (.aload_n 0, 1) := by decide +kernel
theorem dX8_isAt_1 : decode cX8_isAt 1 = .ok (.getfield 163, 3) := by decide +kernel
theorem dX8_isAt_4 : decode cX8_isAt 4 = .ok (.aload_n 0, 1) := by decide +kernel
theorem dX8_isAt_5 : decode cX8_isAt 5 = .ok (.getfield 143, 3) := by decide +kernel
theorem dX8_isAt_8 : decode cX8_isAt 8 = .ok (.if_icmp .ge 24, 3) := by decide +kernel
theorem dX8_isAt_11 : decode cX8_isAt 11 = .ok (.aload_n 0, 1) := by decide +kernel
theorem dX8_isAt_12 : decode cX8_isAt 12 = .ok (.getfield 26, 3) := by decide +kernel
theorem dX8_isAt_15 : decode cX8_isAt 15 = .ok (.aload_n 0, 1) := by decide +kernel
theorem dX8_isAt_16 : decode cX8_isAt 16 = .ok (.getfield 163, 3) := by decide +kernel
theorem dX8_isAt_19 : decode cX8_isAt 19 = .ok (.iaload, 1) := by decide +kernel
theorem dX8_isAt_20 : decode cX8_isAt 20 = .ok (.iload_n 1, 1) := by decide +kernel
theorem dX8_isAt_21 : decode cX8_isAt 21 = .ok (.iload_n 2, 1) := by decide +kernel
theorem dX8_isAt_22 : decode cX8_isAt 22 = .ok (.invokestatic 32, 3) := by decide +kernel
theorem dX8_isAt_25 : decode cX8_isAt 25 = .ok (.ifCond .eq 7, 3) := by decide +kernel
theorem dX8_isAt_28 : decode cX8_isAt 28 = .ok (.iconst 1, 1) := by decide +kernel
theorem dX8_isAt_29 : decode cX8_isAt 29 = .ok (.goto 4, 3) := by decide +kernel
theorem dX8_isAt_32 : decode cX8_isAt 32 = .ok (.iconst 0, 1) := by decide +kernel
theorem dX8_isAt_33 : decode cX8_isAt 33 = .ok (.ireturn, 1) := by decide +kernel
theorem dX8_isSign_0 : decode cX8_isSign 0 = .ok (.aload_n 0, 1) := by decide +kernel
theorem dX8_isSign_1 : decode cX8_isSign 1 = .ok (.iload_n 1, 1) := by decide +kernel
theorem dX8_isSign_2 : decode cX8_isSign 2 = .ok (.iload_n 1, 1) := by decide +kernel
end
section
theorem dX8_isSign_3 : decode cX8_isSign 3 = .ok (.invokevirtual 166, 3) := by decide +kernel
theorem dX8_isSign_6 : decode cX8_isSign 6 = .ok (.istore_n 2, 1) := by decide +kernel
theorem dX8_isSign_7 : decode cX8_isSign 7 = .ok (.aload_n 0, 1) := by decide +kernel
theorem dX8_isSign_8 : decode cX8_isSign 8 = .ok (.dup, 1) := by decide +kernel
theorem dX8_isSign_9 : decode cX8_isSign 9 = .ok (.getfield 163, 3) := by decide +kernel
theorem dX8_isSign_12 : decode cX8_isSign 12 = .ok (.iload_n 2, 1) := by decide +kernel
theorem dX8_isSign_13 : decode cX8_isSign 13 = .ok (.ifCond .eq 7, 3) := by decide +kernel
theorem dX8_isSign_16 : decode cX8_isSign 16 = .ok (.iconst 1, 1) := by decide +kernel
theorem dX8_isSign_17 : decode cX8_isSign 17 = .ok (.goto 4, 3) := by decide +kernel
theorem dX8_isSign_20 : decode cX8_isSign 20 = .ok (.iconst 0, 1) := by decide +kernel
theorem dX8_isSign_21 : decode cX8_isSign 21 = .ok (.iadd, 1) := by decide +kernel
theorem dX8_isSign_22 : decode cX8_isSign 22 = .ok (.putfield 163, 3) := by decide +kernel
theorem dX8_isSign_25 : decode cX8_isSign 25 = .ok (.iload_n 2, 1) := by decide +kernel
theorem dX8_isSign_26 : decode cX8_isSign 26 = .ok (.ireturn, 1) := by decide +kernel
theorem dX8_isNumber_0 : decode cX8_isNumber 0 = .ok (.aload_n 0, 1) := by decide +kernel
theorem dX8_isNumber_1 : decode cX8_isNumber 1 = .ok (.bipush 48, 2) := by decide +kernel
theorem dX8_isNumber_3 : decode cX8_isNumber 3 = .ok (.bipush 57, 2) := by decide +kernel
theorem dX8_isNumber_5 : decode cX8_isNumber 5 = .ok (.invokevirtual 166, 3) := by decide +kernel
theorem dX8_isNumber_8 : decode cX8_isNumber 8 = .ok (.ifCond .ne 5, 3) := by decide +kernel
theorem dX8_isNumber_11 : decode cX8_isNumber 11 = .ok (.iconst 0, 1) := by decide +kernel
theorem dX8_isNumber_12 : decode cX8_isNumber 12 = .ok (.ireturn, 1) := by decide +kernel
theorem dX8_isNumber_13 : decode cX8_isNumber 13 = .ok (.aload_n 0, 1) := by decide +kernel
theorem dX8_isNumber_14 : decode cX8_isNumber 14 = .ok (.getfield 26, 3) := by decide +kernel
theorem dX8_isNumber_17 : decode cX8_isNumber 17 = .ok (.aload_n 0, 1) := by decide +kernel
theorem dX8_isNumber_18 : decode cX8_isNumber 18 = .ok (.getfield 163, 3) := by decide +kernel
theorem dX8_isNumber_21 : decode cX8_isNumber 21 = .ok (.iaload, 1) := by decide +kernel
theorem dX8_isNumber_22 : decode cX8_isNumber 22 = .ok (.bipush 48, 2) := by decide +kernel
theorem dX8_isNumber_24 : decode cX8_isNumber 24 = .ok (.isub, 1) := by decide +kernel
theorem dX8_isNumber_25 : decode cX8_isNumber 25 = .ok (.istore_n 2, 1) := by decide +kernel
theorem dX8_isNumber_26 : decode cX8_isNumber 26 = .ok (.aload_n 0, 1) := by decide +kernel
theorem dX8_isNumber_27 : decode cX8_isNumber 27 = .ok (.dup, 1) := by decide +kernel
theorem dX8_isNumber_28 : decode cX8_isNumber 28 = .ok (.getfield 163, 3) := by decide +kernel
theorem dX8_isNumber_31 : decode cX8_isNumber 31 = .ok (.iconst 1, 1) := by decide +kernel
theorem dX8_isNumber_32 : decode cX8_isNumber 32 = .ok (.iadd, 1) := by decide +kernel
theorem dX8_isNumber_33 : decode cX8_isNumber 33 = .ok (.putfield 163, 3) := by decide +kernel
theorem dX8_isNumber_36 : decode cX8_isNumber 36 = .ok (.iload_n 2, 1) := by decide +kernel
theorem dX8_isNumber_37 : decode cX8_isNumber 37 = .ok (.ifCond .le 52, 3) := by decide +kernel
theorem dX8_isNumber_40 : decode cX8_isNumber 40 = .ok (.iload_n 2, 1) := by decide +kernel
theorem dX8_isNumber_41 : decode cX8_isNumber 41 = .ok (.sipush 1000, 3) := by decide +kernel
theorem dX8_isNumber_44 : decode cX8_isNumber 44 = .ok (.if_icmp .ge 45, 3) := by decide +kernel
theorem dX8_isNumber_47 : decode cX8_isNumber 47 = .ok (.aload_n 0, 1) := by decide +kernel
theorem dX8_isNumber_48 : decode cX8_isNumber 48 = .ok (.bipush 48, 2) := by decide +kernel
theorem dX8_isNumber_50 : decode cX8_isNumber 50 = .ok (.bipush 57, 2) := by decide +kernel
theorem dX8_isNumber_52 : decode cX8_isNumber 52 = .ok (.invokevirtual 166, 3) := by decide +kernel
theorem dX8_isNumber_55 : decode cX8_isNumber 55 = .ok (.ifCond .eq 34, 3) := by decide +kernel
theorem dX8_isNumber_58 : decode cX8_isNumber 58 = .ok (.bipush 10, 2) := by decide +kernel
theorem dX8_isNumber_60 : decode cX8_isNumber 60 = .ok (.iload_n 2, 1) := by decide +kernel
theorem dX8_isNumber_61 : decode cX8_isNumber 61 = .ok (.imul, 1) := by decide +kernel
theorem dX8_isNumber_62 : decode cX8_isNumber 62 = .ok (.aload_n 0, 1) := by decide +kernel
theorem dX8_isNumber_63 : decode cX8_isNumber 63 = .ok (.getfield 26, 3) := by decide +kernel
theorem dX8_isNumber_66 : decode cX8_isNumber 66 = .ok (.aload_n 0, 1) := by decide +kernel
theorem dX8_isNumber_67 : decode cX8_isNumber 67 = .ok (.getfield 163, 3) := by decide +kernel
theorem dX8_isNumber_70 : decode cX8_isNumber 70 = .ok (.iaload, 1) := by decide +kernel
theorem dX8_isNumber_71 : decode cX8_isNumber 71 = .ok (.iadd, 1) := by decide +kernel
theorem dX8_isNumber_72 : decode cX8_isNumber 72 = .ok (.bipush 48, 2) := by decide +kernel
theorem dX8_isNumber_74 : decode cX8_isNumber 74 = .ok (.isub, 1) := by decide +kernel
theorem dX8_isNumber_75 : decode cX8_isNumber 75 = .ok (.istore_n 2, 1) := by decide +kernel
theorem dX8_isNumber_76 : decode cX8_isNumber 76 = .ok (.aload_n 0, 1) := by decide +kernel
theorem dX8_isNumber_77 : decode cX8_isNumber 77 = .ok (.dup, 1) := by decide +kernel
theorem dX8_isNumber_78 : decode cX8_isNumber 78 = .ok (.getfield 163, 3) := by decide +kernel
theorem dX8_isNumber_81 : decode cX8_isNumber 81 = .ok (.iconst 1, 1) := by decide +kernel
theorem dX8_isNumber_82 : decode cX8_isNumber 82 = .ok (.iadd, 1) := by decide +kernel
theorem dX8_isNumber_83 : decode cX8_isNumber 83 = .ok (.putfield 163, 3) := by decide +kernel
theorem dX8_isNumber_86 : decode cX8_isNumber 86 = .ok (.goto (-50), 3) := by decide +kernel
theorem dX8_isNumber_89 : decode cX8_isNumber 89 = .ok (.aload_n 0, 1) := by decide +kernel
theorem dX8_isNumber_90 : decode cX8_isNumber 90 = .ok (.getfield 29, 3) := by decide +kernel
theorem dX8_isNumber_93 : decode cX8_isNumber 93 = .ok (.iconst 5, 1) := by decide +kernel
theorem dX8_isNumber_94 : decode cX8_isNumber 94 = .ok (.aload_n 0, 1) := by decide +kernel
theorem dX8_isNumber_95 : decode cX8_isNumber 95 = .ok (.getfield 169, 3) := by decide +kernel
theorem dX8_isNumber_98 : decode cX8_isNumber 98 = .ok (.imul, 1) := by decide +kernel
theorem dX8_isNumber_99 : decode cX8_isNumber 99 = .ok (.iload_n 1, 1) := by decide +kernel
theorem dX8_isNumber_100 : decode cX8_isNumber 100 = .ok (.iadd, 1) := by decide +kernel
theorem dX8_isNumber_101 : decode cX8_isNumber 101 = .ok (.iload_n 2, 1) := by decide +kernel
theorem dX8_isNumber_102 : decode cX8_isNumber 102 = .ok (.iastore, 1) := by decide +kernel
theorem dX8_isNumber_103 : decode cX8_isNumber 103 = .ok (.iconst 1, 1) := by decide +kernel
theorem dX8_isNumber_104 : decode cX8_isNumber 104 = .ok (.ireturn, 1) := by decide +kernel
theorem dX8_isDigit_0 : decode cX8_isDigit 0 = .ok (.aload_n 0, 1) := by decide +kernel
theorem dX8_isDigit_1 : decode cX8_isDigit 1 = .ok (.bipush 48, 2) := by decide +kernel
theorem dX8_isDigit_3 : decode cX8_isDigit 3 = .ok (.bipush 53, 2) := by decide +kernel
theorem dX8_isDigit_5 : decode cX8_isDigit 5 = .ok (.invokevirtual 166, 3) := by decide +kernel
theorem dX8_isDigit_8 : decode cX8_isDigit 8 = .ok (.ifCond .ne 5, 3) := by decide +kernel
theorem dX8_isDigit_11 : decode cX8_isDigit 11 = .ok (.iconst 0, 1) := by decide +kernel
theorem dX8_isDigit_12 : decode cX8_isDigit 12 = .ok (.ireturn, 1) := by decide +kernel
theorem dX8_isDigit_13 : decode cX8_isDigit 13 = .ok (.aload_n 0, 1) := by decide +kernel
theorem dX8_isDigit_14 : decode cX8_isDigit 14 = .ok (.getfield 29, 3) := by decide +kernel
theorem dX8_isDigit_17 : decode cX8_isDigit 17 = .ok (.iconst 5, 1) := by decide +kernel
theorem dX8_isDigit_18 : decode cX8_isDigit 18 = .ok (.aload_n 0, 1) := by decide +kernel
theorem dX8_isDigit_19 : decode cX8_isDigit 19 = .ok (.getfield 169, 3) := by decide +kernel
theorem dX8_isDigit_22 : decode cX8_isDigit 22 = .ok (.imul, 1) := by decide +kernel
theorem dX8_isDigit_23 : decode cX8_isDigit 23 = .ok (.iload_n 1, 1) := by decide +kernel
theorem dX8_isDigit_24 : decode cX8_isDigit 24 = .ok (.iadd, 1) := by decide +kernel
theorem dX8_isDigit_25 : decode cX8_isDigit 25 = .ok (.aload_n 0, 1) := by decide +kernel
theorem dX8_isDigit_26 : decode cX8_isDigit 26 = .ok (.getfield 26, 3) := by decide +kernel
theorem dX8_isDigit_29 : decode cX8_isDigit 29 = .ok (.aload_n 0, 1) := by decide +kernel
theorem dX8_isDigit_30 : decode cX8_isDigit 30 = .ok (.getfield 163, 3) := by decide +kernel
theorem dX8_isDigit_33 : decode cX8_isDigit 33 = .ok (.iaload, 1) := by decide +kernel
theorem dX8_isDigit_34 : decode cX8_isDigit 34 = .ok (.bipush 48, 2) := by decide +kernel
theorem dX8_isDigit_36 : decode cX8_isDigit 36 = .ok (.isub, 1) := by decide +kernel
theorem dX8_isDigit_37 : decode cX8_isDigit 37 = .ok (.iastore, 1) := by decide +kernel
theorem dX8_isDigit_38 : decode cX8_isDigit 38 = .ok (.aload_n 0, 1) := by decide +kernel
theorem dX8_isDigit_39 : decode cX8_isDigit 39 = .ok (.dup, 1) := by decide +kernel
theorem dX8_isDigit_40 : decode cX8_isDigit 40 = .ok (.getfield 163, 3) := by decide +kernel
theorem dX8_isDigit_43 : decode cX8_isDigit 43 = .ok (.iconst 1, 1) := by decide +kernel
theorem dX8_isDigit_44 : decode cX8_isDigit 44 = .ok (.iadd, 1) := by decide +kernel
theorem dX8_isDigit_45 : decode cX8_isDigit 45 = .ok (.putfield 163, 3) := by decide +kernel
theorem dX8_isDigit_48 : decode cX8_isDigit 48 = .ok (.iconst 1, 1) := by decide +kernel
theorem dX8_isDigit_49 : decode cX8_isDigit 49 = .ok (.ireturn, 1) := by decide +kernel
theorem dX8_isOrder_0 : decode cX8_isOrder 0 = .ok (.aload_n 0, 1) := by decide +kernel
theorem dX8_isOrder_1 : decode cX8_isOrder 1 = .ok (.getfield 163, 3) := by decide +kernel
theorem dX8_isOrder_4 : decode cX8_isOrder 4 = .ok (.aload_n 0, 1) := by decide +kernel
theorem dX8_isOrder_5 : decode cX8_isOrder 5 = .ok (.getfield 143, 3) := by decide +kernel
theorem dX8_isOrder_8 : decode cX8_isOrder 8 = .ok (.if_icmp .ge 15, 3) := by decide +kernel
theorem dX8_isOrder_11 : decode cX8_isOrder 11 = .ok (.aload_n 0, 1) := by decide +kernel
theorem dX8_isOrder_12 : decode cX8_isOrder 12 = .ok (.getfield 26, 3) := by decide +kernel
theorem dX8_isOrder_15 : decode cX8_isOrder 15 = .ok (.aload_n 0, 1) := by decide +kernel
theorem dX8_isOrder_16 : decode cX8_isOrder 16 = .ok (.getfield 163, 3) := by decide +kernel
theorem dX8_isOrder_19 : decode cX8_isOrder 19 = .ok (.iaload, 1) := by decide +kernel
theorem dX8_isOrder_20 : decode cX8_isOrder 20 = .ok (.goto 4, 3) := by decide +kernel
theorem dX8_isOrder_23 : decode cX8_isOrder 23 = .ok (.iconst 0, 1) := by decide +kernel
theorem dX8_isOrder_24 : decode cX8_isOrder 24 = .ok (.istore_n 1, 1) := by decide +kernel
theorem dX8_isOrder_25 : decode cX8_isOrder 25 = .ok (.aload_n 0, 1) := by decide +kernel
theorem dX8_isOrder_26 : decode cX8_isOrder 26 = .ok (.getfield 29, 3) := by decide +kernel
theorem dX8_isOrder_29 : decode cX8_isOrder 29 = .ok (.iconst 5, 1) := by decide +kernel
theorem dX8_isOrder_30 : decode cX8_isOrder 30 = .ok (.aload_n 0, 1) := by decide +kernel
theorem dX8_isOrder_31 : decode cX8_isOrder 31 = .ok (.getfield 169, 3) := by decide +kernel
theorem dX8_isOrder_34 : decode cX8_isOrder 34 = .ok (.imul, 1) := by decide +kernel
theorem dX8_isOrder_35 : decode cX8_isOrder 35 = .ok (.iload_n 1, 1) := by decide +kernel
theorem dX8_isOrder_36 : decode cX8_isOrder 36 = .ok (.iastore, 1) := by decide +kernel
theorem dX8_isOrder_37 : decode cX8_isOrder 37 = .ok (.iload_n 1, 1) := by decide +kernel
theorem dX8_isOrder_38 : decode cX8_isOrder 38 = .ok (.lookupswitch 281 #[(100, 265), (102, 50), (108, 166), (113, 125), (115, 224)], 50) := by decide +kernel
theorem dX8_isOrder_88 : decode cX8_isOrder 88 = .ok (.aload_n 0, 1) := by decide +kernel
theorem dX8_isOrder_89 : decode cX8_isOrder 89 = .ok (.dup, 1) := by decide +kernel
theorem dX8_isOrder_90 : decode cX8_isOrder 90 = .ok (.getfield 163, 3) := by decide +kernel
theorem dX8_isOrder_93 : decode cX8_isOrder 93 = .ok (.iconst 1, 1) := by decide +kernel
theorem dX8_isOrder_94 : decode cX8_isOrder 94 = .ok (.iadd, 1) := by decide +kernel
theorem dX8_isOrder_95 : decode cX8_isOrder 95 = .ok (.putfield 163, 3) := by decide +kernel
theorem dX8_isOrder_98 : decode cX8_isOrder 98 = .ok (.aload_n 0, 1) := by decide +kernel
theorem dX8_isOrder_99 : decode cX8_isOrder 99 = .ok (.iconst 1, 1) := by decide +kernel
theorem dX8_isOrder_100 : decode cX8_isOrder 100 = .ok (.invokevirtual 172, 3) := by decide +kernel
theorem dX8_isOrder_103 : decode cX8_isOrder 103 = .ok (.ifCond .eq 58, 3) := by decide +kernel
theorem dX8_isOrder_106 : decode cX8_isOrder 106 = .ok (.aload_n 0, 1) := by decide +kernel
theorem dX8_isOrder_107 : decode cX8_isOrder 107 = .ok (.bipush 58, 2) := by decide +kernel
theorem dX8_isOrder_109 : decode cX8_isOrder 109 = .ok (.invokevirtual 175, 3) := by decide +kernel
theorem dX8_isOrder_112 : decode cX8_isOrder 112 = .ok (.ifCond .eq 49, 3) := by decide +kernel
theorem dX8_isOrder_115 : decode cX8_isOrder 115 = .ok (.aload_n 0, 1) := by decide +kernel
theorem dX8_isOrder_116 : decode cX8_isOrder 116 = .ok (.iconst 2, 1) := by decide +kernel
theorem dX8_isOrder_117 : decode cX8_isOrder 117 = .ok (.invokevirtual 178, 3) := by decide +kernel
theorem dX8_isOrder_120 : decode cX8_isOrder 120 = .ok (.ifCond .eq 41, 3) := by decide +kernel
theorem dX8_isOrder_123 : decode cX8_isOrder 123 = .ok (.aload_n 0, 1) := by decide +kernel
theorem dX8_isOrder_124 : decode cX8_isOrder 124 = .ok (.bipush 37, 2) := by decide +kernel
theorem dX8_isOrder_126 : decode cX8_isOrder 126 = .ok (.invokevirtual 175, 3) := by decide +kernel
theorem dX8_isOrder_129 : decode cX8_isOrder 129 = .ok (.ifCond .eq 32, 3) := by decide +kernel
theorem dX8_isOrder_132 : decode cX8_isOrder 132 = .ok (.aload_n 0, 1) := by decide +kernel
theorem dX8_isOrder_133 : decode cX8_isOrder 133 = .ok (.iconst 3, 1) := by decide +kernel
theorem dX8_isOrder_134 : decode cX8_isOrder 134 = .ok (.invokevirtual 178, 3) := by decide +kernel
theorem dX8_isOrder_137 : decode cX8_isOrder 137 = .ok (.ifCond .eq 24, 3) := by decide +kernel
theorem dX8_isOrder_140 : decode cX8_isOrder 140 = .ok (.aload_n 0, 1) := by decide +kernel
theorem dX8_isOrder_141 : decode cX8_isOrder 141 = .ok (.bipush 64, 2) := by decide +kernel
theorem dX8_isOrder_143 : decode cX8_isOrder 143 = .ok (.invokevirtual 175, 3) := by decide +kernel
theorem dX8_isOrder_146 : decode cX8_isOrder 146 = .ok (.ifCond .eq 15, 3) := by decide +kernel
theorem dX8_isOrder_149 : decode cX8_isOrder 149 = .ok (.aload_n 0, 1) := by decide +kernel
theorem dX8_isOrder_150 : decode cX8_isOrder 150 = .ok (.iconst 4, 1) := by decide +kernel
theorem dX8_isOrder_151 : decode cX8_isOrder 151 = .ok (.invokevirtual 178, 3) := by decide +kernel
theorem dX8_isOrder_154 : decode cX8_isOrder 154 = .ok (.ifCond .eq 7, 3) := by decide +kernel
theorem dX8_isOrder_157 : decode cX8_isOrder 157 = .ok (.iconst 1, 1) := by decide +kernel
theorem dX8_isOrder_158 : decode cX8_isOrder 158 = .ok (.goto 4, 3) := by decide +kernel
theorem dX8_isOrder_161 : decode cX8_isOrder 161 = .ok (.iconst 0, 1) := by decide +kernel
theorem dX8_isOrder_162 : decode cX8_isOrder 162 = .ok (.ireturn, 1) := by decide +kernel
theorem dX8_isOrder_163 : decode cX8_isOrder 163 = .ok (.aload_n 0, 1) := by decide +kernel
theorem dX8_isOrder_164 : decode cX8_isOrder 164 = .ok (.dup, 1) := by decide +kernel
theorem dX8_isOrder_165 : decode cX8_isOrder 165 = .ok (.getfield 163, 3) := by decide +kernel
theorem dX8_isOrder_168 : decode cX8_isOrder 168 = .ok (.iconst 1, 1) := by decide +kernel
theorem dX8_isOrder_169 : decode cX8_isOrder 169 = .ok (.iadd, 1) := by decide +kernel
theorem dX8_isOrder_170 : decode cX8_isOrder 170 = .ok (.putfield 163, 3) := by decide +kernel
theorem dX8_isOrder_173 : decode cX8_isOrder 173 = .ok (.aload_n 0, 1) := by decide +kernel
theorem dX8_isOrder_174 : decode cX8_isOrder 174 = .ok (.iconst 1, 1) := by decide +kernel
theorem dX8_isOrder_175 : decode cX8_isOrder 175 = .ok (.invokevirtual 172, 3) := by decide +kernel
theorem dX8_isOrder_178 : decode cX8_isOrder 178 = .ok (.ifCond .eq 24, 3) := by decide +kernel
theorem dX8_isOrder_181 : decode cX8_isOrder 181 = .ok (.aload_n 0, 1) := by decide +kernel
theorem dX8_isOrder_182 : decode cX8_isOrder 182 = .ok (.bipush 61, 2) := by decide +kernel
theorem dX8_isOrder_184 : decode cX8_isOrder 184 = .ok (.invokevirtual 175, 3) := by decide +kernel
theorem dX8_isOrder_187 : decode cX8_isOrder 187 = .ok (.ifCond .eq 15, 3) := by decide +kernel
theorem dX8_isOrder_190 : decode cX8_isOrder 190 = .ok (.aload_n 0, 1) := by decide +kernel
theorem dX8_isOrder_191 : decode cX8_isOrder 191 = .ok (.iconst 2, 1) := by decide +kernel
theorem dX8_isOrder_192 : decode cX8_isOrder 192 = .ok (.invokevirtual 178, 3) := by decide +kernel
theorem dX8_isOrder_195 : decode cX8_isOrder 195 = .ok (.ifCond .eq 7, 3) := by decide +kernel
theorem dX8_isOrder_198 : decode cX8_isOrder 198 = .ok (.iconst 1, 1) := by decide +kernel
theorem dX8_isOrder_199 : decode cX8_isOrder 199 = .ok (.goto 4, 3) := by decide +kernel
theorem dX8_isOrder_202 : decode cX8_isOrder 202 = .ok (.iconst 0, 1) := by decide +kernel
theorem dX8_isOrder_203 : decode cX8_isOrder 203 = .ok (.ireturn, 1) := by decide +kernel
theorem dX8_isOrder_204 : decode cX8_isOrder 204 = .ok (.aload_n 0, 1) := by decide +kernel
theorem dX8_isOrder_205 : decode cX8_isOrder 205 = .ok (.dup, 1) := by decide +kernel
theorem dX8_isOrder_206 : decode cX8_isOrder 206 = .ok (.getfield 163, 3) := by decide +kernel
theorem dX8_isOrder_209 : decode cX8_isOrder 209 = .ok (.iconst 1, 1) := by decide +kernel
theorem dX8_isOrder_210 : decode cX8_isOrder 210 = .ok (.iadd, 1) := by decide +kernel
theorem dX8_isOrder_211 : decode cX8_isOrder 211 = .ok (.putfield 163, 3) := by decide +kernel
theorem dX8_isOrder_214 : decode cX8_isOrder 214 = .ok (.aload_n 0, 1) := by decide +kernel
theorem dX8_isOrder_215 : decode cX8_isOrder 215 = .ok (.iconst 1, 1) := by decide +kernel
theorem dX8_isOrder_216 : decode cX8_isOrder 216 = .ok (.invokevirtual 172, 3) := by decide +kernel
theorem dX8_isOrder_219 : decode cX8_isOrder 219 = .ok (.ifCond .eq 41, 3) := by decide +kernel
theorem dX8_isOrder_222 : decode cX8_isOrder 222 = .ok (.aload_n 0, 1) := by decide +kernel
theorem dX8_isOrder_223 : decode cX8_isOrder 223 = .ok (.bipush 62, 2) := by decide +kernel
theorem dX8_isOrder_225 : decode cX8_isOrder 225 = .ok (.invokevirtual 175, 3) := by decide +kernel
theorem dX8_isOrder_228 : decode cX8_isOrder 228 = .ok (.ifCond .eq 32, 3) := by decide +kernel
theorem dX8_isOrder_231 : decode cX8_isOrder 231 = .ok (.aload_n 0, 1) := by decide +kernel
theorem dX8_isOrder_232 : decode cX8_isOrder 232 = .ok (.iconst 2, 1) := by decide +kernel
theorem dX8_isOrder_233 : decode cX8_isOrder 233 = .ok (.invokevirtual 172, 3) := by decide +kernel
theorem dX8_isOrder_236 : decode cX8_isOrder 236 = .ok (.ifCond .eq 24, 3) := by decide +kernel
theorem dX8_isOrder_239 : decode cX8_isOrder 239 = .ok (.aload_n 0, 1) := by decide +kernel
theorem dX8_isOrder_240 : decode cX8_isOrder 240 = .ok (.bipush 61, 2) := by decide +kernel
theorem dX8_isOrder_242 : decode cX8_isOrder 242 = .ok (.invokevirtual 175, 3) := by decide +kernel
theorem dX8_isOrder_245 : decode cX8_isOrder 245 = .ok (.ifCond .eq 15, 3) := by decide +kernel
theorem dX8_isOrder_248 : decode cX8_isOrder 248 = .ok (.aload_n 0, 1) := by decide +kernel
theorem dX8_isOrder_249 : decode cX8_isOrder 249 = .ok (.iconst 3, 1) := by decide +kernel
theorem dX8_isOrder_250 : decode cX8_isOrder 250 = .ok (.invokevirtual 178, 3) := by decide +kernel
theorem dX8_isOrder_253 : decode cX8_isOrder 253 = .ok (.ifCond .eq 7, 3) := by decide +kernel
theorem dX8_isOrder_256 : decode cX8_isOrder 256 = .ok (.iconst 1, 1) := by decide +kernel
theorem dX8_isOrder_257 : decode cX8_isOrder 257 = .ok (.goto 4, 3) := by decide +kernel
theorem dX8_isOrder_260 : decode cX8_isOrder 260 = .ok (.iconst 0, 1) := by decide +kernel
theorem dX8_isOrder_261 : decode cX8_isOrder 261 = .ok (.ireturn, 1) := by decide +kernel
theorem dX8_isOrder_262 : decode cX8_isOrder 262 = .ok (.aload_n 0, 1) := by decide +kernel
theorem dX8_isOrder_263 : decode cX8_isOrder 263 = .ok (.dup, 1) := by decide +kernel
theorem dX8_isOrder_264 : decode cX8_isOrder 264 = .ok (.getfield 163, 3) := by decide +kernel
theorem dX8_isOrder_267 : decode cX8_isOrder 267 = .ok (.iconst 1, 1) := by decide +kernel
theorem dX8_isOrder_268 : decode cX8_isOrder 268 = .ok (.iadd, 1) := by decide +kernel
theorem dX8_isOrder_269 : decode cX8_isOrder 269 = .ok (.putfield 163, 3) := by decide +kernel
theorem dX8_isOrder_272 : decode cX8_isOrder 272 = .ok (.aload_n 0, 1) := by decide +kernel
theorem dX8_isOrder_273 : decode cX8_isOrder 273 = .ok (.iconst 1, 1) := by decide +kernel
theorem dX8_isOrder_274 : decode cX8_isOrder 274 = .ok (.invokevirtual 178, 3) := by decide +kernel
theorem dX8_isOrder_277 : decode cX8_isOrder 277 = .ok (.ifCond .eq 24, 3) := by decide +kernel
theorem dX8_isOrder_280 : decode cX8_isOrder 280 = .ok (.aload_n 0, 1) := by decide +kernel
theorem dX8_isOrder_281 : decode cX8_isOrder 281 = .ok (.bipush 45, 2) := by decide +kernel
theorem dX8_isOrder_283 : decode cX8_isOrder 283 = .ok (.invokevirtual 175, 3) := by decide +kernel
theorem dX8_isOrder_286 : decode cX8_isOrder 286 = .ok (.ifCond .eq 15, 3) := by decide +kernel
theorem dX8_isOrder_289 : decode cX8_isOrder 289 = .ok (.aload_n 0, 1) := by decide +kernel
theorem dX8_isOrder_290 : decode cX8_isOrder 290 = .ok (.iconst 2, 1) := by decide +kernel
theorem dX8_isOrder_291 : decode cX8_isOrder 291 = .ok (.invokevirtual 178, 3) := by decide +kernel
theorem dX8_isOrder_294 : decode cX8_isOrder 294 = .ok (.ifCond .eq 7, 3) := by decide +kernel
theorem dX8_isOrder_297 : decode cX8_isOrder 297 = .ok (.iconst 1, 1) := by decide +kernel
theorem dX8_isOrder_298 : decode cX8_isOrder 298 = .ok (.goto 4, 3) := by decide +kernel
theorem dX8_isOrder_301 : decode cX8_isOrder 301 = .ok (.iconst 0, 1) := by decide +kernel
theorem dX8_isOrder_302 : decode cX8_isOrder 302 = .ok (.ireturn, 1) := by decide +kernel
theorem dX8_isOrder_303 : decode cX8_isOrder 303 = .ok (.aload_n 0, 1) := by decide +kernel
theorem dX8_isOrder_304 : decode cX8_isOrder 304 = .ok (.dup, 1) := by decide +kernel
theorem dX8_isOrder_305 : decode cX8_isOrder 305 = .ok (.getfield 163, 3) := by decide +kernel
theorem dX8_isOrder_308 : decode cX8_isOrder 308 = .ok (.iconst 1, 1) := by decide +kernel
theorem dX8_isOrder_309 : decode cX8_isOrder 309 = .ok (.iadd, 1) := by decide +kernel
theorem dX8_isOrder_310 : decode cX8_isOrder 310 = .ok (.putfield 163, 3) := by decide +kernel
theorem dX8_isOrder_313 : decode cX8_isOrder 313 = .ok (.aload_n 0, 1) := by decide +kernel
theorem dX8_isOrder_314 : decode cX8_isOrder 314 = .ok (.iconst 1, 1) := by decide +kernel
theorem dX8_isOrder_315 : decode cX8_isOrder 315 = .ok (.invokevirtual 178, 3) := by decide +kernel
theorem dX8_isOrder_318 : decode cX8_isOrder 318 = .ok (.ireturn, 1) := by decide +kernel
theorem dX8_isOrder_319 : decode cX8_isOrder 319 = .ok (.iconst 0, 1) := by decide +kernel
theorem dX8_isOrder_320 : decode cX8_isOrder 320 = .ok (.ireturn, 1) := by decide +kernel
theorem dX8_isText_0 : decode cX8_isText 0 = .ok (.aload_n 0, 1) := by decide +kernel
theorem dX8_isText_1 : decode cX8_isText 1 = .ok (.iconst 0, 1) := by decide +kernel
theorem dX8_isText_2 : decode cX8_isText 2 = .ok (.putfield 163, 3) := by decide +kernel
theorem dX8_isText_5 : decode cX8_isText 5 = .ok (.aload_n 0, 1) := by decide +kernel
theorem dX8_isText_6 : decode cX8_isText 6 = .ok (.iconst 0, 1) := by decide +kernel
theorem dX8_isText_7 : decode cX8_isText 7 = .ok (.putfield 169, 3) := by decide +kernel
theorem dX8_isText_10 : decode cX8_isText 10 = .ok (.iconst 1, 1) := by decide +kernel
theorem dX8_isText_11 : decode cX8_isText 11 = .ok (.istore_n 1, 1) := by decide +kernel
theorem dX8_isText_12 : decode cX8_isText 12 = .ok (.iload_n 1, 1) := by decide +kernel
theorem dX8_isText_13 : decode cX8_isText 13 = .ok (.ifCond .eq 32, 3) := by decide +kernel
theorem dX8_isText_16 : decode cX8_isText 16 = .ok (.aload_n 0, 1) := by decide +kernel
theorem dX8_isText_17 : decode cX8_isText 17 = .ok (.invokevirtual 181, 3) := by decide +kernel
theorem dX8_isText_20 : decode cX8_isText 20 = .ok (.ifCond .ne 5, 3) := by decide +kernel
theorem dX8_isText_23 : decode cX8_isText 23 = .ok (.iconst 0, 1) := by decide +kernel
theorem dX8_isText_24 : decode cX8_isText 24 = .ok (.ireturn, 1) := by decide +kernel
theorem dX8_isText_25 : decode cX8_isText 25 = .ok (.aload_n 0, 1) := by decide +kernel
theorem dX8_isText_26 : decode cX8_isText 26 = .ok (.dup, 1) := by decide +kernel
theorem dX8_isText_27 : decode cX8_isText 27 = .ok (.getfield 169, 3) := by decide +kernel
theorem dX8_isText_30 : decode cX8_isText 30 = .ok (.iconst 1, 1) := by decide +kernel
theorem dX8_isText_31 : decode cX8_isText 31 = .ok (.iadd, 1) := by decide +kernel
theorem dX8_isText_32 : decode cX8_isText 32 = .ok (.putfield 169, 3) := by decide +kernel
theorem dX8_isText_35 : decode cX8_isText 35 = .ok (.aload_n 0, 1) := by decide +kernel
theorem dX8_isText_36 : decode cX8_isText 36 = .ok (.bipush 59, 2) := by decide +kernel
theorem dX8_isText_38 : decode cX8_isText 38 = .ok (.invokevirtual 175, 3) := by decide +kernel
theorem dX8_isText_41 : decode cX8_isText 41 = .ok (.istore_n 1, 1) := by decide +kernel
theorem dX8_isText_42 : decode cX8_isText 42 = .ok (.goto (-30), 3) := by decide +kernel
theorem dX8_isText_45 : decode cX8_isText 45 = .ok (.aload_n 0, 1) := by decide +kernel
theorem dX8_isText_46 : decode cX8_isText 46 = .ok (.getfield 163, 3) := by decide +kernel
theorem dX8_isText_49 : decode cX8_isText 49 = .ok (.aload_n 0, 1) := by decide +kernel
theorem dX8_isText_50 : decode cX8_isText 50 = .ok (.getfield 143, 3) := by decide +kernel
theorem dX8_isText_53 : decode cX8_isText 53 = .ok (.if_icmp .ne 7, 3) := by decide +kernel
theorem dX8_isText_56 : decode cX8_isText 56 = .ok (.iconst 1, 1) := by decide +kernel
theorem dX8_isText_57 : decode cX8_isText 57 = .ok (.goto 4, 3) := by decide +kernel
theorem dX8_isText_60 : decode cX8_isText 60 = .ok (.iconst 0, 1) := by decide +kernel
theorem dX8_isText_61 : decode cX8_isText 61 = .ok (.ireturn, 1) := by decide +kernel
theorem dX8_fault_0 : decode cX8_fault 0 = .ok (.aload_n 0, 1) := by decide +kernel
theorem dX8_fault_1 : decode cX8_fault 1 = .ok (.invokevirtual 185, 3) := by decide +kernel
theorem dX8_fault_4 : decode cX8_fault 4 = .ok (.ifCond .eq 8, 3) := by decide +kernel
theorem dX8_fault_7 : decode cX8_fault 7 = .ok (.bipush (-6), 2) := by decide +kernel
theorem dX8_fault_9 : decode cX8_fault 9 = .ok (.goto 7, 3) := by decide +kernel
theorem dX8_fault_12 : decode cX8_fault 12 = .ok (.aload_n 0, 1) := by decide +kernel
theorem dX8_fault_13 : decode cX8_fault 13 = .ok (.getfield 163, 3) := by decide +kernel
theorem dX8_fault_16 : decode cX8_fault 16 = .ok (.ireturn, 1) := by decide +kernel
theorem dX8_mayDo_0 : decode cX8_mayDo 0 = .ok (.iload_n 1, 1) := by decide +kernel
theorem dX8_mayDo_1 : decode cX8_mayDo 1 = .ok (.lookupswitch 76 #[(102, 43), (108, 60), (113, 54), (115, 69)], 43) := by decide +kernel
theorem dX8_mayDo_44 : decode cX8_mayDo 44 = .ok (.aload_n 0, 1) := by decide +kernel
theorem dX8_mayDo_45 : decode cX8_mayDo 45 = .ok (.iload_n 2, 1) := by decide +kernel
theorem dX8_mayDo_46 : decode cX8_mayDo 46 = .ok (.iload_n 3, 1) := by decide +kernel
theorem dX8_mayDo_47 : decode cX8_mayDo 47 = .ok (.iload 4, 2) := by decide +kernel
theorem dX8_mayDo_49 : decode cX8_mayDo 49 = .ok (.iload 5, 2) := by decide +kernel
theorem dX8_mayDo_51 : decode cX8_mayDo 51 = .ok (.invokevirtual 117, 3) := by decide +kernel
theorem dX8_mayDo_54 : decode cX8_mayDo 54 = .ok (.ireturn, 1) := by decide +kernel
theorem dX8_mayDo_55 : decode cX8_mayDo 55 = .ok (.iload_n 2, 1) := by decide +kernel
theorem dX8_mayDo_56 : decode cX8_mayDo 56 = .ok (.iload_n 3, 1) := by decide +kernel
theorem dX8_mayDo_57 : decode cX8_mayDo 57 = .ok (.invokestatic 107, 3) := by decide +kernel
theorem dX8_mayDo_60 : decode cX8_mayDo 60 = .ok (.ireturn, 1) := by decide +kernel
theorem dX8_mayDo_61 : decode cX8_mayDo 61 = .ok (.aload_n 0, 1) := by decide +kernel
theorem dX8_mayDo_62 : decode cX8_mayDo 62 = .ok (.iload_n 2, 1) := by decide +kernel
theorem dX8_mayDo_63 : decode cX8_mayDo 63 = .ok (.iload_n 3, 1) := by decide +kernel
theorem dX8_mayDo_64 : decode cX8_mayDo 64 = .ok (.iload 4, 2) := by decide +kernel
theorem dX8_mayDo_66 : decode cX8_mayDo 66 = .ok (.invokevirtual 110, 3) := by decide +kernel
theorem dX8_mayDo_69 : decode cX8_mayDo 69 = .ok (.ireturn, 1) := by decide +kernel
theorem dX8_mayDo_70 : decode cX8_mayDo 70 = .ok (.aload_n 0, 1) := by decide +kernel
theorem dX8_mayDo_71 : decode cX8_mayDo 71 = .ok (.iload_n 2, 1) := by decide +kernel
theorem dX8_mayDo_72 : decode cX8_mayDo 72 = .ok (.iload_n 3, 1) := by decide +kernel
theorem dX8_mayDo_73 : decode cX8_mayDo 73 = .ok (.invokevirtual 127, 3) := by decide +kernel
theorem dX8_mayDo_76 : decode cX8_mayDo 76 = .ok (.ireturn, 1) := by decide +kernel
theorem dX8_mayDo_77 : decode cX8_mayDo 77 = .ok (.aload_n 0, 1) := by decide +kernel
theorem dX8_mayDo_78 : decode cX8_mayDo 78 = .ok (.iload_n 2, 1) := by decide +kernel
theorem dX8_mayDo_79 : decode cX8_mayDo 79 = .ok (.invokevirtual 133, 3) := by decide +kernel
theorem dX8_mayDo_82 : decode cX8_mayDo 82 = .ok (.ireturn, 1) := by decide +kernel
theorem dX8_does_0 : decode cX8_does 0 = .ok (.aload_n 0, 1) := by decide +kernel
theorem dX8_does_1 : decode cX8_does 1 = .ok (.getfield 29, 3) := by decide +kernel
theorem dX8_does_4 : decode cX8_does 4 = .ok (.iconst 5, 1) := by decide +kernel
theorem dX8_does_5 : decode cX8_does 5 = .ok (.iload_n 1, 1) := by decide +kernel
theorem dX8_does_6 : decode cX8_does 6 = .ok (.imul, 1) := by decide +kernel
theorem dX8_does_7 : decode cX8_does 7 = .ok (.iaload, 1) := by decide +kernel
theorem dX8_does_8 : decode cX8_does 8 = .ok (.istore_n 2, 1) := by decide +kernel
theorem dX8_does_9 : decode cX8_does 9 = .ok (.aload_n 0, 1) := by decide +kernel
theorem dX8_does_10 : decode cX8_does 10 = .ok (.getfield 29, 3) := by decide +kernel
theorem dX8_does_13 : decode cX8_does 13 = .ok (.iconst 5, 1) := by decide +kernel
theorem dX8_does_14 : decode cX8_does 14 = .ok (.iload_n 1, 1) := by decide +kernel
theorem dX8_does_15 : decode cX8_does 15 = .ok (.imul, 1) := by decide +kernel
theorem dX8_does_16 : decode cX8_does 16 = .ok (.iconst 1, 1) := by decide +kernel
theorem dX8_does_17 : decode cX8_does 17 = .ok (.iadd, 1) := by decide +kernel
theorem dX8_does_18 : decode cX8_does 18 = .ok (.iaload, 1) := by decide +kernel
theorem dX8_does_19 : decode cX8_does 19 = .ok (.istore_n 3, 1) := by decide +kernel
theorem dX8_does_20 : decode cX8_does 20 = .ok (.aload_n 0, 1) := by decide +kernel
theorem dX8_does_21 : decode cX8_does 21 = .ok (.getfield 29, 3) := by decide +kernel
theorem dX8_does_24 : decode cX8_does 24 = .ok (.iconst 5, 1) := by decide +kernel
theorem dX8_does_25 : decode cX8_does 25 = .ok (.iload_n 1, 1) := by decide +kernel
theorem dX8_does_26 : decode cX8_does 26 = .ok (.imul, 1) := by decide +kernel
theorem dX8_does_27 : decode cX8_does 27 = .ok (.iconst 2, 1) := by decide +kernel
theorem dX8_does_28 : decode cX8_does 28 = .ok (.iadd, 1) := by decide +kernel
theorem dX8_does_29 : decode cX8_does 29 = .ok (.iaload, 1) := by decide +kernel
theorem dX8_does_30 : decode cX8_does 30 = .ok (.istore 4, 2) := by decide +kernel
theorem dX8_does_32 : decode cX8_does 32 = .ok (.aload_n 0, 1) := by decide +kernel
theorem dX8_does_33 : decode cX8_does 33 = .ok (.getfield 29, 3) := by decide +kernel
theorem dX8_does_36 : decode cX8_does 36 = .ok (.iconst 5, 1) := by decide +kernel
theorem dX8_does_37 : decode cX8_does 37 = .ok (.iload_n 1, 1) := by decide +kernel
theorem dX8_does_38 : decode cX8_does 38 = .ok (.imul, 1) := by decide +kernel
theorem dX8_does_39 : decode cX8_does 39 = .ok (.iconst 3, 1) := by decide +kernel
theorem dX8_does_40 : decode cX8_does 40 = .ok (.iadd, 1) := by decide +kernel
theorem dX8_does_41 : decode cX8_does 41 = .ok (.iaload, 1) := by decide +kernel
theorem dX8_does_42 : decode cX8_does 42 = .ok (.istore 5, 2) := by decide +kernel
theorem dX8_does_44 : decode cX8_does 44 = .ok (.aload_n 0, 1) := by decide +kernel
theorem dX8_does_45 : decode cX8_does 45 = .ok (.getfield 29, 3) := by decide +kernel
theorem dX8_does_48 : decode cX8_does 48 = .ok (.iconst 5, 1) := by decide +kernel
theorem dX8_does_49 : decode cX8_does 49 = .ok (.iload_n 1, 1) := by decide +kernel
theorem dX8_does_50 : decode cX8_does 50 = .ok (.imul, 1) := by decide +kernel
theorem dX8_does_51 : decode cX8_does 51 = .ok (.iconst 4, 1) := by decide +kernel
theorem dX8_does_52 : decode cX8_does 52 = .ok (.iadd, 1) := by decide +kernel
theorem dX8_does_53 : decode cX8_does 53 = .ok (.iaload, 1) := by decide +kernel
theorem dX8_does_54 : decode cX8_does 54 = .ok (.istore 6, 2) := by decide +kernel
theorem dX8_does_56 : decode cX8_does 56 = .ok (.aload_n 0, 1) := by decide +kernel
theorem dX8_does_57 : decode cX8_does 57 = .ok (.iload_n 2, 1) := by decide +kernel
theorem dX8_does_58 : decode cX8_does 58 = .ok (.iload_n 3, 1) := by decide +kernel
theorem dX8_does_59 : decode cX8_does 59 = .ok (.iload 4, 2) := by decide +kernel
theorem dX8_does_61 : decode cX8_does 61 = .ok (.iload 5, 2) := by decide +kernel
theorem dX8_does_63 : decode cX8_does 63 = .ok (.iload 6, 2) := by decide +kernel
theorem dX8_does_65 : decode cX8_does 65 = .ok (.invokevirtual 188, 3) := by decide +kernel
theorem dX8_does_68 : decode cX8_does 68 = .ok (.ifCond .eq 5, 3) := by decide +kernel
theorem dX8_does_71 : decode cX8_does 71 = .ok (.iconst 0, 1) := by decide +kernel
theorem dX8_does_72 : decode cX8_does 72 = .ok (.ireturn, 1) := by decide +kernel
theorem dX8_does_73 : decode cX8_does 73 = .ok (.iload_n 2, 1) := by decide +kernel
theorem dX8_does_74 : decode cX8_does 74 = .ok (.lookupswitch 95 #[(102, 42), (108, 71), (113, 57), (115, 84)], 42) := by decide +kernel
theorem dX8_does_116 : decode cX8_does 116 = .ok (.aload_n 0, 1) := by decide +kernel
theorem dX8_does_117 : decode cX8_does 117 = .ok (.iload_n 3, 1) := by decide +kernel
theorem dX8_does_118 : decode cX8_does 118 = .ok (.iload 4, 2) := by decide +kernel
theorem dX8_does_120 : decode cX8_does 120 = .ok (.iload 5, 2) := by decide +kernel
theorem dX8_does_122 : decode cX8_does 122 = .ok (.iload 6, 2) := by decide +kernel
theorem dX8_does_124 : decode cX8_does 124 = .ok (.invokevirtual 121, 3) := by decide +kernel
theorem dX8_does_127 : decode cX8_does 127 = .ok (.pop, 1) := by decide +kernel
theorem dX8_does_128 : decode cX8_does 128 = .ok (.goto 50, 3) := by decide +kernel
theorem dX8_does_131 : decode cX8_does 131 = .ok (.aload_n 0, 1) := by decide +kernel
theorem dX8_does_132 : decode cX8_does 132 = .ok (.bipush 10, 2) := by decide +kernel
theorem dX8_does_134 : decode cX8_does 134 = .ok (.iload_n 3, 1) := by decide +kernel
theorem dX8_does_135 : decode cX8_does 135 = .ok (.iadd, 1) := by decide +kernel
theorem dX8_does_136 : decode cX8_does 136 = .ok (.iload 4, 2) := by decide +kernel
theorem dX8_does_138 : decode cX8_does 138 = .ok (.invokevirtual 100, 3) := by decide +kernel
theorem dX8_does_141 : decode cX8_does 141 = .ok (.pop, 1) := by decide +kernel
theorem dX8_does_142 : decode cX8_does 142 = .ok (.goto 36, 3) := by decide +kernel
theorem dX8_does_145 : decode cX8_does 145 = .ok (.aload_n 0, 1) := by decide +kernel
theorem dX8_does_146 : decode cX8_does 146 = .ok (.iload_n 3, 1) := by decide +kernel
theorem dX8_does_147 : decode cX8_does 147 = .ok (.iload 4, 2) := by decide +kernel
theorem dX8_does_149 : decode cX8_does 149 = .ok (.iload 5, 2) := by decide +kernel
theorem dX8_does_151 : decode cX8_does 151 = .ok (.invokevirtual 114, 3) := by decide +kernel
theorem dX8_does_154 : decode cX8_does 154 = .ok (.pop, 1) := by decide +kernel
theorem dX8_does_155 : decode cX8_does 155 = .ok (.goto 23, 3) := by decide +kernel
theorem dX8_does_158 : decode cX8_does 158 = .ok (.aload_n 0, 1) := by decide +kernel
theorem dX8_does_159 : decode cX8_does 159 = .ok (.iload_n 3, 1) := by decide +kernel
theorem dX8_does_160 : decode cX8_does 160 = .ok (.iload 4, 2) := by decide +kernel
theorem dX8_does_162 : decode cX8_does 162 = .ok (.invokevirtual 130, 3) := by decide +kernel
theorem dX8_does_165 : decode cX8_does 165 = .ok (.pop, 1) := by decide +kernel
theorem dX8_does_166 : decode cX8_does 166 = .ok (.goto 12, 3) := by decide +kernel
theorem dX8_does_169 : decode cX8_does 169 = .ok (.aload_n 0, 1) := by decide +kernel
theorem dX8_does_170 : decode cX8_does 170 = .ok (.getfield 7, 3) := by decide +kernel
theorem dX8_does_173 : decode cX8_does 173 = .ok (.iload_n 3, 1) := by decide +kernel
theorem dX8_does_174 : decode cX8_does 174 = .ok (.iconst 0, 1) := by decide +kernel
theorem dX8_does_175 : decode cX8_does 175 = .ok (.invokestatic 137, 3) := by decide +kernel
theorem dX8_does_178 : decode cX8_does 178 = .ok (.iconst 1, 1) := by decide +kernel
theorem dX8_does_179 : decode cX8_does 179 = .ok (.ireturn, 1) := by decide +kernel
theorem dX8_carryOut_0 : decode cX8_carryOut 0 = .ok (.aload_n 0, 1) := by decide +kernel
theorem dX8_carryOut_1 : decode cX8_carryOut 1 = .ok (.invokevirtual 185, 3) := by decide +kernel
theorem dX8_carryOut_4 : decode cX8_carryOut 4 = .ok (.ifCond .ne 6, 3) := by decide +kernel
theorem dX8_carryOut_7 : decode cX8_carryOut 7 = .ok (.bipush (-3), 2) := by decide +kernel
theorem dX8_carryOut_9 : decode cX8_carryOut 9 = .ok (.ireturn, 1) := by decide +kernel
theorem dX8_carryOut_10 : decode cX8_carryOut 10 = .ok (.aload_n 0, 1) := by decide +kernel
theorem dX8_carryOut_11 : decode cX8_carryOut 11 = .ok (.invokevirtual 44, 3) := by decide +kernel
theorem dX8_carryOut_14 : decode cX8_carryOut 14 = .ok (.aload_n 0, 1) := by decide +kernel
theorem dX8_carryOut_15 : decode cX8_carryOut 15 = .ok (.iconst 0, 1) := by decide +kernel
theorem dX8_carryOut_16 : decode cX8_carryOut 16 = .ok (.putfield 143, 3) := by decide +kernel
theorem dX8_carryOut_19 : decode cX8_carryOut 19 = .ok (.iconst 0, 1) := by decide +kernel
theorem dX8_carryOut_20 : decode cX8_carryOut 20 = .ok (.istore_n 1, 1) := by decide +kernel
theorem dX8_carryOut_21 : decode cX8_carryOut 21 = .ok (.iload_n 1, 1) := by decide +kernel
theorem dX8_carryOut_22 : decode cX8_carryOut 22 = .ok (.aload_n 0, 1) := by decide +kernel
theorem dX8_carryOut_23 : decode cX8_carryOut 23 = .ok (.getfield 169, 3) := by decide +kernel
theorem dX8_carryOut_26 : decode cX8_carryOut 26 = .ok (.if_icmp .ge 17, 3) := by decide +kernel
theorem dX8_carryOut_29 : decode cX8_carryOut 29 = .ok (.aload_n 0, 1) := by decide +kernel
theorem dX8_carryOut_30 : decode cX8_carryOut 30 = .ok (.iload_n 1, 1) := by decide +kernel
theorem dX8_carryOut_31 : decode cX8_carryOut 31 = .ok (.invokevirtual 192, 3) := by decide +kernel
theorem dX8_carryOut_34 : decode cX8_carryOut 34 = .ok (.ifCond .eq 9, 3) := by decide +kernel
theorem dX8_carryOut_37 : decode cX8_carryOut 37 = .ok (.iinc 1 1, 3) := by decide +kernel
theorem dX8_carryOut_40 : decode cX8_carryOut 40 = .ok (.goto (-19), 3) := by decide +kernel
theorem dX8_carryOut_43 : decode cX8_carryOut 43 = .ok (.iload_n 1, 1) := by decide +kernel
theorem dX8_carryOut_44 : decode cX8_carryOut 44 = .ok (.ireturn, 1) := by decide +kernel
theorem dJ9_max_7cf53_0 : decode cJ9_max_7cf53 0 = .ok (.iload_n 0, 1) := by decide +kernel
theorem dJ9_max_7cf53_1 : decode cJ9_max_7cf53 1 = .ok (.iload_n 1, 1) := by decide +kernel
theorem dJ9_max_7cf53_2 : decode cJ9_max_7cf53 2 = .ok (.if_icmp .lt 7, 3) := by decide +kernel
theorem dJ9_max_7cf53_5 : decode cJ9_max_7cf53 5 = .ok (.iload_n 0, 1) := by decide +kernel
theorem dJ9_max_7cf53_6 : decode cJ9_max_7cf53 6 = .ok (.goto 4, 3) := by decide +kernel
theorem dJ9_max_7cf53_9 : decode cJ9_max_7cf53 9 = .ok (.iload_n 1, 1) := by decide +kernel
theorem dJ9_max_7cf53_10 : decode cJ9_max_7cf53 10 = .ok (.ireturn, 1) := by decide +kernel
theorem dJ9_min_7cf53_0 : decode cJ9_min_7cf53 0 = .ok (.iload_n 0, 1) := by decide +kernel
theorem dJ9_min_7cf53_1 : decode cJ9_min_7cf53 1 = .ok (.iload_n 1, 1) := by decide +kernel
theorem dJ9_min_7cf53_2 : decode cJ9_min_7cf53 2 = .ok (.if_icmp .gt 7, 3) := by decide +kernel
theorem dJ9_min_7cf53_5 : decode cJ9_min_7cf53 5 = .ok (.iload_n 0, 1) := by decide +kernel
theorem dJ9_min_7cf53_6 : decode cJ9_min_7cf53 6 = .ok (.goto 4, 3) := by decide +kernel
theorem dJ9_min_7cf53_9 : decode cJ9_min_7cf53 9 = .ok (.iload_n 1, 1) := by decide +kernel
theorem dJ9_min_7cf53_10 : decode cJ9_min_7cf53 10 = .ok (.ireturn, 1) := by decide +kernel
theorem dJ0_length_8abf5_0 : decode cJ0_length_8abf5 0 = .ok (.aload_n 0, 1) := by decide +kernel
theorem dJ0_length_8abf5_1 : decode cJ0_length_8abf5 1 = .ok (.getfield 9, 3) := by decide +kernel
theorem dJ0_length_8abf5_4 : decode cJ0_length_8abf5 4 = .ok (.arraylength, 1) := by decide +kernel
theorem dJ0_length_8abf5_5 : decode cJ0_length_8abf5 5 = .ok (.aload_n 0, 1) := by decide +kernel
theorem dJ0_length_8abf5_6 : decode cJ0_length_8abf5 6 = .ok (.invokevirtual 335, 3) := by decide +kernel
theorem dJ0_length_8abf5_9 : decode cJ0_length_8abf5 9 = .ok (.ishr, 1) := by decide +kernel
theorem dJ0_length_8abf5_10 : decode cJ0_length_8abf5 10 = .ok (.ireturn, 1) := by decide +kernel
theorem dJ0_isEmpty_aae02_0 : decode cJ0_isEmpty_aae02 0 = .ok (.aload_n 0, 1) := by decide +kernel
theorem dJ0_isEmpty_aae02_1 : decode cJ0_isEmpty_aae02 1 = .ok (.getfield 9, 3) := by decide +kernel
theorem dJ0_isEmpty_aae02_4 : decode cJ0_isEmpty_aae02 4 = .ok (.arraylength, 1) := by decide +kernel
theorem dJ0_isEmpty_aae02_5 : decode cJ0_isEmpty_aae02 5 = .ok (.ifCond .ne 7, 3) := by decide +kernel
theorem dJ0_isEmpty_aae02_8 : decode cJ0_isEmpty_aae02 8 = .ok (.iconst 1, 1) := by decide +kernel
theorem dJ0_isEmpty_aae02_9 : decode cJ0_isEmpty_aae02 9 = .ok (.goto 4, 3) := by decide +kernel
theorem dJ0_isEmpty_aae02_12 : decode cJ0_isEmpty_aae02 12 = .ok (.iconst 0, 1) := by decide +kernel
theorem dJ0_isEmpty_aae02_13 : decode cJ0_isEmpty_aae02 13 = .ok (.ireturn, 1) := by decide +kernel
theorem dJ0_charAt_5068e_0 : decode cJ0_charAt_5068e 0 = .ok (.aload_n 0, 1) := by decide +kernel
theorem dJ0_charAt_5068e_1 : decode cJ0_charAt_5068e 1 = .ok (.invokevirtual 492, 3) := by decide +kernel
theorem dJ0_charAt_5068e_4 : decode cJ0_charAt_5068e 4 = .ok (.ifCond .eq 12, 3) := by decide +kernel
theorem dJ0_charAt_5068e_7 : decode cJ0_charAt_5068e 7 = .ok (.aload_n 0, 1) := by decide +kernel
theorem dJ0_charAt_5068e_8 : decode cJ0_charAt_5068e 8 = .ok (.getfield 9, 3) := by decide +kernel
theorem dJ0_charAt_5068e_11 : decode cJ0_charAt_5068e 11 = .ok (.iload_n 1, 1) := by decide +kernel
theorem dJ0_charAt_5068e_12 : decode cJ0_charAt_5068e 12 = .ok (.invokestatic 495, 3) := by decide +kernel
theorem dJ0_charAt_5068e_15 : decode cJ0_charAt_5068e 15 = .ok (.ireturn, 1) := by decide +kernel
theorem dJ0_charAt_5068e_16 : decode cJ0_charAt_5068e 16 = .ok (.aload_n 0, 1) := by decide +kernel
theorem dJ0_charAt_5068e_17 : decode cJ0_charAt_5068e 17 = .ok (.getfield 9, 3) := by decide +kernel
theorem dJ0_charAt_5068e_20 : decode cJ0_charAt_5068e 20 = .ok (.iload_n 1, 1) := by decide +kernel
theorem dJ0_charAt_5068e_21 : decode cJ0_charAt_5068e 21 = .ok (.invokestatic 498, 3) := by decide +kernel
theorem dJ0_charAt_5068e_24 : decode cJ0_charAt_5068e 24 = .ok (.ireturn, 1) := by decide +kernel
theorem dJ0_coder_7d493_0 : decode cJ0_coder_7d493 0 = .ok (.getstatic 38, 3) := by decide +kernel
theorem dJ0_coder_7d493_3 : decode cJ0_coder_7d493 3 = .ok (.ifCond .eq 10, 3) := by decide +kernel
theorem dJ0_coder_7d493_6 : decode cJ0_coder_7d493 6 = .ok (.aload_n 0, 1) := by decide +kernel
theorem dJ0_coder_7d493_7 : decode cJ0_coder_7d493 7 = .ok (.getfield 15, 3) := by decide +kernel
theorem dJ0_coder_7d493_10 : decode cJ0_coder_7d493 10 = .ok (.goto 4, 3) := by decide +kernel
theorem dJ0_coder_7d493_13 : decode cJ0_coder_7d493 13 = .ok (.iconst 1, 1) := by decide +kernel
theorem dJ0_coder_7d493_14 : decode cJ0_coder_7d493 14 = .ok (.ireturn, 1) := by decide +kernel
theorem dJ0_isLatin1_aae02_0 : decode cJ0_isLatin1_aae02 0 = .ok (.getstatic 38, 3) := by decide +kernel
theorem dJ0_isLatin1_aae02_3 : decode cJ0_isLatin1_aae02 3 = .ok (.ifCond .eq 14, 3) := by decide +kernel
theorem dJ0_isLatin1_aae02_6 : decode cJ0_isLatin1_aae02 6 = .ok (.aload_n 0, 1) := by decide +kernel
theorem dJ0_isLatin1_aae02_7 : decode cJ0_isLatin1_aae02 7 = .ok (.getfield 15, 3) := by decide +kernel
theorem dJ0_isLatin1_aae02_10 : decode cJ0_isLatin1_aae02 10 = .ok (.ifCond .ne 7, 3) := by decide +kernel
theorem dJ0_isLatin1_aae02_13 : decode cJ0_isLatin1_aae02 13 = .ok (.iconst 1, 1) := by decide +kernel
theorem dJ0_isLatin1_aae02_14 : decode cJ0_isLatin1_aae02 14 = .ok (.goto 4, 3) := by decide +kernel
theorem dJ0_isLatin1_aae02_17 : decode cJ0_isLatin1_aae02 17 = .ok (.iconst 0, 1) := by decide +kernel
theorem dJ0_isLatin1_aae02_18 : decode cJ0_isLatin1_aae02 18 = .ok (.ireturn, 1) := by decide +kernel
theorem dJ0_checkIndex_df160_0 : decode cJ0_checkIndex_df160 0 = .ok (.iload_n 0, 1) := by decide +kernel
theorem dJ0_checkIndex_df160_1 : decode cJ0_checkIndex_df160 1 = .ok (.iload_n 1, 1) := by decide +kernel
theorem dJ0_checkIndex_df160_2 : decode cJ0_checkIndex_df160 2 = .ok (.getstatic 1053, 3) := by decide +kernel
theorem dJ0_checkIndex_df160_5 : decode cJ0_checkIndex_df160 5 = .ok (.invokestatic 1059, 3) := by decide +kernel
theorem dJ0_checkIndex_df160_8 : decode cJ0_checkIndex_df160 8 = .ok (.pop, 1) := by decide +kernel
theorem dJ0_checkIndex_df160_9 : decode cJ0_checkIndex_df160 9 = .ok (.return_, 1) := by decide +kernel
theorem dJ1_charAt_3b067_0 : decode cJ1_charAt_3b067 0 = .ok (.iload_n 1, 1) := by decide +kernel
theorem dJ1_charAt_3b067_1 : decode cJ1_charAt_3b067 1 = .ok (.aload_n 0, 1) := by decide +kernel
theorem dJ1_charAt_3b067_2 : decode cJ1_charAt_3b067 2 = .ok (.arraylength, 1) := by decide +kernel
theorem dJ1_charAt_3b067_3 : decode cJ1_charAt_3b067 3 = .ok (.invokestatic 9, 3) := by decide +kernel
theorem dJ1_charAt_3b067_6 : decode cJ1_charAt_3b067 6 = .ok (.aload_n 0, 1) := by decide +kernel
theorem dJ1_charAt_3b067_7 : decode cJ1_charAt_3b067 7 = .ok (.iload_n 1, 1) := by decide +kernel
theorem dJ1_charAt_3b067_8 : decode cJ1_charAt_3b067 8 = .ok (.baload, 1) := by decide +kernel
theorem dJ1_charAt_3b067_9 : decode cJ1_charAt_3b067 9 = .ok (.sipush 255, 3) := by decide +kernel
theorem dJ1_charAt_3b067_12 : decode cJ1_charAt_3b067 12 = .ok (.iand, 1) := by decide +kernel
theorem dJ1_charAt_3b067_13 : decode cJ1_charAt_3b067 13 = .ok (.i2c, 1) := by decide +kernel
theorem dJ1_charAt_3b067_14 : decode cJ1_charAt_3b067 14 = .ok (.ireturn, 1) := by decide +kernel
theorem dJ2_getChar_3b067_0 : decode cJ2_getChar_3b067 0 = .ok (.getstatic 44, 3) := by decide +kernel
theorem dJ2_getChar_3b067_3 : decode cJ2_getChar_3b067 3 = .ok (.ifCond .ne 25, 3) := by decide +kernel
theorem dJ2_getChar_3b067_6 : decode cJ2_getChar_3b067 6 = .ok (.iload_n 1, 1) := by decide +kernel
theorem dJ2_getChar_3b067_7 : decode cJ2_getChar_3b067 7 = .ok (.ifCond .lt 11, 3) := by decide +kernel
theorem dJ2_getChar_3b067_10 : decode cJ2_getChar_3b067 10 = .ok (.iload_n 1, 1) := by decide +kernel
theorem dJ2_getChar_3b067_11 : decode cJ2_getChar_3b067 11 = .ok (.aload_n 0, 1) := by decide +kernel
theorem dJ2_getChar_3b067_12 : decode cJ2_getChar_3b067 12 = .ok (.invokestatic 48, 3) := by decide +kernel
theorem dJ2_getChar_3b067_15 : decode cJ2_getChar_3b067 15 = .ok (.if_icmp .lt 13, 3) := by decide +kernel
theorem dJ2_getChar_3b067_18 : decode cJ2_getChar_3b067 18 = .ok (.new 52, 3) := by decide +kernel
theorem dJ2_getChar_3b067_21 : decode cJ2_getChar_3b067 21 = .ok (.dup, 1) := by decide +kernel
theorem dJ2_getChar_3b067_22 : decode cJ2_getChar_3b067 22 = .ok (.ldc 54, 2) := by decide +kernel
theorem dJ2_getChar_3b067_24 : decode cJ2_getChar_3b067 24 = .ok (.invokespecial 56, 3) := by decide +kernel
theorem dJ2_getChar_3b067_27 : decode cJ2_getChar_3b067 27 = .ok (.athrow, 1) := by decide +kernel
theorem dJ2_getChar_3b067_28 : decode cJ2_getChar_3b067 28 = .ok (.iload_n 1, 1) := by decide +kernel
theorem dJ2_getChar_3b067_29 : decode cJ2_getChar_3b067 29 = .ok (.iconst 1, 1) := by decide +kernel
theorem dJ2_getChar_3b067_30 : decode cJ2_getChar_3b067 30 = .ok (.ishl, 1) := by decide +kernel
theorem dJ2_getChar_3b067_31 : decode cJ2_getChar_3b067 31 = .ok (.istore_n 1, 1) := by decide +kernel
theorem dJ2_getChar_3b067_32 : decode cJ2_getChar_3b067 32 = .ok (.aload_n 0, 1) := by decide +kernel
theorem dJ2_getChar_3b067_33 : decode cJ2_getChar_3b067 33 = .ok (.iload_n 1, 1) := by decide +kernel
theorem dJ2_getChar_3b067_34 : decode cJ2_getChar_3b067 34 = .ok (.iinc 1 1, 3) := by decide +kernel
theorem dJ2_getChar_3b067_37 : decode cJ2_getChar_3b067 37 = .ok (.baload, 1) := by decide +kernel
theorem dJ2_getChar_3b067_38 : decode cJ2_getChar_3b067 38 = .ok (.sipush 255, 3) := by decide +kernel
theorem dJ2_getChar_3b067_41 : decode cJ2_getChar_3b067 41 = .ok (.iand, 1) := by decide +kernel
theorem dJ2_getChar_3b067_42 : decode cJ2_getChar_3b067 42 = .ok (.getstatic 59, 3) := by decide +kernel
theorem dJ2_getChar_3b067_45 : decode cJ2_getChar_3b067 45 = .ok (.ishl, 1) := by decide +kernel
theorem dJ2_getChar_3b067_46 : decode cJ2_getChar_3b067 46 = .ok (.aload_n 0, 1) := by decide +kernel
theorem dJ2_getChar_3b067_47 : decode cJ2_getChar_3b067 47 = .ok (.iload_n 1, 1) := by decide +kernel
theorem dJ2_getChar_3b067_48 : decode cJ2_getChar_3b067 48 = .ok (.baload, 1) := by decide +kernel
theorem dJ2_getChar_3b067_49 : decode cJ2_getChar_3b067 49 = .ok (.sipush 255, 3) := by decide +kernel
theorem dJ2_getChar_3b067_52 : decode cJ2_getChar_3b067 52 = .ok (.iand, 1) := by decide +kernel
theorem dJ2_getChar_3b067_53 : decode cJ2_getChar_3b067 53 = .ok (.getstatic 63, 3) := by decide +kernel
theorem dJ2_getChar_3b067_56 : decode cJ2_getChar_3b067 56 = .ok (.ishl, 1) := by decide +kernel
theorem dJ2_getChar_3b067_57 : decode cJ2_getChar_3b067 57 = .ok (.ior, 1) := by decide +kernel
theorem dJ2_getChar_3b067_58 : decode cJ2_getChar_3b067 58 = .ok (.i2c, 1) := by decide +kernel
theorem dJ2_getChar_3b067_59 : decode cJ2_getChar_3b067 59 = .ok (.ireturn, 1) := by decide +kernel
theorem dJ2_length_9d52b_0 : decode cJ2_length_9d52b 0 = .ok (.aload_n 0, 1) := by decide +kernel
theorem dJ2_length_9d52b_1 : decode cJ2_length_9d52b 1 = .ok (.arraylength, 1) := by decide +kernel
theorem dJ2_length_9d52b_2 : decode cJ2_length_9d52b 2 = .ok (.iconst 1, 1) := by decide +kernel
theorem dJ2_length_9d52b_3 : decode cJ2_length_9d52b 3 = .ok (.ishr, 1) := by decide +kernel
theorem dJ2_length_9d52b_4 : decode cJ2_length_9d52b 4 = .ok (.ireturn, 1) := by decide +kernel
theorem dJ2_charAt_3b067_0 : decode cJ2_charAt_3b067 0 = .ok (.iload_n 1, 1) := by decide +kernel
theorem dJ2_charAt_3b067_1 : decode cJ2_charAt_3b067 1 = .ok (.aload_n 0, 1) := by decide +kernel
theorem dJ2_charAt_3b067_2 : decode cJ2_charAt_3b067 2 = .ok (.invokestatic 67, 3) := by decide +kernel
theorem dJ2_charAt_3b067_5 : decode cJ2_charAt_3b067 5 = .ok (.aload_n 0, 1) := by decide +kernel
theorem dJ2_charAt_3b067_6 : decode cJ2_charAt_3b067 6 = .ok (.iload_n 1, 1) := by decide +kernel
theorem dJ2_charAt_3b067_7 : decode cJ2_charAt_3b067 7 = .ok (.invokestatic 71, 3) := by decide +kernel
theorem dJ2_charAt_3b067_10 : decode cJ2_charAt_3b067 10 = .ok (.ireturn, 1) := by decide +kernel
theorem dJ2_checkIndex_2214a_0 : decode cJ2_checkIndex_2214a 0 = .ok (.iload_n 0, 1) := by decide +kernel
theorem dJ2_checkIndex_2214a_1 : decode cJ2_checkIndex_2214a 1 = .ok (.aload_n 1, 1) := by decide +kernel
theorem dJ2_checkIndex_2214a_2 : decode cJ2_checkIndex_2214a 2 = .ok (.invokestatic 48, 3) := by decide +kernel
theorem dJ2_checkIndex_2214a_5 : decode cJ2_checkIndex_2214a 5 = .ok (.invokestatic 414, 3) := by decide +kernel
theorem dJ2_checkIndex_2214a_8 : decode cJ2_checkIndex_2214a 8 = .ok (.return_, 1) := by decide +kernel
theorem dJ3_checkIndex_8e157_0 : decode cJ3_checkIndex_8e157 0 = .ok (.iload_n 0, 1) := by decide +kernel
theorem dJ3_checkIndex_8e157_1 : decode cJ3_checkIndex_8e157 1 = .ok (.ifCond .lt 8, 3) := by decide +kernel
theorem dJ3_checkIndex_8e157_4 : decode cJ3_checkIndex_8e157 4 = .ok (.iload_n 0, 1) := by decide +kernel
theorem dJ3_checkIndex_8e157_5 : decode cJ3_checkIndex_8e157 5 = .ok (.iload_n 1, 1) := by decide +kernel
theorem dJ3_checkIndex_8e157_6 : decode cJ3_checkIndex_8e157 6 = .ok (.if_icmp .lt 10, 3) := by decide +kernel
theorem dJ3_checkIndex_8e157_9 : decode cJ3_checkIndex_8e157 9 = .ok (.aload_n 2, 1) := by decide +kernel
theorem dJ3_checkIndex_8e157_10 : decode cJ3_checkIndex_8e157 10 = .ok (.iload_n 0, 1) := by decide +kernel
theorem dJ3_checkIndex_8e157_11 : decode cJ3_checkIndex_8e157 11 = .ok (.iload_n 1, 1) := by decide +kernel
theorem dJ3_checkIndex_8e157_12 : decode cJ3_checkIndex_8e157 12 = .ok (.invokestatic 95, 3) := by decide +kernel
theorem dJ3_checkIndex_8e157_15 : decode cJ3_checkIndex_8e157 15 = .ok (.athrow, 1) := by decide +kernel
theorem dJ3_checkIndex_8e157_16 : decode cJ3_checkIndex_8e157 16 = .ok (.iload_n 0, 1) := by decide +kernel
theorem dJ3_checkIndex_8e157_17 : decode cJ3_checkIndex_8e157 17 = .ok (.ireturn, 1) := by decide +kernel
theorem dL_law_0 : decode cL_law 0 = .ok (.new 7, 3) := by decide +kernel
theorem dL_law_3 : decode cL_law 3 = .ok (.dup, 1) := by decide +kernel
theorem dL_law_4 : decode cL_law 4 = .ok (.invokespecial 9, 3) := by decide +kernel
theorem dL_law_7 : decode cL_law 7 = .ok (.astore_n 1, 1) := by decide +kernel
theorem dL_law_8 : decode cL_law 8 = .ok (.new 10, 3) := by decide +kernel
theorem dL_law_11 : decode cL_law 11 = .ok (.dup, 1) := by decide +kernel
theorem dL_law_12 : decode cL_law 12 = .ok (.invokespecial 12, 3) := by decide +kernel
theorem dL_law_15 : decode cL_law 15 = .ok (.astore_n 2, 1) := by decide +kernel
theorem dL_law_16 : decode cL_law 16 = .ok (.iconst 0, 1) := by decide +kernel
theorem dL_law_17 : decode cL_law 17 = .ok (.istore_n 3, 1) := by decide +kernel
theorem dL_law_18 : decode cL_law 18 = .ok (.iload_n 3, 1) := by decide +kernel
theorem dL_law_19 : decode cL_law 19 = .ok (.aload_n 0, 1) := by decide +kernel
theorem dL_law_20 : decode cL_law 20 = .ok (.arraylength, 1) := by decide +kernel
theorem dL_law_21 : decode cL_law 21 = .ok (.iconst 5, 1) := by decide +kernel
theorem dL_law_22 : decode cL_law 22 = .ok (.isub, 1) := by decide +kernel
theorem dL_law_23 : decode cL_law 23 = .ok (.if_icmp .gt 763, 3) := by decide +kernel
theorem dL_law_26 : decode cL_law 26 = .ok (.aload_n 0, 1) := by decide +kernel
theorem dL_law_27 : decode cL_law 27 = .ok (.iload_n 3, 1) := by decide +kernel
theorem dL_law_28 : decode cL_law 28 = .ok (.iaload, 1) := by decide +kernel
theorem dL_law_29 : decode cL_law 29 = .ok (.bipush 31, 2) := by decide +kernel
theorem dL_law_31 : decode cL_law 31 = .ok (.iand, 1) := by decide +kernel
theorem dL_law_32 : decode cL_law 32 = .ok (.tableswitch 748 0 22 #[108, 141, 174, 217, 270, 303, 326, 349, 382, 415, 448, 471, 495, 508, 541, 564, 597, 650, 663, 676, 689, 702, 725], 108) := by decide +kernel
theorem dL_law_140 : decode cL_law 140 = .ok (.aload_n 1, 1) := by decide +kernel
theorem dL_law_141 : decode cL_law 141 = .ok (.aload_n 0, 1) := by decide +kernel
theorem dL_law_142 : decode cL_law 142 = .ok (.iload_n 3, 1) := by decide +kernel
theorem dL_law_143 : decode cL_law 143 = .ok (.iconst 1, 1) := by decide +kernel
theorem dL_law_144 : decode cL_law 144 = .ok (.iadd, 1) := by decide +kernel
theorem dL_law_145 : decode cL_law 145 = .ok (.iaload, 1) := by decide +kernel
theorem dL_law_146 : decode cL_law 146 = .ok (.aload_n 0, 1) := by decide +kernel
theorem dL_law_147 : decode cL_law 147 = .ok (.iload_n 3, 1) := by decide +kernel
theorem dL_law_148 : decode cL_law 148 = .ok (.iconst 2, 1) := by decide +kernel
theorem dL_law_149 : decode cL_law 149 = .ok (.iadd, 1) := by decide +kernel
theorem dL_law_150 : decode cL_law 150 = .ok (.iaload, 1) := by decide +kernel
theorem dL_law_151 : decode cL_law 151 = .ok (.invokevirtual 13, 3) := by decide +kernel
theorem dL_law_154 : decode cL_law 154 = .ok (.aload_n 2, 1) := by decide +kernel
theorem dL_law_155 : decode cL_law 155 = .ok (.aload_n 0, 1) := by decide +kernel
theorem dL_law_156 : decode cL_law 156 = .ok (.iload_n 3, 1) := by decide +kernel
theorem dL_law_157 : decode cL_law 157 = .ok (.iconst 1, 1) := by decide +kernel
theorem dL_law_158 : decode cL_law 158 = .ok (.iadd, 1) := by decide +kernel
theorem dL_law_159 : decode cL_law 159 = .ok (.iaload, 1) := by decide +kernel
theorem dL_law_160 : decode cL_law 160 = .ok (.aload_n 0, 1) := by decide +kernel
theorem dL_law_161 : decode cL_law 161 = .ok (.iload_n 3, 1) := by decide +kernel
theorem dL_law_162 : decode cL_law 162 = .ok (.iconst 2, 1) := by decide +kernel
theorem dL_law_163 : decode cL_law 163 = .ok (.iadd, 1) := by decide +kernel
theorem dL_law_164 : decode cL_law 164 = .ok (.iaload, 1) := by decide +kernel
theorem dL_law_165 : decode cL_law 165 = .ok (.invokevirtual 17, 3) := by decide +kernel
theorem dL_law_168 : decode cL_law 168 = .ok (.if_icmp .eq 612, 3) := by decide +kernel
theorem dL_law_171 : decode cL_law 171 = .ok (.iconst 0, 1) := by decide +kernel
theorem dL_law_172 : decode cL_law 172 = .ok (.ireturn, 1) := by decide +kernel
theorem dL_law_173 : decode cL_law 173 = .ok (.aload_n 1, 1) := by decide +kernel
theorem dL_law_174 : decode cL_law 174 = .ok (.aload_n 0, 1) := by decide +kernel
theorem dL_law_175 : decode cL_law 175 = .ok (.iload_n 3, 1) := by decide +kernel
theorem dL_law_176 : decode cL_law 176 = .ok (.iconst 1, 1) := by decide +kernel
theorem dL_law_177 : decode cL_law 177 = .ok (.iadd, 1) := by decide +kernel
theorem dL_law_178 : decode cL_law 178 = .ok (.iaload, 1) := by decide +kernel
theorem dL_law_179 : decode cL_law 179 = .ok (.aload_n 0, 1) := by decide +kernel
theorem dL_law_180 : decode cL_law 180 = .ok (.iload_n 3, 1) := by decide +kernel
theorem dL_law_181 : decode cL_law 181 = .ok (.iconst 2, 1) := by decide +kernel
theorem dL_law_182 : decode cL_law 182 = .ok (.iadd, 1) := by decide +kernel
theorem dL_law_183 : decode cL_law 183 = .ok (.iaload, 1) := by decide +kernel
theorem dL_law_184 : decode cL_law 184 = .ok (.invokevirtual 18, 3) := by decide +kernel
theorem dL_law_187 : decode cL_law 187 = .ok (.aload_n 2, 1) := by decide +kernel
theorem dL_law_188 : decode cL_law 188 = .ok (.aload_n 0, 1) := by decide +kernel
theorem dL_law_189 : decode cL_law 189 = .ok (.iload_n 3, 1) := by decide +kernel
theorem dL_law_190 : decode cL_law 190 = .ok (.iconst 1, 1) := by decide +kernel
theorem dL_law_191 : decode cL_law 191 = .ok (.iadd, 1) := by decide +kernel
theorem dL_law_192 : decode cL_law 192 = .ok (.iaload, 1) := by decide +kernel
theorem dL_law_193 : decode cL_law 193 = .ok (.aload_n 0, 1) := by decide +kernel
theorem dL_law_194 : decode cL_law 194 = .ok (.iload_n 3, 1) := by decide +kernel
theorem dL_law_195 : decode cL_law 195 = .ok (.iconst 2, 1) := by decide +kernel
theorem dL_law_196 : decode cL_law 196 = .ok (.iadd, 1) := by decide +kernel
theorem dL_law_197 : decode cL_law 197 = .ok (.iaload, 1) := by decide +kernel
theorem dL_law_198 : decode cL_law 198 = .ok (.invokevirtual 21, 3) := by decide +kernel
theorem dL_law_201 : decode cL_law 201 = .ok (.if_icmp .eq 579, 3) := by decide +kernel
theorem dL_law_204 : decode cL_law 204 = .ok (.iconst 0, 1) := by decide +kernel
theorem dL_law_205 : decode cL_law 205 = .ok (.ireturn, 1) := by decide +kernel
theorem dL_law_206 : decode cL_law 206 = .ok (.aload_n 1, 1) := by decide +kernel
theorem dL_law_207 : decode cL_law 207 = .ok (.aload_n 0, 1) := by decide +kernel
theorem dL_law_208 : decode cL_law 208 = .ok (.iload_n 3, 1) := by decide +kernel
theorem dL_law_209 : decode cL_law 209 = .ok (.iconst 1, 1) := by decide +kernel
theorem dL_law_210 : decode cL_law 210 = .ok (.iadd, 1) := by decide +kernel
theorem dL_law_211 : decode cL_law 211 = .ok (.iaload, 1) := by decide +kernel
theorem dL_law_212 : decode cL_law 212 = .ok (.aload_n 0, 1) := by decide +kernel
theorem dL_law_213 : decode cL_law 213 = .ok (.iload_n 3, 1) := by decide +kernel
theorem dL_law_214 : decode cL_law 214 = .ok (.iconst 2, 1) := by decide +kernel
theorem dL_law_215 : decode cL_law 215 = .ok (.iadd, 1) := by decide +kernel
theorem dL_law_216 : decode cL_law 216 = .ok (.iaload, 1) := by decide +kernel
theorem dL_law_217 : decode cL_law 217 = .ok (.aload_n 0, 1) := by decide +kernel
theorem dL_law_218 : decode cL_law 218 = .ok (.iload_n 3, 1) := by decide +kernel
theorem dL_law_219 : decode cL_law 219 = .ok (.iconst 3, 1) := by decide +kernel
theorem dL_law_220 : decode cL_law 220 = .ok (.iadd, 1) := by decide +kernel
theorem dL_law_221 : decode cL_law 221 = .ok (.iaload, 1) := by decide +kernel
theorem dL_law_222 : decode cL_law 222 = .ok (.invokevirtual 22, 3) := by decide +kernel
theorem dL_law_225 : decode cL_law 225 = .ok (.aload_n 2, 1) := by decide +kernel
theorem dL_law_226 : decode cL_law 226 = .ok (.aload_n 0, 1) := by decide +kernel
theorem dL_law_227 : decode cL_law 227 = .ok (.iload_n 3, 1) := by decide +kernel
theorem dL_law_228 : decode cL_law 228 = .ok (.iconst 1, 1) := by decide +kernel
theorem dL_law_229 : decode cL_law 229 = .ok (.iadd, 1) := by decide +kernel
theorem dL_law_230 : decode cL_law 230 = .ok (.iaload, 1) := by decide +kernel
theorem dL_law_231 : decode cL_law 231 = .ok (.aload_n 0, 1) := by decide +kernel
theorem dL_law_232 : decode cL_law 232 = .ok (.iload_n 3, 1) := by decide +kernel
theorem dL_law_233 : decode cL_law 233 = .ok (.iconst 2, 1) := by decide +kernel
theorem dL_law_234 : decode cL_law 234 = .ok (.iadd, 1) := by decide +kernel
theorem dL_law_235 : decode cL_law 235 = .ok (.iaload, 1) := by decide +kernel
theorem dL_law_236 : decode cL_law 236 = .ok (.aload_n 0, 1) := by decide +kernel
theorem dL_law_237 : decode cL_law 237 = .ok (.iload_n 3, 1) := by decide +kernel
theorem dL_law_238 : decode cL_law 238 = .ok (.iconst 3, 1) := by decide +kernel
theorem dL_law_239 : decode cL_law 239 = .ok (.iadd, 1) := by decide +kernel
theorem dL_law_240 : decode cL_law 240 = .ok (.iaload, 1) := by decide +kernel
theorem dL_law_241 : decode cL_law 241 = .ok (.invokevirtual 26, 3) := by decide +kernel
theorem dL_law_244 : decode cL_law 244 = .ok (.if_icmp .eq 536, 3) := by decide +kernel
theorem dL_law_247 : decode cL_law 247 = .ok (.iconst 0, 1) := by decide +kernel
theorem dL_law_248 : decode cL_law 248 = .ok (.ireturn, 1) := by decide +kernel
theorem dL_law_249 : decode cL_law 249 = .ok (.aload_n 1, 1) := by decide +kernel
theorem dL_law_250 : decode cL_law 250 = .ok (.aload_n 0, 1) := by decide +kernel
theorem dL_law_251 : decode cL_law 251 = .ok (.iload_n 3, 1) := by decide +kernel
theorem dL_law_252 : decode cL_law 252 = .ok (.iconst 1, 1) := by decide +kernel
theorem dL_law_253 : decode cL_law 253 = .ok (.iadd, 1) := by decide +kernel
theorem dL_law_254 : decode cL_law 254 = .ok (.iaload, 1) := by decide +kernel
theorem dL_law_255 : decode cL_law 255 = .ok (.aload_n 0, 1) := by decide +kernel
theorem dL_law_256 : decode cL_law 256 = .ok (.iload_n 3, 1) := by decide +kernel
theorem dL_law_257 : decode cL_law 257 = .ok (.iconst 2, 1) := by decide +kernel
theorem dL_law_258 : decode cL_law 258 = .ok (.iadd, 1) := by decide +kernel
theorem dL_law_259 : decode cL_law 259 = .ok (.iaload, 1) := by decide +kernel
theorem dL_law_260 : decode cL_law 260 = .ok (.aload_n 0, 1) := by decide +kernel
theorem dL_law_261 : decode cL_law 261 = .ok (.iload_n 3, 1) := by decide +kernel
theorem dL_law_262 : decode cL_law 262 = .ok (.iconst 3, 1) := by decide +kernel
theorem dL_law_263 : decode cL_law 263 = .ok (.iadd, 1) := by decide +kernel
theorem dL_law_264 : decode cL_law 264 = .ok (.iaload, 1) := by decide +kernel
theorem dL_law_265 : decode cL_law 265 = .ok (.aload_n 0, 1) := by decide +kernel
theorem dL_law_266 : decode cL_law 266 = .ok (.iload_n 3, 1) := by decide +kernel
theorem dL_law_267 : decode cL_law 267 = .ok (.iconst 4, 1) := by decide +kernel
theorem dL_law_268 : decode cL_law 268 = .ok (.iadd, 1) := by decide +kernel
theorem dL_law_269 : decode cL_law 269 = .ok (.iaload, 1) := by decide +kernel
theorem dL_law_270 : decode cL_law 270 = .ok (.invokevirtual 27, 3) := by decide +kernel
theorem dL_law_273 : decode cL_law 273 = .ok (.aload_n 2, 1) := by decide +kernel
theorem dL_law_274 : decode cL_law 274 = .ok (.aload_n 0, 1) := by decide +kernel
theorem dL_law_275 : decode cL_law 275 = .ok (.iload_n 3, 1) := by decide +kernel
theorem dL_law_276 : decode cL_law 276 = .ok (.iconst 1, 1) := by decide +kernel
theorem dL_law_277 : decode cL_law 277 = .ok (.iadd, 1) := by decide +kernel
theorem dL_law_278 : decode cL_law 278 = .ok (.iaload, 1) := by decide +kernel
theorem dL_law_279 : decode cL_law 279 = .ok (.aload_n 0, 1) := by decide +kernel
theorem dL_law_280 : decode cL_law 280 = .ok (.iload_n 3, 1) := by decide +kernel
theorem dL_law_281 : decode cL_law 281 = .ok (.iconst 2, 1) := by decide +kernel
theorem dL_law_282 : decode cL_law 282 = .ok (.iadd, 1) := by decide +kernel
theorem dL_law_283 : decode cL_law 283 = .ok (.iaload, 1) := by decide +kernel
theorem dL_law_284 : decode cL_law 284 = .ok (.aload_n 0, 1) := by decide +kernel
theorem dL_law_285 : decode cL_law 285 = .ok (.iload_n 3, 1) := by decide +kernel
theorem dL_law_286 : decode cL_law 286 = .ok (.iconst 3, 1) := by decide +kernel
theorem dL_law_287 : decode cL_law 287 = .ok (.iadd, 1) := by decide +kernel
theorem dL_law_288 : decode cL_law 288 = .ok (.iaload, 1) := by decide +kernel
theorem dL_law_289 : decode cL_law 289 = .ok (.aload_n 0, 1) := by decide +kernel
theorem dL_law_290 : decode cL_law 290 = .ok (.iload_n 3, 1) := by decide +kernel
theorem dL_law_291 : decode cL_law 291 = .ok (.iconst 4, 1) := by decide +kernel
theorem dL_law_292 : decode cL_law 292 = .ok (.iadd, 1) := by decide +kernel
theorem dL_law_293 : decode cL_law 293 = .ok (.iaload, 1) := by decide +kernel
theorem dL_law_294 : decode cL_law 294 = .ok (.invokevirtual 31, 3) := by decide +kernel
theorem dL_law_297 : decode cL_law 297 = .ok (.if_icmp .eq 483, 3) := by decide +kernel
theorem dL_law_300 : decode cL_law 300 = .ok (.iconst 0, 1) := by decide +kernel
theorem dL_law_301 : decode cL_law 301 = .ok (.ireturn, 1) := by decide +kernel
theorem dL_law_302 : decode cL_law 302 = .ok (.aload_n 1, 1) := by decide +kernel
theorem dL_law_303 : decode cL_law 303 = .ok (.aload_n 0, 1) := by decide +kernel
theorem dL_law_304 : decode cL_law 304 = .ok (.iload_n 3, 1) := by decide +kernel
theorem dL_law_305 : decode cL_law 305 = .ok (.iconst 1, 1) := by decide +kernel
theorem dL_law_306 : decode cL_law 306 = .ok (.iadd, 1) := by decide +kernel
theorem dL_law_307 : decode cL_law 307 = .ok (.iaload, 1) := by decide +kernel
theorem dL_law_308 : decode cL_law 308 = .ok (.aload_n 0, 1) := by decide +kernel
theorem dL_law_309 : decode cL_law 309 = .ok (.iload_n 3, 1) := by decide +kernel
theorem dL_law_310 : decode cL_law 310 = .ok (.iconst 2, 1) := by decide +kernel
theorem dL_law_311 : decode cL_law 311 = .ok (.iadd, 1) := by decide +kernel
theorem dL_law_312 : decode cL_law 312 = .ok (.iaload, 1) := by decide +kernel
theorem dL_law_313 : decode cL_law 313 = .ok (.invokevirtual 32, 3) := by decide +kernel
theorem dL_law_316 : decode cL_law 316 = .ok (.aload_n 2, 1) := by decide +kernel
theorem dL_law_317 : decode cL_law 317 = .ok (.aload_n 0, 1) := by decide +kernel
theorem dL_law_318 : decode cL_law 318 = .ok (.iload_n 3, 1) := by decide +kernel
theorem dL_law_319 : decode cL_law 319 = .ok (.iconst 1, 1) := by decide +kernel
theorem dL_law_320 : decode cL_law 320 = .ok (.iadd, 1) := by decide +kernel
theorem dL_law_321 : decode cL_law 321 = .ok (.iaload, 1) := by decide +kernel
theorem dL_law_322 : decode cL_law 322 = .ok (.aload_n 0, 1) := by decide +kernel
theorem dL_law_323 : decode cL_law 323 = .ok (.iload_n 3, 1) := by decide +kernel
theorem dL_law_324 : decode cL_law 324 = .ok (.iconst 2, 1) := by decide +kernel
theorem dL_law_325 : decode cL_law 325 = .ok (.iadd, 1) := by decide +kernel
theorem dL_law_326 : decode cL_law 326 = .ok (.iaload, 1) := by decide +kernel
theorem dL_law_327 : decode cL_law 327 = .ok (.invokevirtual 35, 3) := by decide +kernel
theorem dL_law_330 : decode cL_law 330 = .ok (.if_icmp .eq 450, 3) := by decide +kernel
theorem dL_law_333 : decode cL_law 333 = .ok (.iconst 0, 1) := by decide +kernel
theorem dL_law_334 : decode cL_law 334 = .ok (.ireturn, 1) := by decide +kernel
theorem dL_law_335 : decode cL_law 335 = .ok (.aload_n 1, 1) := by decide +kernel
theorem dL_law_336 : decode cL_law 336 = .ok (.aload_n 0, 1) := by decide +kernel
theorem dL_law_337 : decode cL_law 337 = .ok (.iload_n 3, 1) := by decide +kernel
theorem dL_law_338 : decode cL_law 338 = .ok (.iconst 1, 1) := by decide +kernel
theorem dL_law_339 : decode cL_law 339 = .ok (.iadd, 1) := by decide +kernel
theorem dL_law_340 : decode cL_law 340 = .ok (.iaload, 1) := by decide +kernel
theorem dL_law_341 : decode cL_law 341 = .ok (.invokevirtual 36, 3) := by decide +kernel
theorem dL_law_344 : decode cL_law 344 = .ok (.aload_n 2, 1) := by decide +kernel
theorem dL_law_345 : decode cL_law 345 = .ok (.aload_n 0, 1) := by decide +kernel
theorem dL_law_346 : decode cL_law 346 = .ok (.iload_n 3, 1) := by decide +kernel
theorem dL_law_347 : decode cL_law 347 = .ok (.iconst 1, 1) := by decide +kernel
theorem dL_law_348 : decode cL_law 348 = .ok (.iadd, 1) := by decide +kernel
theorem dL_law_349 : decode cL_law 349 = .ok (.iaload, 1) := by decide +kernel
theorem dL_law_350 : decode cL_law 350 = .ok (.invokevirtual 40, 3) := by decide +kernel
theorem dL_law_353 : decode cL_law 353 = .ok (.if_icmp .eq 427, 3) := by decide +kernel
theorem dL_law_356 : decode cL_law 356 = .ok (.iconst 0, 1) := by decide +kernel
theorem dL_law_357 : decode cL_law 357 = .ok (.ireturn, 1) := by decide +kernel
theorem dL_law_358 : decode cL_law 358 = .ok (.aload_n 1, 1) := by decide +kernel
theorem dL_law_359 : decode cL_law 359 = .ok (.aload_n 0, 1) := by decide +kernel
theorem dL_law_360 : decode cL_law 360 = .ok (.iload_n 3, 1) := by decide +kernel
theorem dL_law_361 : decode cL_law 361 = .ok (.iconst 1, 1) := by decide +kernel
theorem dL_law_362 : decode cL_law 362 = .ok (.iadd, 1) := by decide +kernel
theorem dL_law_363 : decode cL_law 363 = .ok (.iaload, 1) := by decide +kernel
theorem dL_law_364 : decode cL_law 364 = .ok (.invokevirtual 41, 3) := by decide +kernel
theorem dL_law_367 : decode cL_law 367 = .ok (.aload_n 2, 1) := by decide +kernel
theorem dL_law_368 : decode cL_law 368 = .ok (.aload_n 0, 1) := by decide +kernel
theorem dL_law_369 : decode cL_law 369 = .ok (.iload_n 3, 1) := by decide +kernel
theorem dL_law_370 : decode cL_law 370 = .ok (.iconst 1, 1) := by decide +kernel
theorem dL_law_371 : decode cL_law 371 = .ok (.iadd, 1) := by decide +kernel
theorem dL_law_372 : decode cL_law 372 = .ok (.iaload, 1) := by decide +kernel
theorem dL_law_373 : decode cL_law 373 = .ok (.invokevirtual 44, 3) := by decide +kernel
theorem dL_law_376 : decode cL_law 376 = .ok (.if_icmp .eq 404, 3) := by decide +kernel
theorem dL_law_379 : decode cL_law 379 = .ok (.iconst 0, 1) := by decide +kernel
theorem dL_law_380 : decode cL_law 380 = .ok (.ireturn, 1) := by decide +kernel
theorem dL_law_381 : decode cL_law 381 = .ok (.aload_n 1, 1) := by decide +kernel
theorem dL_law_382 : decode cL_law 382 = .ok (.aload_n 0, 1) := by decide +kernel
theorem dL_law_383 : decode cL_law 383 = .ok (.iload_n 3, 1) := by decide +kernel
theorem dL_law_384 : decode cL_law 384 = .ok (.iconst 1, 1) := by decide +kernel
theorem dL_law_385 : decode cL_law 385 = .ok (.iadd, 1) := by decide +kernel
theorem dL_law_386 : decode cL_law 386 = .ok (.iaload, 1) := by decide +kernel
theorem dL_law_387 : decode cL_law 387 = .ok (.aload_n 0, 1) := by decide +kernel
theorem dL_law_388 : decode cL_law 388 = .ok (.iload_n 3, 1) := by decide +kernel
theorem dL_law_389 : decode cL_law 389 = .ok (.iconst 2, 1) := by decide +kernel
theorem dL_law_390 : decode cL_law 390 = .ok (.iadd, 1) := by decide +kernel
theorem dL_law_391 : decode cL_law 391 = .ok (.iaload, 1) := by decide +kernel
theorem dL_law_392 : decode cL_law 392 = .ok (.invokevirtual 45, 3) := by decide +kernel
theorem dL_law_395 : decode cL_law 395 = .ok (.aload_n 2, 1) := by decide +kernel
theorem dL_law_396 : decode cL_law 396 = .ok (.aload_n 0, 1) := by decide +kernel
theorem dL_law_397 : decode cL_law 397 = .ok (.iload_n 3, 1) := by decide +kernel
theorem dL_law_398 : decode cL_law 398 = .ok (.iconst 1, 1) := by decide +kernel
theorem dL_law_399 : decode cL_law 399 = .ok (.iadd, 1) := by decide +kernel
theorem dL_law_400 : decode cL_law 400 = .ok (.iaload, 1) := by decide +kernel
theorem dL_law_401 : decode cL_law 401 = .ok (.aload_n 0, 1) := by decide +kernel
theorem dL_law_402 : decode cL_law 402 = .ok (.iload_n 3, 1) := by decide +kernel
theorem dL_law_403 : decode cL_law 403 = .ok (.iconst 2, 1) := by decide +kernel
theorem dL_law_404 : decode cL_law 404 = .ok (.iadd, 1) := by decide +kernel
theorem dL_law_405 : decode cL_law 405 = .ok (.iaload, 1) := by decide +kernel
theorem dL_law_406 : decode cL_law 406 = .ok (.invokevirtual 48, 3) := by decide +kernel
theorem dL_law_409 : decode cL_law 409 = .ok (.if_icmp .eq 371, 3) := by decide +kernel
theorem dL_law_412 : decode cL_law 412 = .ok (.iconst 0, 1) := by decide +kernel
theorem dL_law_413 : decode cL_law 413 = .ok (.ireturn, 1) := by decide +kernel
theorem dL_law_414 : decode cL_law 414 = .ok (.aload_n 1, 1) := by decide +kernel
theorem dL_law_415 : decode cL_law 415 = .ok (.aload_n 0, 1) := by decide +kernel
theorem dL_law_416 : decode cL_law 416 = .ok (.iload_n 3, 1) := by decide +kernel
theorem dL_law_417 : decode cL_law 417 = .ok (.iconst 1, 1) := by decide +kernel
theorem dL_law_418 : decode cL_law 418 = .ok (.iadd, 1) := by decide +kernel
theorem dL_law_419 : decode cL_law 419 = .ok (.iaload, 1) := by decide +kernel
theorem dL_law_420 : decode cL_law 420 = .ok (.aload_n 0, 1) := by decide +kernel
theorem dL_law_421 : decode cL_law 421 = .ok (.iload_n 3, 1) := by decide +kernel
theorem dL_law_422 : decode cL_law 422 = .ok (.iconst 2, 1) := by decide +kernel
theorem dL_law_423 : decode cL_law 423 = .ok (.iadd, 1) := by decide +kernel
theorem dL_law_424 : decode cL_law 424 = .ok (.iaload, 1) := by decide +kernel
theorem dL_law_425 : decode cL_law 425 = .ok (.invokevirtual 49, 3) := by decide +kernel
theorem dL_law_428 : decode cL_law 428 = .ok (.aload_n 2, 1) := by decide +kernel
theorem dL_law_429 : decode cL_law 429 = .ok (.aload_n 0, 1) := by decide +kernel
theorem dL_law_430 : decode cL_law 430 = .ok (.iload_n 3, 1) := by decide +kernel
theorem dL_law_431 : decode cL_law 431 = .ok (.iconst 1, 1) := by decide +kernel
theorem dL_law_432 : decode cL_law 432 = .ok (.iadd, 1) := by decide +kernel
theorem dL_law_433 : decode cL_law 433 = .ok (.iaload, 1) := by decide +kernel
theorem dL_law_434 : decode cL_law 434 = .ok (.aload_n 0, 1) := by decide +kernel
theorem dL_law_435 : decode cL_law 435 = .ok (.iload_n 3, 1) := by decide +kernel
theorem dL_law_436 : decode cL_law 436 = .ok (.iconst 2, 1) := by decide +kernel
theorem dL_law_437 : decode cL_law 437 = .ok (.iadd, 1) := by decide +kernel
theorem dL_law_438 : decode cL_law 438 = .ok (.iaload, 1) := by decide +kernel
theorem dL_law_439 : decode cL_law 439 = .ok (.invokevirtual 52, 3) := by decide +kernel
theorem dL_law_442 : decode cL_law 442 = .ok (.if_icmp .eq 338, 3) := by decide +kernel
theorem dL_law_445 : decode cL_law 445 = .ok (.iconst 0, 1) := by decide +kernel
theorem dL_law_446 : decode cL_law 446 = .ok (.ireturn, 1) := by decide +kernel
theorem dL_law_447 : decode cL_law 447 = .ok (.aload_n 1, 1) := by decide +kernel
theorem dL_law_448 : decode cL_law 448 = .ok (.aload_n 0, 1) := by decide +kernel
theorem dL_law_449 : decode cL_law 449 = .ok (.iload_n 3, 1) := by decide +kernel
theorem dL_law_450 : decode cL_law 450 = .ok (.iconst 1, 1) := by decide +kernel
theorem dL_law_451 : decode cL_law 451 = .ok (.iadd, 1) := by decide +kernel
theorem dL_law_452 : decode cL_law 452 = .ok (.iaload, 1) := by decide +kernel
theorem dL_law_453 : decode cL_law 453 = .ok (.aload_n 0, 1) := by decide +kernel
theorem dL_law_454 : decode cL_law 454 = .ok (.iload_n 3, 1) := by decide +kernel
theorem dL_law_455 : decode cL_law 455 = .ok (.iconst 2, 1) := by decide +kernel
theorem dL_law_456 : decode cL_law 456 = .ok (.iadd, 1) := by decide +kernel
theorem dL_law_457 : decode cL_law 457 = .ok (.iaload, 1) := by decide +kernel
theorem dL_law_458 : decode cL_law 458 = .ok (.invokevirtual 53, 3) := by decide +kernel
theorem dL_law_461 : decode cL_law 461 = .ok (.aload_n 2, 1) := by decide +kernel
theorem dL_law_462 : decode cL_law 462 = .ok (.aload_n 0, 1) := by decide +kernel
theorem dL_law_463 : decode cL_law 463 = .ok (.iload_n 3, 1) := by decide +kernel
theorem dL_law_464 : decode cL_law 464 = .ok (.iconst 1, 1) := by decide +kernel
theorem dL_law_465 : decode cL_law 465 = .ok (.iadd, 1) := by decide +kernel
theorem dL_law_466 : decode cL_law 466 = .ok (.iaload, 1) := by decide +kernel
theorem dL_law_467 : decode cL_law 467 = .ok (.aload_n 0, 1) := by decide +kernel
theorem dL_law_468 : decode cL_law 468 = .ok (.iload_n 3, 1) := by decide +kernel
theorem dL_law_469 : decode cL_law 469 = .ok (.iconst 2, 1) := by decide +kernel
theorem dL_law_470 : decode cL_law 470 = .ok (.iadd, 1) := by decide +kernel
theorem dL_law_471 : decode cL_law 471 = .ok (.iaload, 1) := by decide +kernel
theorem dL_law_472 : decode cL_law 472 = .ok (.invokevirtual 56, 3) := by decide +kernel
theorem dL_law_475 : decode cL_law 475 = .ok (.if_icmp .eq 305, 3) := by decide +kernel
theorem dL_law_478 : decode cL_law 478 = .ok (.iconst 0, 1) := by decide +kernel
theorem dL_law_479 : decode cL_law 479 = .ok (.ireturn, 1) := by decide +kernel
theorem dL_law_480 : decode cL_law 480 = .ok (.aload_n 1, 1) := by decide +kernel
theorem dL_law_481 : decode cL_law 481 = .ok (.aload_n 0, 1) := by decide +kernel
theorem dL_law_482 : decode cL_law 482 = .ok (.iload_n 3, 1) := by decide +kernel
theorem dL_law_483 : decode cL_law 483 = .ok (.iconst 1, 1) := by decide +kernel
theorem dL_law_484 : decode cL_law 484 = .ok (.iadd, 1) := by decide +kernel
theorem dL_law_485 : decode cL_law 485 = .ok (.iaload, 1) := by decide +kernel
theorem dL_law_486 : decode cL_law 486 = .ok (.invokevirtual 57, 3) := by decide +kernel
theorem dL_law_489 : decode cL_law 489 = .ok (.aload_n 2, 1) := by decide +kernel
theorem dL_law_490 : decode cL_law 490 = .ok (.aload_n 0, 1) := by decide +kernel
theorem dL_law_491 : decode cL_law 491 = .ok (.iload_n 3, 1) := by decide +kernel
theorem dL_law_492 : decode cL_law 492 = .ok (.iconst 1, 1) := by decide +kernel
theorem dL_law_493 : decode cL_law 493 = .ok (.iadd, 1) := by decide +kernel
theorem dL_law_494 : decode cL_law 494 = .ok (.iaload, 1) := by decide +kernel
theorem dL_law_495 : decode cL_law 495 = .ok (.invokevirtual 60, 3) := by decide +kernel
theorem dL_law_498 : decode cL_law 498 = .ok (.if_icmp .eq 282, 3) := by decide +kernel
theorem dL_law_501 : decode cL_law 501 = .ok (.iconst 0, 1) := by decide +kernel
theorem dL_law_502 : decode cL_law 502 = .ok (.ireturn, 1) := by decide +kernel
theorem dL_law_503 : decode cL_law 503 = .ok (.aload_n 1, 1) := by decide +kernel
theorem dL_law_504 : decode cL_law 504 = .ok (.aload_n 0, 1) := by decide +kernel
end
section
theorem dL_law_505 : decode cL_law 505 = .ok (.iload_n 3, 1) := by decide +kernel
theorem dL_law_506 : decode cL_law 506 = .ok (.iconst 1, 1) := by decide +kernel
theorem dL_law_507 : decode cL_law 507 = .ok (.iadd, 1) := by decide +kernel
theorem dL_law_508 : decode cL_law 508 = .ok (.iaload, 1) := by decide +kernel
theorem dL_law_509 : decode cL_law 509 = .ok (.invokevirtual 61, 3) := by decide +kernel
theorem dL_law_512 : decode cL_law 512 = .ok (.aload_n 2, 1) := by decide +kernel
theorem dL_law_513 : decode cL_law 513 = .ok (.aload_n 0, 1) := by decide +kernel
theorem dL_law_514 : decode cL_law 514 = .ok (.iload_n 3, 1) := by decide +kernel
theorem dL_law_515 : decode cL_law 515 = .ok (.iconst 1, 1) := by decide +kernel
theorem dL_law_516 : decode cL_law 516 = .ok (.iadd, 1) := by decide +kernel
theorem dL_law_517 : decode cL_law 517 = .ok (.iaload, 1) := by decide +kernel
theorem dL_law_518 : decode cL_law 518 = .ok (.invokevirtual 65, 3) := by decide +kernel
theorem dL_law_521 : decode cL_law 521 = .ok (.lcmp, 1) := by decide +kernel
theorem dL_law_522 : decode cL_law 522 = .ok (.ifCond .eq 258, 3) := by decide +kernel
theorem dL_law_525 : decode cL_law 525 = .ok (.iconst 0, 1) := by decide +kernel
theorem dL_law_526 : decode cL_law 526 = .ok (.ireturn, 1) := by decide +kernel
theorem dL_law_527 : decode cL_law 527 = .ok (.aload_n 1, 1) := by decide +kernel
theorem dL_law_528 : decode cL_law 528 = .ok (.invokevirtual 66, 3) := by decide +kernel
theorem dL_law_531 : decode cL_law 531 = .ok (.aload_n 2, 1) := by decide +kernel
theorem dL_law_532 : decode cL_law 532 = .ok (.invokevirtual 70, 3) := by decide +kernel
theorem dL_law_535 : decode cL_law 535 = .ok (.if_icmp .eq 245, 3) := by decide +kernel
theorem dL_law_538 : decode cL_law 538 = .ok (.iconst 0, 1) := by decide +kernel
theorem dL_law_539 : decode cL_law 539 = .ok (.ireturn, 1) := by decide +kernel
theorem dL_law_540 : decode cL_law 540 = .ok (.aload_n 1, 1) := by decide +kernel
theorem dL_law_541 : decode cL_law 541 = .ok (.aload_n 0, 1) := by decide +kernel
theorem dL_law_542 : decode cL_law 542 = .ok (.iload_n 3, 1) := by decide +kernel
theorem dL_law_543 : decode cL_law 543 = .ok (.iconst 1, 1) := by decide +kernel
theorem dL_law_544 : decode cL_law 544 = .ok (.iadd, 1) := by decide +kernel
theorem dL_law_545 : decode cL_law 545 = .ok (.iaload, 1) := by decide +kernel
theorem dL_law_546 : decode cL_law 546 = .ok (.aload_n 0, 1) := by decide +kernel
theorem dL_law_547 : decode cL_law 547 = .ok (.iload_n 3, 1) := by decide +kernel
theorem dL_law_548 : decode cL_law 548 = .ok (.iconst 2, 1) := by decide +kernel
theorem dL_law_549 : decode cL_law 549 = .ok (.iadd, 1) := by decide +kernel
theorem dL_law_550 : decode cL_law 550 = .ok (.iaload, 1) := by decide +kernel
theorem dL_law_551 : decode cL_law 551 = .ok (.invokevirtual 71, 3) := by decide +kernel
theorem dL_law_554 : decode cL_law 554 = .ok (.aload_n 2, 1) := by decide +kernel
theorem dL_law_555 : decode cL_law 555 = .ok (.aload_n 0, 1) := by decide +kernel
theorem dL_law_556 : decode cL_law 556 = .ok (.iload_n 3, 1) := by decide +kernel
theorem dL_law_557 : decode cL_law 557 = .ok (.iconst 1, 1) := by decide +kernel
theorem dL_law_558 : decode cL_law 558 = .ok (.iadd, 1) := by decide +kernel
theorem dL_law_559 : decode cL_law 559 = .ok (.iaload, 1) := by decide +kernel
theorem dL_law_560 : decode cL_law 560 = .ok (.aload_n 0, 1) := by decide +kernel
theorem dL_law_561 : decode cL_law 561 = .ok (.iload_n 3, 1) := by decide +kernel
theorem dL_law_562 : decode cL_law 562 = .ok (.iconst 2, 1) := by decide +kernel
theorem dL_law_563 : decode cL_law 563 = .ok (.iadd, 1) := by decide +kernel
theorem dL_law_564 : decode cL_law 564 = .ok (.iaload, 1) := by decide +kernel
theorem dL_law_565 : decode cL_law 565 = .ok (.invokevirtual 74, 3) := by decide +kernel
theorem dL_law_568 : decode cL_law 568 = .ok (.if_icmp .eq 212, 3) := by decide +kernel
theorem dL_law_571 : decode cL_law 571 = .ok (.iconst 0, 1) := by decide +kernel
theorem dL_law_572 : decode cL_law 572 = .ok (.ireturn, 1) := by decide +kernel
theorem dL_law_573 : decode cL_law 573 = .ok (.aload_n 1, 1) := by decide +kernel
theorem dL_law_574 : decode cL_law 574 = .ok (.aload_n 0, 1) := by decide +kernel
theorem dL_law_575 : decode cL_law 575 = .ok (.iload_n 3, 1) := by decide +kernel
theorem dL_law_576 : decode cL_law 576 = .ok (.iconst 1, 1) := by decide +kernel
theorem dL_law_577 : decode cL_law 577 = .ok (.iadd, 1) := by decide +kernel
theorem dL_law_578 : decode cL_law 578 = .ok (.iaload, 1) := by decide +kernel
theorem dL_law_579 : decode cL_law 579 = .ok (.invokevirtual 75, 3) := by decide +kernel
theorem dL_law_582 : decode cL_law 582 = .ok (.aload_n 2, 1) := by decide +kernel
theorem dL_law_583 : decode cL_law 583 = .ok (.aload_n 0, 1) := by decide +kernel
theorem dL_law_584 : decode cL_law 584 = .ok (.iload_n 3, 1) := by decide +kernel
theorem dL_law_585 : decode cL_law 585 = .ok (.iconst 1, 1) := by decide +kernel
theorem dL_law_586 : decode cL_law 586 = .ok (.iadd, 1) := by decide +kernel
theorem dL_law_587 : decode cL_law 587 = .ok (.iaload, 1) := by decide +kernel
theorem dL_law_588 : decode cL_law 588 = .ok (.invokevirtual 78, 3) := by decide +kernel
theorem dL_law_591 : decode cL_law 591 = .ok (.if_icmp .eq 189, 3) := by decide +kernel
theorem dL_law_594 : decode cL_law 594 = .ok (.iconst 0, 1) := by decide +kernel
theorem dL_law_595 : decode cL_law 595 = .ok (.ireturn, 1) := by decide +kernel
theorem dL_law_596 : decode cL_law 596 = .ok (.aload_n 1, 1) := by decide +kernel
theorem dL_law_597 : decode cL_law 597 = .ok (.aload_n 0, 1) := by decide +kernel
theorem dL_law_598 : decode cL_law 598 = .ok (.iload_n 3, 1) := by decide +kernel
theorem dL_law_599 : decode cL_law 599 = .ok (.iconst 1, 1) := by decide +kernel
theorem dL_law_600 : decode cL_law 600 = .ok (.iadd, 1) := by decide +kernel
theorem dL_law_601 : decode cL_law 601 = .ok (.iaload, 1) := by decide +kernel
theorem dL_law_602 : decode cL_law 602 = .ok (.aload_n 0, 1) := by decide +kernel
theorem dL_law_603 : decode cL_law 603 = .ok (.iload_n 3, 1) := by decide +kernel
theorem dL_law_604 : decode cL_law 604 = .ok (.iconst 2, 1) := by decide +kernel
theorem dL_law_605 : decode cL_law 605 = .ok (.iadd, 1) := by decide +kernel
theorem dL_law_606 : decode cL_law 606 = .ok (.iaload, 1) := by decide +kernel
theorem dL_law_607 : decode cL_law 607 = .ok (.invokevirtual 79, 3) := by decide +kernel
theorem dL_law_610 : decode cL_law 610 = .ok (.aload_n 2, 1) := by decide +kernel
theorem dL_law_611 : decode cL_law 611 = .ok (.aload_n 0, 1) := by decide +kernel
theorem dL_law_612 : decode cL_law 612 = .ok (.iload_n 3, 1) := by decide +kernel
theorem dL_law_613 : decode cL_law 613 = .ok (.iconst 1, 1) := by decide +kernel
theorem dL_law_614 : decode cL_law 614 = .ok (.iadd, 1) := by decide +kernel
theorem dL_law_615 : decode cL_law 615 = .ok (.iaload, 1) := by decide +kernel
theorem dL_law_616 : decode cL_law 616 = .ok (.aload_n 0, 1) := by decide +kernel
theorem dL_law_617 : decode cL_law 617 = .ok (.iload_n 3, 1) := by decide +kernel
theorem dL_law_618 : decode cL_law 618 = .ok (.iconst 2, 1) := by decide +kernel
theorem dL_law_619 : decode cL_law 619 = .ok (.iadd, 1) := by decide +kernel
theorem dL_law_620 : decode cL_law 620 = .ok (.iaload, 1) := by decide +kernel
theorem dL_law_621 : decode cL_law 621 = .ok (.invokevirtual 82, 3) := by decide +kernel
theorem dL_law_624 : decode cL_law 624 = .ok (.if_icmp .eq 156, 3) := by decide +kernel
theorem dL_law_627 : decode cL_law 627 = .ok (.iconst 0, 1) := by decide +kernel
theorem dL_law_628 : decode cL_law 628 = .ok (.ireturn, 1) := by decide +kernel
theorem dL_law_629 : decode cL_law 629 = .ok (.aload_n 1, 1) := by decide +kernel
theorem dL_law_630 : decode cL_law 630 = .ok (.aload_n 0, 1) := by decide +kernel
theorem dL_law_631 : decode cL_law 631 = .ok (.iload_n 3, 1) := by decide +kernel
theorem dL_law_632 : decode cL_law 632 = .ok (.iconst 1, 1) := by decide +kernel
theorem dL_law_633 : decode cL_law 633 = .ok (.iadd, 1) := by decide +kernel
theorem dL_law_634 : decode cL_law 634 = .ok (.iaload, 1) := by decide +kernel
theorem dL_law_635 : decode cL_law 635 = .ok (.i2l, 1) := by decide +kernel
theorem dL_law_636 : decode cL_law 636 = .ok (.bipush 32, 2) := by decide +kernel
theorem dL_law_638 : decode cL_law 638 = .ok (.lshl, 1) := by decide +kernel
theorem dL_law_639 : decode cL_law 639 = .ok (.aload_n 0, 1) := by decide +kernel
theorem dL_law_640 : decode cL_law 640 = .ok (.iload_n 3, 1) := by decide +kernel
theorem dL_law_641 : decode cL_law 641 = .ok (.iconst 2, 1) := by decide +kernel
theorem dL_law_642 : decode cL_law 642 = .ok (.iadd, 1) := by decide +kernel
theorem dL_law_643 : decode cL_law 643 = .ok (.iaload, 1) := by decide +kernel
theorem dL_law_644 : decode cL_law 644 = .ok (.i2l, 1) := by decide +kernel
theorem dL_law_645 : decode cL_law 645 = .ok (.ldc2_w 83, 3) := by decide +kernel
theorem dL_law_648 : decode cL_law 648 = .ok (.land, 1) := by decide +kernel
theorem dL_law_649 : decode cL_law 649 = .ok (.lor, 1) := by decide +kernel
theorem dL_law_650 : decode cL_law 650 = .ok (.invokevirtual 85, 3) := by decide +kernel
theorem dL_law_653 : decode cL_law 653 = .ok (.aload_n 2, 1) := by decide +kernel
theorem dL_law_654 : decode cL_law 654 = .ok (.aload_n 0, 1) := by decide +kernel
theorem dL_law_655 : decode cL_law 655 = .ok (.iload_n 3, 1) := by decide +kernel
theorem dL_law_656 : decode cL_law 656 = .ok (.iconst 1, 1) := by decide +kernel
theorem dL_law_657 : decode cL_law 657 = .ok (.iadd, 1) := by decide +kernel
theorem dL_law_658 : decode cL_law 658 = .ok (.iaload, 1) := by decide +kernel
theorem dL_law_659 : decode cL_law 659 = .ok (.i2l, 1) := by decide +kernel
theorem dL_law_660 : decode cL_law 660 = .ok (.bipush 32, 2) := by decide +kernel
theorem dL_law_662 : decode cL_law 662 = .ok (.lshl, 1) := by decide +kernel
theorem dL_law_663 : decode cL_law 663 = .ok (.aload_n 0, 1) := by decide +kernel
theorem dL_law_664 : decode cL_law 664 = .ok (.iload_n 3, 1) := by decide +kernel
theorem dL_law_665 : decode cL_law 665 = .ok (.iconst 2, 1) := by decide +kernel
theorem dL_law_666 : decode cL_law 666 = .ok (.iadd, 1) := by decide +kernel
theorem dL_law_667 : decode cL_law 667 = .ok (.iaload, 1) := by decide +kernel
theorem dL_law_668 : decode cL_law 668 = .ok (.i2l, 1) := by decide +kernel
theorem dL_law_669 : decode cL_law 669 = .ok (.ldc2_w 83, 3) := by decide +kernel
theorem dL_law_672 : decode cL_law 672 = .ok (.land, 1) := by decide +kernel
theorem dL_law_673 : decode cL_law 673 = .ok (.lor, 1) := by decide +kernel
theorem dL_law_674 : decode cL_law 674 = .ok (.invokevirtual 89, 3) := by decide +kernel
theorem dL_law_677 : decode cL_law 677 = .ok (.if_icmp .eq 103, 3) := by decide +kernel
theorem dL_law_680 : decode cL_law 680 = .ok (.iconst 0, 1) := by decide +kernel
theorem dL_law_681 : decode cL_law 681 = .ok (.ireturn, 1) := by decide +kernel
theorem dL_law_682 : decode cL_law 682 = .ok (.aload_n 1, 1) := by decide +kernel
theorem dL_law_683 : decode cL_law 683 = .ok (.invokevirtual 90, 3) := by decide +kernel
theorem dL_law_686 : decode cL_law 686 = .ok (.aload_n 2, 1) := by decide +kernel
theorem dL_law_687 : decode cL_law 687 = .ok (.invokevirtual 93, 3) := by decide +kernel
theorem dL_law_690 : decode cL_law 690 = .ok (.if_icmp .eq 90, 3) := by decide +kernel
theorem dL_law_693 : decode cL_law 693 = .ok (.iconst 0, 1) := by decide +kernel
theorem dL_law_694 : decode cL_law 694 = .ok (.ireturn, 1) := by decide +kernel
theorem dL_law_695 : decode cL_law 695 = .ok (.aload_n 1, 1) := by decide +kernel
theorem dL_law_696 : decode cL_law 696 = .ok (.invokevirtual 94, 3) := by decide +kernel
theorem dL_law_699 : decode cL_law 699 = .ok (.aload_n 2, 1) := by decide +kernel
theorem dL_law_700 : decode cL_law 700 = .ok (.invokevirtual 97, 3) := by decide +kernel
theorem dL_law_703 : decode cL_law 703 = .ok (.if_icmp .eq 77, 3) := by decide +kernel
theorem dL_law_706 : decode cL_law 706 = .ok (.iconst 0, 1) := by decide +kernel
theorem dL_law_707 : decode cL_law 707 = .ok (.ireturn, 1) := by decide +kernel
theorem dL_law_708 : decode cL_law 708 = .ok (.aload_n 1, 1) := by decide +kernel
theorem dL_law_709 : decode cL_law 709 = .ok (.invokevirtual 98, 3) := by decide +kernel
theorem dL_law_712 : decode cL_law 712 = .ok (.aload_n 2, 1) := by decide +kernel
theorem dL_law_713 : decode cL_law 713 = .ok (.invokevirtual 101, 3) := by decide +kernel
theorem dL_law_716 : decode cL_law 716 = .ok (.if_icmp .eq 64, 3) := by decide +kernel
theorem dL_law_719 : decode cL_law 719 = .ok (.iconst 0, 1) := by decide +kernel
theorem dL_law_720 : decode cL_law 720 = .ok (.ireturn, 1) := by decide +kernel
theorem dL_law_721 : decode cL_law 721 = .ok (.aload_n 1, 1) := by decide +kernel
theorem dL_law_722 : decode cL_law 722 = .ok (.invokevirtual 102, 3) := by decide +kernel
theorem dL_law_725 : decode cL_law 725 = .ok (.aload_n 2, 1) := by decide +kernel
theorem dL_law_726 : decode cL_law 726 = .ok (.invokevirtual 105, 3) := by decide +kernel
theorem dL_law_729 : decode cL_law 729 = .ok (.if_icmp .eq 51, 3) := by decide +kernel
theorem dL_law_732 : decode cL_law 732 = .ok (.iconst 0, 1) := by decide +kernel
theorem dL_law_733 : decode cL_law 733 = .ok (.ireturn, 1) := by decide +kernel
theorem dL_law_734 : decode cL_law 734 = .ok (.aload_n 1, 1) := by decide +kernel
theorem dL_law_735 : decode cL_law 735 = .ok (.aload_n 0, 1) := by decide +kernel
theorem dL_law_736 : decode cL_law 736 = .ok (.iload_n 3, 1) := by decide +kernel
theorem dL_law_737 : decode cL_law 737 = .ok (.iconst 1, 1) := by decide +kernel
theorem dL_law_738 : decode cL_law 738 = .ok (.iadd, 1) := by decide +kernel
theorem dL_law_739 : decode cL_law 739 = .ok (.iaload, 1) := by decide +kernel
theorem dL_law_740 : decode cL_law 740 = .ok (.invokevirtual 106, 3) := by decide +kernel
theorem dL_law_743 : decode cL_law 743 = .ok (.aload_n 2, 1) := by decide +kernel
theorem dL_law_744 : decode cL_law 744 = .ok (.aload_n 0, 1) := by decide +kernel
theorem dL_law_745 : decode cL_law 745 = .ok (.iload_n 3, 1) := by decide +kernel
theorem dL_law_746 : decode cL_law 746 = .ok (.iconst 1, 1) := by decide +kernel
theorem dL_law_747 : decode cL_law 747 = .ok (.iadd, 1) := by decide +kernel
theorem dL_law_748 : decode cL_law 748 = .ok (.iaload, 1) := by decide +kernel
theorem dL_law_749 : decode cL_law 749 = .ok (.invokevirtual 109, 3) := by decide +kernel
theorem dL_law_752 : decode cL_law 752 = .ok (.if_icmp .eq 28, 3) := by decide +kernel
theorem dL_law_755 : decode cL_law 755 = .ok (.iconst 0, 1) := by decide +kernel
theorem dL_law_756 : decode cL_law 756 = .ok (.ireturn, 1) := by decide +kernel
theorem dL_law_757 : decode cL_law 757 = .ok (.aload_n 1, 1) := by decide +kernel
theorem dL_law_758 : decode cL_law 758 = .ok (.aload_n 0, 1) := by decide +kernel
theorem dL_law_759 : decode cL_law 759 = .ok (.iload_n 3, 1) := by decide +kernel
theorem dL_law_760 : decode cL_law 760 = .ok (.iconst 1, 1) := by decide +kernel
theorem dL_law_761 : decode cL_law 761 = .ok (.iadd, 1) := by decide +kernel
theorem dL_law_762 : decode cL_law 762 = .ok (.iaload, 1) := by decide +kernel
theorem dL_law_763 : decode cL_law 763 = .ok (.invokevirtual 110, 3) := by decide +kernel
theorem dL_law_766 : decode cL_law 766 = .ok (.aload_n 2, 1) := by decide +kernel
theorem dL_law_767 : decode cL_law 767 = .ok (.aload_n 0, 1) := by decide +kernel
theorem dL_law_768 : decode cL_law 768 = .ok (.iload_n 3, 1) := by decide +kernel
theorem dL_law_769 : decode cL_law 769 = .ok (.iconst 1, 1) := by decide +kernel
theorem dL_law_770 : decode cL_law 770 = .ok (.iadd, 1) := by decide +kernel
theorem dL_law_771 : decode cL_law 771 = .ok (.iaload, 1) := by decide +kernel
theorem dL_law_772 : decode cL_law 772 = .ok (.invokevirtual 113, 3) := by decide +kernel
theorem dL_law_775 : decode cL_law 775 = .ok (.if_icmp .eq 5, 3) := by decide +kernel
theorem dL_law_778 : decode cL_law 778 = .ok (.iconst 0, 1) := by decide +kernel
theorem dL_law_779 : decode cL_law 779 = .ok (.ireturn, 1) := by decide +kernel
theorem dL_law_780 : decode cL_law 780 = .ok (.iinc 3 5, 3) := by decide +kernel
theorem dL_law_783 : decode cL_law 783 = .ok (.goto (-765), 3) := by decide +kernel
theorem dL_law_786 : decode cL_law 786 = .ok (.iconst 1, 1) := by decide +kernel
theorem dL_law_787 : decode cL_law 787 = .ok (.ireturn, 1) := by decide +kernel
end
section
/-- the words of the tables that a call hands on -/
def kAL : List Cond := lw_tbl.filter goodWord
theorem al_in {w : Cond} (h : w ∈ lw_tbl) (g : goodWord w = true) : w ∈ kAL := List.mem_filter.mpr ⟨h, g⟩
theorem al_tbl : ∀ w ∈ kAL, w ∈ lw_tbl := fun w h => (List.mem_filter.mp h).1
theorem al_good : ∀ w ∈ kAL, goodWord w = true := fun w h => (List.mem_filter.mp h).2
theorem al_1 {w : Cond} {ws : List Cond} (h : w ∈ kAL) (g : GoodIn kAL ws) : GoodIn kAL (w :: ws) := by
  intro v hv
  rcases List.mem_cons.mp hv with rfl | hv
  · exact ⟨h, good_of_word (al_good _ h)⟩
  · exact g v hv
theorem al_0 : GoodIn kAL kAL := fun v hv => ⟨hv, good_of_word (al_good _ hv)⟩
theorem inT0 : ∀ w ∈ wsX00, w ∈ lw_tbl := by decide +kernel
theorem inA0 : ∀ w ∈ wsX00, w ∈ kAL := fun w h => al_in (inT0 w h) (List.all_eq_true.mp (by decide +kernel : wsX00.all goodWord = true) w h)
theorem inT1 : ∀ w ∈ wsX10, w ∈ lw_tbl := by decide +kernel
theorem inA1 : ∀ w ∈ wsX10, w ∈ kAL := fun w h => al_in (inT1 w h) (List.all_eq_true.mp (by decide +kernel : wsX10.all goodWord = true) w h)
theorem inT2 : ∀ w ∈ wsX20, w ∈ lw_tbl := by decide +kernel
theorem inA2 : ∀ w ∈ wsX20, w ∈ kAL := fun w h => al_in (inT2 w h) (List.all_eq_true.mp (by decide +kernel : wsX20.all goodWord = true) w h)
theorem inT3 : ∀ w ∈ wsX30, w ∈ lw_tbl := by decide +kernel
theorem inA3 : ∀ w ∈ wsX30, w ∈ kAL := fun w h => al_in (inT3 w h) (List.all_eq_true.mp (by decide +kernel : wsX30.all goodWord = true) w h)
theorem inT4 : ∀ w ∈ wsX40, w ∈ lw_tbl := by decide +kernel
theorem inA4 : ∀ w ∈ wsX40, w ∈ kAL := fun w h => al_in (inT4 w h) (List.all_eq_true.mp (by decide +kernel : wsX40.all goodWord = true) w h)
theorem inT5 : ∀ w ∈ wsX50, w ∈ lw_tbl := by decide +kernel
theorem inA5 : ∀ w ∈ wsX50, w ∈ kAL := fun w h => al_in (inT5 w h) (List.all_eq_true.mp (by decide +kernel : wsX50.all goodWord = true) w h)
theorem inT6 : ∀ w ∈ wsX60, w ∈ lw_tbl := by decide +kernel
theorem inA6 : ∀ w ∈ wsX60, w ∈ kAL := fun w h => al_in (inT6 w h) (List.all_eq_true.mp (by decide +kernel : wsX60.all goodWord = true) w h)
theorem inT7 : ∀ w ∈ wsX70, w ∈ lw_tbl := by decide +kernel
theorem inA7 : ∀ w ∈ wsX70, w ∈ kAL := fun w h => al_in (inT7 w h) (List.all_eq_true.mp (by decide +kernel : wsX70.all goodWord = true) w h)
theorem inT8 : ∀ w ∈ wsX80, w ∈ lw_tbl := by decide +kernel
theorem inA8 : ∀ w ∈ wsX80, w ∈ kAL := fun w h => al_in (inT8 w h) (List.all_eq_true.mp (by decide +kernel : wsX80.all goodWord = true) w h)
end
section
theorem al_10 : Cond.classLink RL 7 RX7 ∈ kAL := al_in (List.mem_of_getElem? (i := 51) (by decide +kernel)) rfl
theorem al_11 : Cond.instantiable RX7 5 ∈ kAL := al_in (List.mem_of_getElem? (i := 52) (by decide +kernel)) rfl
theorem al_12 : Cond.initialized RX7 ∈ kAL := al_in (List.mem_of_getElem? (i := 36) (by decide +kernel)) rfl
theorem al_13 : Cond.classLink RL 10 RX8 ∈ kAL := al_in (List.mem_of_getElem? (i := 707) (by decide +kernel)) rfl
theorem al_14 : Cond.instantiable RX8 11 ∈ kAL := al_in (List.mem_of_getElem? (i := 708) (by decide +kernel)) rfl
theorem al_15 : Cond.initialized RX8 ∈ kAL := al_in (List.mem_of_getElem? (i := 44) (by decide +kernel)) rfl
theorem al_16 : Cond.constantLong RL 83 (4294967295) ∈ kAL := al_in (List.mem_of_getElem? (i := 985) (by decide +kernel)) rfl
theorem al_17 : Cond.methodLink RL 9 yX7_init ∈ kAL := al_in (List.mem_of_getElem? (i := 53) (by decide +kernel)) rfl
theorem al_18 : Cond.instanceMethod yX7_init ∈ kAL := al_in (List.mem_of_getElem? (i := 54) (by decide +kernel)) rfl
theorem al_19 : Cond.code yX7_init cX7_init 1 none ∈ kAL := al_in (List.mem_of_getElem? (i := 55) (by decide +kernel)) rfl
theorem al_20 : Cond.methodLink RX7 1 objectInit ∈ kAL := al_in (List.mem_of_getElem? (i := 56) (by decide +kernel)) rfl
theorem al_21 : Cond.instanceMethod objectInit ∈ kAL := al_in (List.mem_of_getElem? (i := 57) (by decide +kernel)) rfl
theorem al_22 : Cond.code objectInit ⟨#[0xb1]⟩ 1 none ∈ kAL := al_in (List.mem_of_getElem? (i := 58) (by decide +kernel)) rfl
theorem al_23 : Cond.classLink RX7 7 RX3 ∈ kAL := al_in (List.mem_of_getElem? (i := 59) (by decide +kernel)) rfl
theorem al_24 : Cond.instantiable RX3 9 ∈ kAL := al_in (List.mem_of_getElem? (i := 60) (by decide +kernel)) rfl
theorem al_25 : Cond.initialized RX3 ∈ kAL := al_in (List.mem_of_getElem? (i := 37) (by decide +kernel)) rfl
theorem al_26 : Cond.fieldLink RX7 10 "CaneQuotas" "mill" "LCaneQuotas$Mill;" ∈ kAL := al_in (List.mem_of_getElem? (i := 263) (by decide +kernel)) rfl
theorem al_27 : Cond.fieldLink RX7 16 "CaneQuotas" "trial" "LCaneQuotas$Mill;" ∈ kAL := al_in (List.mem_of_getElem? (i := 264) (by decide +kernel)) rfl
theorem al_28 : Cond.classLink RX7 19 RX2 ∈ kAL := al_in (List.mem_of_getElem? (i := 215) (by decide +kernel)) rfl
theorem al_29 : Cond.instantiable RX2 3 ∈ kAL := al_in (List.mem_of_getElem? (i := 216) (by decide +kernel)) rfl
theorem al_30 : Cond.initialized RX2 ∈ kAL := al_in (List.mem_of_getElem? (i := 42) (by decide +kernel)) rfl
theorem al_31 : Cond.fieldLink RX7 22 "CaneQuotas" "history" "LCaneQuotas$History;" ∈ kAL := al_in (List.mem_of_getElem? (i := 265) (by decide +kernel)) rfl
theorem al_32 : Cond.fieldLink RX7 26 "CaneQuotas" "slots" "[LCaneQuotas$Mill;" ∈ kAL := al_in (List.mem_of_getElem? (i := 266) (by decide +kernel)) rfl
theorem al_33 : Cond.classLink RX7 30 RX4 ∈ kAL := al_in (List.mem_of_getElem? (i := 234) (by decide +kernel)) rfl
theorem al_34 : Cond.instantiable RX4 6 ∈ kAL := al_in (List.mem_of_getElem? (i := 235) (by decide +kernel)) rfl
theorem al_35 : Cond.initialized RX4 ∈ kAL := al_in (List.mem_of_getElem? (i := 43) (by decide +kernel)) rfl
theorem al_36 : Cond.fieldLink RX7 33 "CaneQuotas" "pad" "LCaneQuotas$Pad;" ∈ kAL := al_in (List.mem_of_getElem? (i := 267) (by decide +kernel)) rfl
theorem al_37 : Cond.instanceMethod yX3_init ∈ kAL := al_in (List.mem_of_getElem? (i := 62) (by decide +kernel)) rfl
theorem al_38 : Cond.code yX3_init cX3_init 1 none ∈ kAL := al_in (List.mem_of_getElem? (i := 63) (by decide +kernel)) rfl
theorem al_39 : Cond.methodLink RX3 3 objectInit ∈ kAL := al_in (List.mem_of_getElem? (i := 64) (by decide +kernel)) rfl
theorem al_40 : Cond.arrayClass .int ∈ kAL := al_in (List.mem_of_getElem? (i := 92) (by decide +kernel)) rfl
theorem al_41 : Cond.fieldLink RX3 9 "CaneQuotas$Mill" "settings" "[I" ∈ kAL := al_in (List.mem_of_getElem? (i := 180) (by decide +kernel)) rfl
theorem al_42 : Cond.classLink RX3 15 RX1 ∈ kAL := al_in (List.mem_of_getElem? (i := 65) (by decide +kernel)) rfl
theorem al_43 : Cond.instantiable RX1 5 ∈ kAL := al_in (List.mem_of_getElem? (i := 66) (by decide +kernel)) rfl
theorem al_44 : Cond.initialized RX1 ∈ kAL := al_in (List.mem_of_getElem? (i := 38) (by decide +kernel)) rfl
theorem al_45 : Cond.fieldLink RX3 18 "CaneQuotas$Mill" "growers" "LCaneQuotas$Growers;" ∈ kAL := al_in (List.mem_of_getElem? (i := 182) (by decide +kernel)) rfl
theorem al_46 : Cond.classLink RX3 22 RX0 ∈ kAL := al_in (List.mem_of_getElem? (i := 93) (by decide +kernel)) rfl
theorem al_47 : Cond.instantiable RX0 9 ∈ kAL := al_in (List.mem_of_getElem? (i := 94) (by decide +kernel)) rfl
theorem al_48 : Cond.initialized RX0 ∈ kAL := al_in (List.mem_of_getElem? (i := 39) (by decide +kernel)) rfl
theorem al_49 : Cond.fieldLink RX3 25 "CaneQuotas$Mill" "fields" "LCaneQuotas$Fields;" ∈ kAL := al_in (List.mem_of_getElem? (i := 184) (by decide +kernel)) rfl
theorem al_50 : Cond.classLink RX3 29 RX5 ∈ kAL := al_in (List.mem_of_getElem? (i := 137) (by decide +kernel)) rfl
theorem al_51 : Cond.instantiable RX5 3 ∈ kAL := al_in (List.mem_of_getElem? (i := 138) (by decide +kernel)) rfl
theorem al_52 : Cond.initialized RX5 ∈ kAL := al_in (List.mem_of_getElem? (i := 40) (by decide +kernel)) rfl
theorem al_53 : Cond.fieldLink RX3 32 "CaneQuotas$Mill" "stops" "LCaneQuotas$Stops;" ∈ kAL := al_in (List.mem_of_getElem? (i := 186) (by decide +kernel)) rfl
theorem al_54 : Cond.classLink RX3 36 RX6 ∈ kAL := al_in (List.mem_of_getElem? (i := 154) (by decide +kernel)) rfl
theorem al_55 : Cond.instantiable RX6 5 ∈ kAL := al_in (List.mem_of_getElem? (i := 155) (by decide +kernel)) rfl
theorem al_56 : Cond.initialized RX6 ∈ kAL := al_in (List.mem_of_getElem? (i := 41) (by decide +kernel)) rfl
theorem al_57 : Cond.fieldLink RX3 39 "CaneQuotas$Mill" "yard" "LCaneQuotas$Yard;" ∈ kAL := al_in (List.mem_of_getElem? (i := 188) (by decide +kernel)) rfl
theorem al_58 : Cond.instanceMethod yX1_init ∈ kAL := al_in (List.mem_of_getElem? (i := 68) (by decide +kernel)) rfl
theorem al_59 : Cond.code yX1_init cX1_init 1 none ∈ kAL := al_in (List.mem_of_getElem? (i := 69) (by decide +kernel)) rfl
theorem al_60 : Cond.methodLink RX1 3 objectInit ∈ kAL := al_in (List.mem_of_getElem? (i := 70) (by decide +kernel)) rfl
theorem al_61 : Cond.fieldLink RX1 9 "CaneQuotas$Growers" "quota" "[I" ∈ kAL := al_in (List.mem_of_getElem? (i := 71) (by decide +kernel)) rfl
theorem al_62 : Cond.fieldLink RX1 15 "CaneQuotas$Growers" "brought" "[I" ∈ kAL := al_in (List.mem_of_getElem? (i := 73) (by decide +kernel)) rfl
theorem al_63 : Cond.fieldLink RX1 18 "CaneQuotas$Growers" "crushed" "[I" ∈ kAL := al_in (List.mem_of_getElem? (i := 75) (by decide +kernel)) rfl
theorem al_64 : Cond.fieldLink RX1 21 "CaneQuotas$Growers" "lost" "[I" ∈ kAL := al_in (List.mem_of_getElem? (i := 77) (by decide +kernel)) rfl
theorem al_65 : Cond.fieldLink RX1 24 "CaneQuotas$Growers" "paid" "[I" ∈ kAL := al_in (List.mem_of_getElem? (i := 79) (by decide +kernel)) rfl
theorem al_66 : Cond.instanceMethod yX0_init ∈ kAL := al_in (List.mem_of_getElem? (i := 96) (by decide +kernel)) rfl
theorem al_67 : Cond.code yX0_init cX0_init 1 none ∈ kAL := al_in (List.mem_of_getElem? (i := 97) (by decide +kernel)) rfl
theorem al_68 : Cond.methodLink RX0 3 objectInit ∈ kAL := al_in (List.mem_of_getElem? (i := 98) (by decide +kernel)) rfl
theorem al_69 : Cond.fieldLink RX0 9 "CaneQuotas$Fields" "grower" "[I" ∈ kAL := al_in (List.mem_of_getElem? (i := 99) (by decide +kernel)) rfl
theorem al_70 : Cond.fieldLink RX0 15 "CaneQuotas$Fields" "tonnes" "[I" ∈ kAL := al_in (List.mem_of_getElem? (i := 101) (by decide +kernel)) rfl
theorem al_71 : Cond.fieldLink RX0 18 "CaneQuotas$Fields" "purity" "[I" ∈ kAL := al_in (List.mem_of_getElem? (i := 103) (by decide +kernel)) rfl
theorem al_72 : Cond.fieldLink RX0 21 "CaneQuotas$Fields" "burnt" "[I" ∈ kAL := al_in (List.mem_of_getElem? (i := 105) (by decide +kernel)) rfl
theorem al_73 : Cond.fieldLink RX0 24 "CaneQuotas$Fields" "left" "[I" ∈ kAL := al_in (List.mem_of_getElem? (i := 107) (by decide +kernel)) rfl
theorem al_74 : Cond.fieldLink RX0 27 "CaneQuotas$Fields" "inYard" "[I" ∈ kAL := al_in (List.mem_of_getElem? (i := 109) (by decide +kernel)) rfl
theorem al_75 : Cond.fieldLink RX0 30 "CaneQuotas$Fields" "crushed" "[I" ∈ kAL := al_in (List.mem_of_getElem? (i := 111) (by decide +kernel)) rfl
theorem al_76 : Cond.fieldLink RX0 33 "CaneQuotas$Fields" "lost" "[I" ∈ kAL := al_in (List.mem_of_getElem? (i := 113) (by decide +kernel)) rfl
theorem al_77 : Cond.instanceMethod yX5_init ∈ kAL := al_in (List.mem_of_getElem? (i := 140) (by decide +kernel)) rfl
theorem al_78 : Cond.code yX5_init cX5_init 1 none ∈ kAL := al_in (List.mem_of_getElem? (i := 141) (by decide +kernel)) rfl
theorem al_79 : Cond.methodLink RX5 3 objectInit ∈ kAL := al_in (List.mem_of_getElem? (i := 142) (by decide +kernel)) rfl
theorem al_80 : Cond.fieldLink RX5 9 "CaneQuotas$Stops" "first" "[I" ∈ kAL := al_in (List.mem_of_getElem? (i := 143) (by decide +kernel)) rfl
theorem al_81 : Cond.fieldLink RX5 15 "CaneQuotas$Stops" "last" "[I" ∈ kAL := al_in (List.mem_of_getElem? (i := 144) (by decide +kernel)) rfl
theorem al_82 : Cond.instanceMethod yX6_init ∈ kAL := al_in (List.mem_of_getElem? (i := 157) (by decide +kernel)) rfl
theorem al_83 : Cond.code yX6_init cX6_init 1 none ∈ kAL := al_in (List.mem_of_getElem? (i := 158) (by decide +kernel)) rfl
theorem al_84 : Cond.methodLink RX6 3 objectInit ∈ kAL := al_in (List.mem_of_getElem? (i := 159) (by decide +kernel)) rfl
theorem al_85 : Cond.fieldLink RX6 9 "CaneQuotas$Yard" "field" "[I" ∈ kAL := al_in (List.mem_of_getElem? (i := 160) (by decide +kernel)) rfl
theorem al_86 : Cond.fieldLink RX6 15 "CaneQuotas$Yard" "tonnes" "[I" ∈ kAL := al_in (List.mem_of_getElem? (i := 162) (by decide +kernel)) rfl
theorem al_87 : Cond.fieldLink RX6 18 "CaneQuotas$Yard" "day" "[I" ∈ kAL := al_in (List.mem_of_getElem? (i := 164) (by decide +kernel)) rfl
theorem al_88 : Cond.instanceMethod yX2_init ∈ kAL := al_in (List.mem_of_getElem? (i := 218) (by decide +kernel)) rfl
theorem al_89 : Cond.code yX2_init cX2_init 1 none ∈ kAL := al_in (List.mem_of_getElem? (i := 219) (by decide +kernel)) rfl
theorem al_90 : Cond.methodLink RX2 3 objectInit ∈ kAL := al_in (List.mem_of_getElem? (i := 220) (by decide +kernel)) rfl
theorem al_91 : Cond.classLink RX2 11 RX3 ∈ kAL := al_in (List.mem_of_getElem? (i := 221) (by decide +kernel)) rfl
theorem al_92 : Cond.fieldLink RX2 13 "CaneQuotas$History" "states" "[LCaneQuotas$Mill;" ∈ kAL := al_in (List.mem_of_getElem? (i := 223) (by decide +kernel)) rfl
theorem al_93 : Cond.instanceMethod yX4_init ∈ kAL := al_in (List.mem_of_getElem? (i := 237) (by decide +kernel)) rfl
theorem al_94 : Cond.code yX4_init cX4_init 1 none ∈ kAL := al_in (List.mem_of_getElem? (i := 238) (by decide +kernel)) rfl
theorem al_95 : Cond.methodLink RX4 3 objectInit ∈ kAL := al_in (List.mem_of_getElem? (i := 239) (by decide +kernel)) rfl
theorem al_96 : Cond.arrayClass .char ∈ kAL := al_in (List.mem_of_getElem? (i := 262) (by decide +kernel)) rfl
theorem al_97 : Cond.fieldLink RX4 9 "CaneQuotas$Pad" "signs" "[C" ∈ kAL := al_in (List.mem_of_getElem? (i := 240) (by decide +kernel)) rfl
theorem al_98 : Cond.fieldLink RX4 15 "CaneQuotas$Pad" "values" "[I" ∈ kAL := al_in (List.mem_of_getElem? (i := 246) (by decide +kernel)) rfl
theorem al_99 : Cond.methodLink RL 12 yX8_init ∈ kAL := al_in (List.mem_of_getElem? (i := 709) (by decide +kernel)) rfl
theorem al_100 : Cond.instanceMethod yX8_init ∈ kAL := al_in (List.mem_of_getElem? (i := 710) (by decide +kernel)) rfl
theorem al_101 : Cond.code yX8_init cX8_init 2 none ∈ kAL := al_in (List.mem_of_getElem? (i := 711) (by decide +kernel)) rfl
theorem al_102 : Cond.methodLink RX8 1 objectInit ∈ kAL := al_in (List.mem_of_getElem? (i := 712) (by decide +kernel)) rfl
theorem al_103 : Cond.fieldLink RX8 7 "CaneQuotasModel" "now" "[I" ∈ kAL := al_in (List.mem_of_getElem? (i := 713) (by decide +kernel)) rfl
theorem al_104 : Cond.fieldLink RX8 13 "CaneQuotasModel" "then" "[I" ∈ kAL := al_in (List.mem_of_getElem? (i := 714) (by decide +kernel)) rfl
theorem al_105 : Cond.fieldLink RX8 16 "CaneQuotasModel" "past" "[I" ∈ kAL := al_in (List.mem_of_getElem? (i := 715) (by decide +kernel)) rfl
theorem al_106 : Cond.fieldLink RX8 19 "CaneQuotasModel" "slots" "[I" ∈ kAL := al_in (List.mem_of_getElem? (i := 717) (by decide +kernel)) rfl
theorem al_107 : Cond.arrayClass .boolean ∈ kAL := al_in (List.mem_of_getElem? (i := 747) (by decide +kernel)) rfl
theorem al_108 : Cond.fieldLink RX8 22 "CaneQuotasModel" "held" "[Z" ∈ kAL := al_in (List.mem_of_getElem? (i := 718) (by decide +kernel)) rfl
theorem al_109 : Cond.fieldLink RX8 26 "CaneQuotasModel" "pad" "[I" ∈ kAL := al_in (List.mem_of_getElem? (i := 719) (by decide +kernel)) rfl
theorem al_110 : Cond.fieldLink RX8 29 "CaneQuotasModel" "orders" "[I" ∈ kAL := al_in (List.mem_of_getElem? (i := 722) (by decide +kernel)) rfl
theorem al_111 : Cond.methodLink RL 13 yX7_set ∈ kAL := al_in (List.mem_of_getElem? (i := 279) (by decide +kernel)) rfl
theorem al_112 : Cond.instanceMethod yX7_set ∈ kAL := al_in (List.mem_of_getElem? (i := 280) (by decide +kernel)) rfl
theorem al_113 : Cond.selects RX7 yX7_set yX7_set ∈ kAL := al_in (List.mem_of_getElem? (i := 281) (by decide +kernel)) rfl
theorem al_114 : Cond.code yX7_set cX7_set 3 (some .int) ∈ kAL := al_in (List.mem_of_getElem? (i := 282) (by decide +kernel)) rfl
theorem al_115 : Cond.methodLink RX7 37 yX2_prepare ∈ kAL := al_in (List.mem_of_getElem? (i := 283) (by decide +kernel)) rfl
theorem al_116 : Cond.instanceMethod yX2_prepare ∈ kAL := al_in (List.mem_of_getElem? (i := 284) (by decide +kernel)) rfl
theorem al_117 : Cond.selects RX2 yX2_prepare yX2_prepare ∈ kAL := al_in (List.mem_of_getElem? (i := 285) (by decide +kernel)) rfl
theorem al_118 : Cond.code yX2_prepare cX2_prepare 4 none ∈ kAL := al_in (List.mem_of_getElem? (i := 286) (by decide +kernel)) rfl
theorem al_119 : Cond.fieldLink RX2 17 "CaneQuotas$History" "oldest" "I" ∈ kAL := al_in (List.mem_of_getElem? (i := 224) (by decide +kernel)) rfl
theorem al_120 : Cond.fieldLink RX2 21 "CaneQuotas$History" "size" "I" ∈ kAL := al_in (List.mem_of_getElem? (i := 225) (by decide +kernel)) rfl
theorem al_121 : Cond.methodLink RX2 25 yX3_copyFrom ∈ kAL := al_in (List.mem_of_getElem? (i := 288) (by decide +kernel)) rfl
theorem al_122 : Cond.instanceMethod yX3_copyFrom ∈ kAL := al_in (List.mem_of_getElem? (i := 289) (by decide +kernel)) rfl
theorem al_123 : Cond.selects RX3 yX3_copyFrom yX3_copyFrom ∈ kAL := al_in (List.mem_of_getElem? (i := 290) (by decide +kernel)) rfl
theorem al_124 : Cond.code yX3_copyFrom cX3_copyFrom 2 none ∈ kAL := al_in (List.mem_of_getElem? (i := 291) (by decide +kernel)) rfl
theorem al_125 : Cond.fieldLink RX3 60 "CaneQuotas$Mill" "now" "I" ∈ kAL := al_in (List.mem_of_getElem? (i := 190) (by decide +kernel)) rfl
theorem al_126 : Cond.fieldLink RX3 64 "CaneQuotas$Mill" "sugar" "I" ∈ kAL := al_in (List.mem_of_getElem? (i := 192) (by decide +kernel)) rfl
theorem al_127 : Cond.fieldLink RX3 67 "CaneQuotas$Mill" "loadsBrought" "I" ∈ kAL := al_in (List.mem_of_getElem? (i := 194) (by decide +kernel)) rfl
theorem al_128 : Cond.fieldLink RX3 70 "CaneQuotas$Mill" "stoppedDays" "I" ∈ kAL := al_in (List.mem_of_getElem? (i := 195) (by decide +kernel)) rfl
theorem al_129 : Cond.static yX7_copyRow ∈ kAL := al_in (List.mem_of_getElem? (i := 293) (by decide +kernel)) rfl
theorem al_130 : Cond.code yX7_copyRow cX7_copyRow 3 none ∈ kAL := al_in (List.mem_of_getElem? (i := 294) (by decide +kernel)) rfl
theorem al_131 : Cond.methodLink RX7 195 Lib.Math.min.name ∈ kAL := al_in (List.mem_of_getElem? (i := 295) (by decide +kernel)) rfl
theorem al_132 : Cond.static Lib.Math.min.name ∈ kAL := al_in (List.mem_of_getElem? (i := 296) (by decide +kernel)) rfl
theorem al_133 : Cond.initialized "java/lang/Math" ∈ kAL := al_in (List.mem_of_getElem? (i := 45) (by decide +kernel)) rfl
theorem al_134 : Cond.code Lib.Math.min.name Lib.Math.min.code 2 (some .int) ∈ kAL := al_in (List.mem_of_getElem? (i := 297) (by decide +kernel)) rfl
theorem al_135 : Cond.methodLink RX7 200 arraycopyName ∈ kAL := al_in (List.mem_of_getElem? (i := 298) (by decide +kernel)) rfl
theorem al_136 : Cond.native arraycopyName ∈ kAL := al_in (List.mem_of_getElem? (i := 300) (by decide +kernel)) rfl
theorem al_137 : Cond.static arraycopyName ∈ kAL := al_in (List.mem_of_getElem? (i := 299) (by decide +kernel)) rfl
theorem al_138 : Cond.initialized "java/lang/System" ∈ kAL := al_in (List.mem_of_getElem? (i := 46) (by decide +kernel)) rfl
theorem al_139 : Cond.methodLink RX3 47 yX1_copyFrom ∈ kAL := al_in (List.mem_of_getElem? (i := 301) (by decide +kernel)) rfl
theorem al_140 : Cond.instanceMethod yX1_copyFrom ∈ kAL := al_in (List.mem_of_getElem? (i := 302) (by decide +kernel)) rfl
theorem al_141 : Cond.selects RX1 yX1_copyFrom yX1_copyFrom ∈ kAL := al_in (List.mem_of_getElem? (i := 303) (by decide +kernel)) rfl
theorem al_142 : Cond.code yX1_copyFrom cX1_copyFrom 2 none ∈ kAL := al_in (List.mem_of_getElem? (i := 304) (by decide +kernel)) rfl
theorem al_143 : Cond.methodLink RX3 51 yX0_copyFrom ∈ kAL := al_in (List.mem_of_getElem? (i := 306) (by decide +kernel)) rfl
theorem al_144 : Cond.instanceMethod yX0_copyFrom ∈ kAL := al_in (List.mem_of_getElem? (i := 307) (by decide +kernel)) rfl
theorem al_145 : Cond.selects RX0 yX0_copyFrom yX0_copyFrom ∈ kAL := al_in (List.mem_of_getElem? (i := 308) (by decide +kernel)) rfl
theorem al_146 : Cond.code yX0_copyFrom cX0_copyFrom 2 none ∈ kAL := al_in (List.mem_of_getElem? (i := 309) (by decide +kernel)) rfl
theorem al_147 : Cond.fieldLink RX0 36 "CaneQuotas$Fields" "count" "I" ∈ kAL := al_in (List.mem_of_getElem? (i := 115) (by decide +kernel)) rfl
theorem al_148 : Cond.methodLink RX3 54 yX5_copyFrom ∈ kAL := al_in (List.mem_of_getElem? (i := 311) (by decide +kernel)) rfl
theorem al_149 : Cond.instanceMethod yX5_copyFrom ∈ kAL := al_in (List.mem_of_getElem? (i := 312) (by decide +kernel)) rfl
theorem al_150 : Cond.selects RX5 yX5_copyFrom yX5_copyFrom ∈ kAL := al_in (List.mem_of_getElem? (i := 313) (by decide +kernel)) rfl
theorem al_151 : Cond.code yX5_copyFrom cX5_copyFrom 2 none ∈ kAL := al_in (List.mem_of_getElem? (i := 314) (by decide +kernel)) rfl
theorem al_152 : Cond.fieldLink RX5 18 "CaneQuotas$Stops" "count" "I" ∈ kAL := al_in (List.mem_of_getElem? (i := 145) (by decide +kernel)) rfl
theorem al_153 : Cond.methodLink RX3 57 yX6_copyFrom ∈ kAL := al_in (List.mem_of_getElem? (i := 316) (by decide +kernel)) rfl
theorem al_154 : Cond.instanceMethod yX6_copyFrom ∈ kAL := al_in (List.mem_of_getElem? (i := 317) (by decide +kernel)) rfl
theorem al_155 : Cond.selects RX6 yX6_copyFrom yX6_copyFrom ∈ kAL := al_in (List.mem_of_getElem? (i := 318) (by decide +kernel)) rfl
theorem al_156 : Cond.code yX6_copyFrom cX6_copyFrom 2 none ∈ kAL := al_in (List.mem_of_getElem? (i := 319) (by decide +kernel)) rfl
theorem al_157 : Cond.fieldLink RX6 21 "CaneQuotas$Yard" "loads" "I" ∈ kAL := al_in (List.mem_of_getElem? (i := 165) (by decide +kernel)) rfl
theorem al_158 : Cond.fieldLink RX6 25 "CaneQuotas$Yard" "total" "I" ∈ kAL := al_in (List.mem_of_getElem? (i := 167) (by decide +kernel)) rfl
theorem al_159 : Cond.methodLink RX7 41 yX3_changeSetting ∈ kAL := al_in (List.mem_of_getElem? (i := 321) (by decide +kernel)) rfl
theorem al_160 : Cond.instanceMethod yX3_changeSetting ∈ kAL := al_in (List.mem_of_getElem? (i := 322) (by decide +kernel)) rfl
theorem al_161 : Cond.selects RX3 yX3_changeSetting yX3_changeSetting ∈ kAL := al_in (List.mem_of_getElem? (i := 323) (by decide +kernel)) rfl
theorem al_162 : Cond.code yX3_changeSetting cX3_changeSetting 4 (some .int) ∈ kAL := al_in (List.mem_of_getElem? (i := 324) (by decide +kernel)) rfl
theorem al_163 : Cond.fieldLink RX3 77 "CaneQuotas$Mill" "LEAST" "[I" ∈ kAL := al_in (List.mem_of_getElem? (i := 328) (by decide +kernel)) rfl
theorem al_164 : Cond.fieldLink RX3 80 "CaneQuotas$Mill" "MOST" "[I" ∈ kAL := al_in (List.mem_of_getElem? (i := 330) (by decide +kernel)) rfl
theorem al_165 : Cond.static yX7_isWithin ∈ kAL := al_in (List.mem_of_getElem? (i := 326) (by decide +kernel)) rfl
theorem al_166 : Cond.code yX7_isWithin cX7_isWithin 3 (some .boolean) ∈ kAL := al_in (List.mem_of_getElem? (i := 327) (by decide +kernel)) rfl
theorem al_167 : Cond.methodLink RX7 45 yX2_recordUnlessError ∈ kAL := al_in (List.mem_of_getElem? (i := 332) (by decide +kernel)) rfl
theorem al_168 : Cond.instanceMethod yX2_recordUnlessError ∈ kAL := al_in (List.mem_of_getElem? (i := 333) (by decide +kernel)) rfl
theorem al_169 : Cond.selects RX2 yX2_recordUnlessError yX2_recordUnlessError ∈ kAL := al_in (List.mem_of_getElem? (i := 334) (by decide +kernel)) rfl
theorem al_170 : Cond.code yX2_recordUnlessError cX2_recordUnlessError 2 (some .int) ∈ kAL := al_in (List.mem_of_getElem? (i := 335) (by decide +kernel)) rfl
theorem al_171 : Cond.methodLink RL 17 yX8_set ∈ kAL := al_in (List.mem_of_getElem? (i := 770) (by decide +kernel)) rfl
theorem al_172 : Cond.instanceMethod yX8_set ∈ kAL := al_in (List.mem_of_getElem? (i := 771) (by decide +kernel)) rfl
theorem al_173 : Cond.selects RX8 yX8_set yX8_set ∈ kAL := al_in (List.mem_of_getElem? (i := 772) (by decide +kernel)) rfl
theorem al_174 : Cond.code yX8_set cX8_set 3 (some .int) ∈ kAL := al_in (List.mem_of_getElem? (i := 773) (by decide +kernel)) rfl
theorem al_175 : Cond.methodLink RX8 32 yX8_in ∈ kAL := al_in (List.mem_of_getElem? (i := 759) (by decide +kernel)) rfl
theorem al_176 : Cond.static yX8_in ∈ kAL := al_in (List.mem_of_getElem? (i := 760) (by decide +kernel)) rfl
theorem al_177 : Cond.code yX8_in cX8_in 3 (some .boolean) ∈ kAL := al_in (List.mem_of_getElem? (i := 761) (by decide +kernel)) rfl
theorem al_178 : Cond.methodLink RX8 96 yX8_isFor ∈ kAL := al_in (List.mem_of_getElem? (i := 774) (by decide +kernel)) rfl
theorem al_179 : Cond.static yX8_isFor ∈ kAL := al_in (List.mem_of_getElem? (i := 775) (by decide +kernel)) rfl
theorem al_180 : Cond.code yX8_isFor cX8_isFor 2 (some .boolean) ∈ kAL := al_in (List.mem_of_getElem? (i := 776) (by decide +kernel)) rfl
theorem al_181 : Cond.methodLink RX8 44 yX8_records ∈ kAL := al_in (List.mem_of_getElem? (i := 766) (by decide +kernel)) rfl
theorem al_182 : Cond.instanceMethod yX8_records ∈ kAL := al_in (List.mem_of_getElem? (i := 768) (by decide +kernel)) rfl
theorem al_183 : Cond.selects RX8 yX8_records yX8_records ∈ kAL := al_in (List.mem_of_getElem? (i := 16) (by decide +kernel)) rfl
theorem al_184 : Cond.code yX8_records cX8_records 2 none ∈ kAL := al_in (List.mem_of_getElem? (i := 769) (by decide +kernel)) rfl
theorem al_185 : Cond.fieldLink RX8 36 "CaneQuotasModel" "kept" "I" ∈ kAL := al_in (List.mem_of_getElem? (i := 716) (by decide +kernel)) rfl
theorem al_186 : Cond.methodLink RX8 40 yX8_lays ∈ kAL := al_in (List.mem_of_getElem? (i := 752) (by decide +kernel)) rfl
theorem al_187 : Cond.static yX8_lays ∈ kAL := al_in (List.mem_of_getElem? (i := 753) (by decide +kernel)) rfl
theorem al_188 : Cond.code yX8_lays cX8_lays 5 none ∈ kAL := al_in (List.mem_of_getElem? (i := 754) (by decide +kernel)) rfl
theorem al_189 : Cond.methodLink RX8 100 yX8_changes ∈ kAL := al_in (List.mem_of_getElem? (i := 777) (by decide +kernel)) rfl
theorem al_190 : Cond.instanceMethod yX8_changes ∈ kAL := al_in (List.mem_of_getElem? (i := 779) (by decide +kernel)) rfl
theorem al_191 : Cond.selects RX8 yX8_changes yX8_changes ∈ kAL := al_in (List.mem_of_getElem? (i := 17) (by decide +kernel)) rfl
theorem al_192 : Cond.code yX8_changes cX8_changes 4 (some .int) ∈ kAL := al_in (List.mem_of_getElem? (i := 780) (by decide +kernel)) rfl
theorem al_193 : Cond.methodLink RL 18 yX7_quota ∈ kAL := al_in (List.mem_of_getElem? (i := 336) (by decide +kernel)) rfl
theorem al_194 : Cond.instanceMethod yX7_quota ∈ kAL := al_in (List.mem_of_getElem? (i := 337) (by decide +kernel)) rfl
theorem al_195 : Cond.selects RX7 yX7_quota yX7_quota ∈ kAL := al_in (List.mem_of_getElem? (i := 338) (by decide +kernel)) rfl
theorem al_196 : Cond.code yX7_quota cX7_quota 3 (some .int) ∈ kAL := al_in (List.mem_of_getElem? (i := 339) (by decide +kernel)) rfl
theorem al_197 : Cond.methodLink RX7 49 yX3_changeQuota ∈ kAL := al_in (List.mem_of_getElem? (i := 340) (by decide +kernel)) rfl
theorem al_198 : Cond.instanceMethod yX3_changeQuota ∈ kAL := al_in (List.mem_of_getElem? (i := 341) (by decide +kernel)) rfl
theorem al_199 : Cond.selects RX3 yX3_changeQuota yX3_changeQuota ∈ kAL := al_in (List.mem_of_getElem? (i := 342) (by decide +kernel)) rfl
theorem al_200 : Cond.code yX3_changeQuota cX3_changeQuota 4 (some .int) ∈ kAL := al_in (List.mem_of_getElem? (i := 343) (by decide +kernel)) rfl
theorem al_201 : Cond.fieldLink RX3 87 "CaneQuotas$Growers" "quota" "[I" ∈ kAL := al_in (List.mem_of_getElem? (i := 72) (by decide +kernel)) rfl
theorem al_202 : Cond.static yX7_isGrower ∈ kAL := al_in (List.mem_of_getElem? (i := 345) (by decide +kernel)) rfl
theorem al_203 : Cond.code yX7_isGrower cX7_isGrower 1 (some .boolean) ∈ kAL := al_in (List.mem_of_getElem? (i := 346) (by decide +kernel)) rfl
theorem al_204 : Cond.methodLink RX7 100 yX7_isWithin ∈ kAL := al_in (List.mem_of_getElem? (i := 347) (by decide +kernel)) rfl
theorem al_205 : Cond.methodLink RL 21 yX8_quota ∈ kAL := al_in (List.mem_of_getElem? (i := 781) (by decide +kernel)) rfl
theorem al_206 : Cond.instanceMethod yX8_quota ∈ kAL := al_in (List.mem_of_getElem? (i := 782) (by decide +kernel)) rfl
theorem al_207 : Cond.selects RX8 yX8_quota yX8_quota ∈ kAL := al_in (List.mem_of_getElem? (i := 783) (by decide +kernel)) rfl
theorem al_208 : Cond.code yX8_quota cX8_quota 4 (some .int) ∈ kAL := al_in (List.mem_of_getElem? (i := 784) (by decide +kernel)) rfl
theorem al_209 : Cond.methodLink RX8 107 yX8_mayQuota ∈ kAL := al_in (List.mem_of_getElem? (i := 785) (by decide +kernel)) rfl
theorem al_210 : Cond.static yX8_mayQuota ∈ kAL := al_in (List.mem_of_getElem? (i := 786) (by decide +kernel)) rfl
theorem al_211 : Cond.code yX8_mayQuota cX8_mayQuota 2 (some .int) ∈ kAL := al_in (List.mem_of_getElem? (i := 787) (by decide +kernel)) rfl
theorem al_212 : Cond.methodLink RX8 103 yX8_isGrower ∈ kAL := al_in (List.mem_of_getElem? (i := 788) (by decide +kernel)) rfl
theorem al_213 : Cond.static yX8_isGrower ∈ kAL := al_in (List.mem_of_getElem? (i := 789) (by decide +kernel)) rfl
theorem al_214 : Cond.code yX8_isGrower cX8_isGrower 1 (some .boolean) ∈ kAL := al_in (List.mem_of_getElem? (i := 790) (by decide +kernel)) rfl
theorem al_215 : Cond.methodLink RL 22 yX7_lend ∈ kAL := al_in (List.mem_of_getElem? (i := 348) (by decide +kernel)) rfl
theorem al_216 : Cond.instanceMethod yX7_lend ∈ kAL := al_in (List.mem_of_getElem? (i := 349) (by decide +kernel)) rfl
theorem al_217 : Cond.selects RX7 yX7_lend yX7_lend ∈ kAL := al_in (List.mem_of_getElem? (i := 350) (by decide +kernel)) rfl
theorem al_218 : Cond.code yX7_lend cX7_lend 4 (some .int) ∈ kAL := al_in (List.mem_of_getElem? (i := 351) (by decide +kernel)) rfl
theorem al_219 : Cond.methodLink RX7 52 yX3_lendQuota ∈ kAL := al_in (List.mem_of_getElem? (i := 352) (by decide +kernel)) rfl
theorem al_220 : Cond.instanceMethod yX3_lendQuota ∈ kAL := al_in (List.mem_of_getElem? (i := 353) (by decide +kernel)) rfl
theorem al_221 : Cond.selects RX3 yX3_lendQuota yX3_lendQuota ∈ kAL := al_in (List.mem_of_getElem? (i := 354) (by decide +kernel)) rfl
theorem al_222 : Cond.code yX3_lendQuota cX3_lendQuota 4 (some .int) ∈ kAL := al_in (List.mem_of_getElem? (i := 355) (by decide +kernel)) rfl
theorem al_223 : Cond.methodLink RL 26 yX8_lend ∈ kAL := al_in (List.mem_of_getElem? (i := 791) (by decide +kernel)) rfl
theorem al_224 : Cond.instanceMethod yX8_lend ∈ kAL := al_in (List.mem_of_getElem? (i := 792) (by decide +kernel)) rfl
theorem al_225 : Cond.selects RX8 yX8_lend yX8_lend ∈ kAL := al_in (List.mem_of_getElem? (i := 793) (by decide +kernel)) rfl
theorem al_226 : Cond.code yX8_lend cX8_lend 5 (some .int) ∈ kAL := al_in (List.mem_of_getElem? (i := 794) (by decide +kernel)) rfl
theorem al_227 : Cond.methodLink RX8 110 yX8_mayLend ∈ kAL := al_in (List.mem_of_getElem? (i := 795) (by decide +kernel)) rfl
theorem al_228 : Cond.instanceMethod yX8_mayLend ∈ kAL := al_in (List.mem_of_getElem? (i := 797) (by decide +kernel)) rfl
theorem al_229 : Cond.selects RX8 yX8_mayLend yX8_mayLend ∈ kAL := al_in (List.mem_of_getElem? (i := 18) (by decide +kernel)) rfl
theorem al_230 : Cond.code yX8_mayLend cX8_mayLend 4 (some .int) ∈ kAL := al_in (List.mem_of_getElem? (i := 798) (by decide +kernel)) rfl
theorem al_231 : Cond.methodLink RX8 114 yX8_lends ∈ kAL := al_in (List.mem_of_getElem? (i := 799) (by decide +kernel)) rfl
theorem al_232 : Cond.instanceMethod yX8_lends ∈ kAL := al_in (List.mem_of_getElem? (i := 801) (by decide +kernel)) rfl
theorem al_233 : Cond.selects RX8 yX8_lends yX8_lends ∈ kAL := al_in (List.mem_of_getElem? (i := 19) (by decide +kernel)) rfl
theorem al_234 : Cond.code yX8_lends cX8_lends 4 (some .int) ∈ kAL := al_in (List.mem_of_getElem? (i := 802) (by decide +kernel)) rfl
theorem al_235 : Cond.methodLink RL 27 yX7_field ∈ kAL := al_in (List.mem_of_getElem? (i := 356) (by decide +kernel)) rfl
theorem al_236 : Cond.instanceMethod yX7_field ∈ kAL := al_in (List.mem_of_getElem? (i := 357) (by decide +kernel)) rfl
theorem al_237 : Cond.selects RX7 yX7_field yX7_field ∈ kAL := al_in (List.mem_of_getElem? (i := 358) (by decide +kernel)) rfl
theorem al_238 : Cond.code yX7_field cX7_field 5 (some .int) ∈ kAL := al_in (List.mem_of_getElem? (i := 359) (by decide +kernel)) rfl
theorem al_239 : Cond.methodLink RX7 56 yX3_addField ∈ kAL := al_in (List.mem_of_getElem? (i := 360) (by decide +kernel)) rfl
theorem al_240 : Cond.instanceMethod yX3_addField ∈ kAL := al_in (List.mem_of_getElem? (i := 361) (by decide +kernel)) rfl
theorem al_241 : Cond.selects RX3 yX3_addField yX3_addField ∈ kAL := al_in (List.mem_of_getElem? (i := 362) (by decide +kernel)) rfl
theorem al_242 : Cond.code yX3_addField cX3_addField 5 (some .int) ∈ kAL := al_in (List.mem_of_getElem? (i := 363) (by decide +kernel)) rfl
theorem al_243 : Cond.methodLink RX3 90 yX0_append ∈ kAL := al_in (List.mem_of_getElem? (i := 364) (by decide +kernel)) rfl
theorem al_244 : Cond.instanceMethod yX0_append ∈ kAL := al_in (List.mem_of_getElem? (i := 365) (by decide +kernel)) rfl
theorem al_245 : Cond.selects RX0 yX0_append yX0_append ∈ kAL := al_in (List.mem_of_getElem? (i := 366) (by decide +kernel)) rfl
theorem al_246 : Cond.code yX0_append cX0_append 6 (some .int) ∈ kAL := al_in (List.mem_of_getElem? (i := 367) (by decide +kernel)) rfl
theorem al_247 : Cond.methodLink RL 31 yX8_field ∈ kAL := al_in (List.mem_of_getElem? (i := 803) (by decide +kernel)) rfl
theorem al_248 : Cond.instanceMethod yX8_field ∈ kAL := al_in (List.mem_of_getElem? (i := 804) (by decide +kernel)) rfl
theorem al_249 : Cond.selects RX8 yX8_field yX8_field ∈ kAL := al_in (List.mem_of_getElem? (i := 805) (by decide +kernel)) rfl
theorem al_250 : Cond.code yX8_field cX8_field 6 (some .int) ∈ kAL := al_in (List.mem_of_getElem? (i := 806) (by decide +kernel)) rfl
theorem al_251 : Cond.methodLink RX8 117 yX8_mayCome ∈ kAL := al_in (List.mem_of_getElem? (i := 807) (by decide +kernel)) rfl
theorem al_252 : Cond.instanceMethod yX8_mayCome ∈ kAL := al_in (List.mem_of_getElem? (i := 809) (by decide +kernel)) rfl
theorem al_253 : Cond.selects RX8 yX8_mayCome yX8_mayCome ∈ kAL := al_in (List.mem_of_getElem? (i := 20) (by decide +kernel)) rfl
theorem al_254 : Cond.code yX8_mayCome cX8_mayCome 5 (some .int) ∈ kAL := al_in (List.mem_of_getElem? (i := 810) (by decide +kernel)) rfl
theorem al_255 : Cond.methodLink RX8 121 yX8_comes ∈ kAL := al_in (List.mem_of_getElem? (i := 811) (by decide +kernel)) rfl
theorem al_256 : Cond.instanceMethod yX8_comes ∈ kAL := al_in (List.mem_of_getElem? (i := 813) (by decide +kernel)) rfl
theorem al_257 : Cond.selects RX8 yX8_comes yX8_comes ∈ kAL := al_in (List.mem_of_getElem? (i := 21) (by decide +kernel)) rfl
theorem al_258 : Cond.code yX8_comes cX8_comes 7 (some .int) ∈ kAL := al_in (List.mem_of_getElem? (i := 814) (by decide +kernel)) rfl
theorem al_259 : Cond.methodLink RL 32 yX7_stop ∈ kAL := al_in (List.mem_of_getElem? (i := 368) (by decide +kernel)) rfl
theorem al_260 : Cond.instanceMethod yX7_stop ∈ kAL := al_in (List.mem_of_getElem? (i := 369) (by decide +kernel)) rfl
theorem al_261 : Cond.selects RX7 yX7_stop yX7_stop ∈ kAL := al_in (List.mem_of_getElem? (i := 370) (by decide +kernel)) rfl
theorem al_262 : Cond.code yX7_stop cX7_stop 3 (some .int) ∈ kAL := al_in (List.mem_of_getElem? (i := 371) (by decide +kernel)) rfl
theorem al_263 : Cond.fieldLink RX7 60 "CaneQuotas$Mill" "stops" "LCaneQuotas$Stops;" ∈ kAL := al_in (List.mem_of_getElem? (i := 187) (by decide +kernel)) rfl
theorem al_264 : Cond.methodLink RX7 64 yX5_addStop ∈ kAL := al_in (List.mem_of_getElem? (i := 372) (by decide +kernel)) rfl
theorem al_265 : Cond.instanceMethod yX5_addStop ∈ kAL := al_in (List.mem_of_getElem? (i := 373) (by decide +kernel)) rfl
theorem al_266 : Cond.selects RX5 yX5_addStop yX5_addStop ∈ kAL := al_in (List.mem_of_getElem? (i := 374) (by decide +kernel)) rfl
theorem al_267 : Cond.code yX5_addStop cX5_addStop 3 (some .int) ∈ kAL := al_in (List.mem_of_getElem? (i := 375) (by decide +kernel)) rfl
theorem al_268 : Cond.methodLink RL 35 yX8_stop ∈ kAL := al_in (List.mem_of_getElem? (i := 815) (by decide +kernel)) rfl
theorem al_269 : Cond.instanceMethod yX8_stop ∈ kAL := al_in (List.mem_of_getElem? (i := 816) (by decide +kernel)) rfl
theorem al_270 : Cond.selects RX8 yX8_stop yX8_stop ∈ kAL := al_in (List.mem_of_getElem? (i := 817) (by decide +kernel)) rfl
theorem al_271 : Cond.code yX8_stop cX8_stop 4 (some .int) ∈ kAL := al_in (List.mem_of_getElem? (i := 818) (by decide +kernel)) rfl
theorem al_272 : Cond.methodLink RX8 127 yX8_mayStop ∈ kAL := al_in (List.mem_of_getElem? (i := 819) (by decide +kernel)) rfl
theorem al_273 : Cond.instanceMethod yX8_mayStop ∈ kAL := al_in (List.mem_of_getElem? (i := 821) (by decide +kernel)) rfl
theorem al_274 : Cond.selects RX8 yX8_mayStop yX8_mayStop ∈ kAL := al_in (List.mem_of_getElem? (i := 22) (by decide +kernel)) rfl
end
section
theorem al_275 : Cond.code yX8_mayStop cX8_mayStop 3 (some .int) ∈ kAL := al_in (List.mem_of_getElem? (i := 822) (by decide +kernel)) rfl
theorem al_276 : Cond.methodLink RX8 124 yX8_isDay ∈ kAL := al_in (List.mem_of_getElem? (i := 823) (by decide +kernel)) rfl
theorem al_277 : Cond.static yX8_isDay ∈ kAL := al_in (List.mem_of_getElem? (i := 824) (by decide +kernel)) rfl
theorem al_278 : Cond.code yX8_isDay cX8_isDay 1 (some .boolean) ∈ kAL := al_in (List.mem_of_getElem? (i := 825) (by decide +kernel)) rfl
theorem al_279 : Cond.methodLink RX8 130 yX8_stops ∈ kAL := al_in (List.mem_of_getElem? (i := 826) (by decide +kernel)) rfl
theorem al_280 : Cond.instanceMethod yX8_stops ∈ kAL := al_in (List.mem_of_getElem? (i := 828) (by decide +kernel)) rfl
theorem al_281 : Cond.selects RX8 yX8_stops yX8_stops ∈ kAL := al_in (List.mem_of_getElem? (i := 23) (by decide +kernel)) rfl
theorem al_282 : Cond.code yX8_stops cX8_stops 3 (some .int) ∈ kAL := al_in (List.mem_of_getElem? (i := 829) (by decide +kernel)) rfl
theorem al_283 : Cond.methodLink RL 36 yX7_dropStop ∈ kAL := al_in (List.mem_of_getElem? (i := 377) (by decide +kernel)) rfl
theorem al_284 : Cond.instanceMethod yX7_dropStop ∈ kAL := al_in (List.mem_of_getElem? (i := 378) (by decide +kernel)) rfl
theorem al_285 : Cond.selects RX7 yX7_dropStop yX7_dropStop ∈ kAL := al_in (List.mem_of_getElem? (i := 379) (by decide +kernel)) rfl
theorem al_286 : Cond.code yX7_dropStop cX7_dropStop 2 (some .int) ∈ kAL := al_in (List.mem_of_getElem? (i := 380) (by decide +kernel)) rfl
theorem al_287 : Cond.methodLink RX7 69 yX5_removeStop ∈ kAL := al_in (List.mem_of_getElem? (i := 381) (by decide +kernel)) rfl
theorem al_288 : Cond.instanceMethod yX5_removeStop ∈ kAL := al_in (List.mem_of_getElem? (i := 382) (by decide +kernel)) rfl
theorem al_289 : Cond.selects RX5 yX5_removeStop yX5_removeStop ∈ kAL := al_in (List.mem_of_getElem? (i := 383) (by decide +kernel)) rfl
theorem al_290 : Cond.code yX5_removeStop cX5_removeStop 3 (some .int) ∈ kAL := al_in (List.mem_of_getElem? (i := 384) (by decide +kernel)) rfl
theorem al_291 : Cond.methodLink RL 40 yX8_dropStop ∈ kAL := al_in (List.mem_of_getElem? (i := 830) (by decide +kernel)) rfl
theorem al_292 : Cond.instanceMethod yX8_dropStop ∈ kAL := al_in (List.mem_of_getElem? (i := 831) (by decide +kernel)) rfl
theorem al_293 : Cond.selects RX8 yX8_dropStop yX8_dropStop ∈ kAL := al_in (List.mem_of_getElem? (i := 832) (by decide +kernel)) rfl
theorem al_294 : Cond.code yX8_dropStop cX8_dropStop 3 (some .int) ∈ kAL := al_in (List.mem_of_getElem? (i := 833) (by decide +kernel)) rfl
theorem al_295 : Cond.methodLink RL 41 yX7_pass ∈ kAL := al_in (List.mem_of_getElem? (i := 385) (by decide +kernel)) rfl
theorem al_296 : Cond.instanceMethod yX7_pass ∈ kAL := al_in (List.mem_of_getElem? (i := 386) (by decide +kernel)) rfl
theorem al_297 : Cond.selects RX7 yX7_pass yX7_pass ∈ kAL := al_in (List.mem_of_getElem? (i := 387) (by decide +kernel)) rfl
theorem al_298 : Cond.code yX7_pass cX7_pass 2 (some .int) ∈ kAL := al_in (List.mem_of_getElem? (i := 388) (by decide +kernel)) rfl
theorem al_299 : Cond.methodLink RX7 72 yX3_passDays ∈ kAL := al_in (List.mem_of_getElem? (i := 389) (by decide +kernel)) rfl
theorem al_300 : Cond.instanceMethod yX3_passDays ∈ kAL := al_in (List.mem_of_getElem? (i := 390) (by decide +kernel)) rfl
theorem al_301 : Cond.selects RX3 yX3_passDays yX3_passDays ∈ kAL := al_in (List.mem_of_getElem? (i := 391) (by decide +kernel)) rfl
theorem al_302 : Cond.code yX3_passDays cX3_passDays 3 (some .int) ∈ kAL := al_in (List.mem_of_getElem? (i := 392) (by decide +kernel)) rfl
theorem al_303 : Cond.methodLink RX3 94 yX3_passDay ∈ kAL := al_in (List.mem_of_getElem? (i := 393) (by decide +kernel)) rfl
theorem al_304 : Cond.instanceMethod yX3_passDay ∈ kAL := al_in (List.mem_of_getElem? (i := 394) (by decide +kernel)) rfl
theorem al_305 : Cond.selects RX3 yX3_passDay yX3_passDay ∈ kAL := al_in (List.mem_of_getElem? (i := 395) (by decide +kernel)) rfl
theorem al_306 : Cond.code yX3_passDay cX3_passDay 2 none ∈ kAL := al_in (List.mem_of_getElem? (i := 396) (by decide +kernel)) rfl
theorem al_307 : Cond.methodLink RX3 98 yX3_loseOldCane ∈ kAL := al_in (List.mem_of_getElem? (i := 397) (by decide +kernel)) rfl
theorem al_308 : Cond.instanceMethod yX3_loseOldCane ∈ kAL := al_in (List.mem_of_getElem? (i := 399) (by decide +kernel)) rfl
theorem al_309 : Cond.selects RX3 yX3_loseOldCane yX3_loseOldCane ∈ kAL := al_in (List.mem_of_getElem? (i := 0) (by decide +kernel)) rfl
theorem al_310 : Cond.code yX3_loseOldCane cX3_loseOldCane 2 none ∈ kAL := al_in (List.mem_of_getElem? (i := 400) (by decide +kernel)) rfl
theorem al_311 : Cond.fieldLink RX3 110 "CaneQuotas$Fields" "count" "I" ∈ kAL := al_in (List.mem_of_getElem? (i := 116) (by decide +kernel)) rfl
theorem al_312 : Cond.fieldLink RX3 113 "CaneQuotas$Fields" "burnt" "[I" ∈ kAL := al_in (List.mem_of_getElem? (i := 106) (by decide +kernel)) rfl
theorem al_313 : Cond.fieldLink RX3 116 "CaneQuotas$Growers" "lost" "[I" ∈ kAL := al_in (List.mem_of_getElem? (i := 78) (by decide +kernel)) rfl
theorem al_314 : Cond.fieldLink RX3 119 "CaneQuotas$Fields" "grower" "[I" ∈ kAL := al_in (List.mem_of_getElem? (i := 100) (by decide +kernel)) rfl
theorem al_315 : Cond.methodLink RX3 122 yX0_loseCane ∈ kAL := al_in (List.mem_of_getElem? (i := 401) (by decide +kernel)) rfl
theorem al_316 : Cond.instanceMethod yX0_loseCane ∈ kAL := al_in (List.mem_of_getElem? (i := 402) (by decide +kernel)) rfl
theorem al_317 : Cond.selects RX0 yX0_loseCane yX0_loseCane ∈ kAL := al_in (List.mem_of_getElem? (i := 403) (by decide +kernel)) rfl
theorem al_318 : Cond.code yX0_loseCane cX0_loseCane 3 (some .int) ∈ kAL := al_in (List.mem_of_getElem? (i := 404) (by decide +kernel)) rfl
theorem al_319 : Cond.methodLink RX3 101 yX3_bringLoads ∈ kAL := al_in (List.mem_of_getElem? (i := 405) (by decide +kernel)) rfl
theorem al_320 : Cond.instanceMethod yX3_bringLoads ∈ kAL := al_in (List.mem_of_getElem? (i := 407) (by decide +kernel)) rfl
theorem al_321 : Cond.selects RX3 yX3_bringLoads yX3_bringLoads ∈ kAL := al_in (List.mem_of_getElem? (i := 1) (by decide +kernel)) rfl
theorem al_322 : Cond.code yX3_bringLoads cX3_bringLoads 3 none ∈ kAL := al_in (List.mem_of_getElem? (i := 408) (by decide +kernel)) rfl
theorem al_323 : Cond.methodLink RX3 126 yX3_nextField ∈ kAL := al_in (List.mem_of_getElem? (i := 409) (by decide +kernel)) rfl
theorem al_324 : Cond.instanceMethod yX3_nextField ∈ kAL := al_in (List.mem_of_getElem? (i := 410) (by decide +kernel)) rfl
theorem al_325 : Cond.selects RX3 yX3_nextField yX3_nextField ∈ kAL := al_in (List.mem_of_getElem? (i := 411) (by decide +kernel)) rfl
theorem al_326 : Cond.code yX3_nextField cX3_nextField 3 (some .int) ∈ kAL := al_in (List.mem_of_getElem? (i := 412) (by decide +kernel)) rfl
theorem al_327 : Cond.methodLink RX3 134 yX3_room ∈ kAL := al_in (List.mem_of_getElem? (i := 413) (by decide +kernel)) rfl
theorem al_328 : Cond.instanceMethod yX3_room ∈ kAL := al_in (List.mem_of_getElem? (i := 415) (by decide +kernel)) rfl
theorem al_329 : Cond.selects RX3 yX3_room yX3_room ∈ kAL := al_in (List.mem_of_getElem? (i := 2) (by decide +kernel)) rfl
theorem al_330 : Cond.code yX3_room cX3_room 1 (some .int) ∈ kAL := al_in (List.mem_of_getElem? (i := 416) (by decide +kernel)) rfl
theorem al_331 : Cond.fieldLink RX3 148 "CaneQuotas$Yard" "loads" "I" ∈ kAL := al_in (List.mem_of_getElem? (i := 166) (by decide +kernel)) rfl
theorem al_332 : Cond.fieldLink RX3 151 "CaneQuotas$Yard" "total" "I" ∈ kAL := al_in (List.mem_of_getElem? (i := 168) (by decide +kernel)) rfl
theorem al_333 : Cond.methodLink RX3 137 yX0_howItIs ∈ kAL := al_in (List.mem_of_getElem? (i := 417) (by decide +kernel)) rfl
theorem al_334 : Cond.instanceMethod yX0_howItIs ∈ kAL := al_in (List.mem_of_getElem? (i := 418) (by decide +kernel)) rfl
theorem al_335 : Cond.selects RX0 yX0_howItIs yX0_howItIs ∈ kAL := al_in (List.mem_of_getElem? (i := 419) (by decide +kernel)) rfl
theorem al_336 : Cond.code yX0_howItIs cX0_howItIs 3 (some .int) ∈ kAL := al_in (List.mem_of_getElem? (i := 420) (by decide +kernel)) rfl
theorem al_337 : Cond.methodLink RX3 141 yX3_quotaOf ∈ kAL := al_in (List.mem_of_getElem? (i := 421) (by decide +kernel)) rfl
theorem al_338 : Cond.instanceMethod yX3_quotaOf ∈ kAL := al_in (List.mem_of_getElem? (i := 423) (by decide +kernel)) rfl
theorem al_339 : Cond.selects RX3 yX3_quotaOf yX3_quotaOf ∈ kAL := al_in (List.mem_of_getElem? (i := 3) (by decide +kernel)) rfl
theorem al_340 : Cond.code yX3_quotaOf cX3_quotaOf 2 (some .int) ∈ kAL := al_in (List.mem_of_getElem? (i := 424) (by decide +kernel)) rfl
theorem al_341 : Cond.methodLink RX3 144 yX3_goesAhead ∈ kAL := al_in (List.mem_of_getElem? (i := 425) (by decide +kernel)) rfl
theorem al_342 : Cond.instanceMethod yX3_goesAhead ∈ kAL := al_in (List.mem_of_getElem? (i := 427) (by decide +kernel)) rfl
theorem al_343 : Cond.selects RX3 yX3_goesAhead yX3_goesAhead ∈ kAL := al_in (List.mem_of_getElem? (i := 4) (by decide +kernel)) rfl
theorem al_344 : Cond.code yX3_goesAhead cX3_goesAhead 5 (some .boolean) ∈ kAL := al_in (List.mem_of_getElem? (i := 428) (by decide +kernel)) rfl
theorem al_345 : Cond.methodLink RX3 130 yX3_bringLoad ∈ kAL := al_in (List.mem_of_getElem? (i := 429) (by decide +kernel)) rfl
theorem al_346 : Cond.instanceMethod yX3_bringLoad ∈ kAL := al_in (List.mem_of_getElem? (i := 431) (by decide +kernel)) rfl
theorem al_347 : Cond.selects RX3 yX3_bringLoad yX3_bringLoad ∈ kAL := al_in (List.mem_of_getElem? (i := 5) (by decide +kernel)) rfl
theorem al_348 : Cond.code yX3_bringLoad cX3_bringLoad 5 none ∈ kAL := al_in (List.mem_of_getElem? (i := 432) (by decide +kernel)) rfl
theorem al_349 : Cond.fieldLink RX3 154 "CaneQuotas$Fields" "left" "[I" ∈ kAL := al_in (List.mem_of_getElem? (i := 108) (by decide +kernel)) rfl
theorem al_350 : Cond.methodLink RX3 157 Lib.Math.min.name ∈ kAL := al_in (List.mem_of_getElem? (i := 433) (by decide +kernel)) rfl
theorem al_351 : Cond.fieldLink RX3 162 "CaneQuotas$Growers" "brought" "[I" ∈ kAL := al_in (List.mem_of_getElem? (i := 74) (by decide +kernel)) rfl
theorem al_352 : Cond.fieldLink RX3 165 "CaneQuotas$Fields" "inYard" "[I" ∈ kAL := al_in (List.mem_of_getElem? (i := 110) (by decide +kernel)) rfl
theorem al_353 : Cond.methodLink RX3 168 yX6_append ∈ kAL := al_in (List.mem_of_getElem? (i := 434) (by decide +kernel)) rfl
theorem al_354 : Cond.instanceMethod yX6_append ∈ kAL := al_in (List.mem_of_getElem? (i := 435) (by decide +kernel)) rfl
theorem al_355 : Cond.selects RX6 yX6_append yX6_append ∈ kAL := al_in (List.mem_of_getElem? (i := 436) (by decide +kernel)) rfl
theorem al_356 : Cond.code yX6_append cX6_append 4 none ∈ kAL := al_in (List.mem_of_getElem? (i := 437) (by decide +kernel)) rfl
theorem al_357 : Cond.methodLink RX3 104 yX5_isStopped ∈ kAL := al_in (List.mem_of_getElem? (i := 438) (by decide +kernel)) rfl
theorem al_358 : Cond.instanceMethod yX5_isStopped ∈ kAL := al_in (List.mem_of_getElem? (i := 439) (by decide +kernel)) rfl
theorem al_359 : Cond.selects RX5 yX5_isStopped yX5_isStopped ∈ kAL := al_in (List.mem_of_getElem? (i := 440) (by decide +kernel)) rfl
theorem al_360 : Cond.code yX5_isStopped cX5_isStopped 3 (some .boolean) ∈ kAL := al_in (List.mem_of_getElem? (i := 441) (by decide +kernel)) rfl
theorem al_361 : Cond.methodLink RX3 107 yX3_crush ∈ kAL := al_in (List.mem_of_getElem? (i := 442) (by decide +kernel)) rfl
theorem al_362 : Cond.instanceMethod yX3_crush ∈ kAL := al_in (List.mem_of_getElem? (i := 444) (by decide +kernel)) rfl
theorem al_363 : Cond.selects RX3 yX3_crush yX3_crush ∈ kAL := al_in (List.mem_of_getElem? (i := 6) (by decide +kernel)) rfl
theorem al_364 : Cond.code yX3_crush cX3_crush 5 none ∈ kAL := al_in (List.mem_of_getElem? (i := 445) (by decide +kernel)) rfl
theorem al_365 : Cond.fieldLink RX3 171 "CaneQuotas$Yard" "tonnes" "[I" ∈ kAL := al_in (List.mem_of_getElem? (i := 163) (by decide +kernel)) rfl
theorem al_366 : Cond.fieldLink RX3 174 "CaneQuotas$Yard" "field" "[I" ∈ kAL := al_in (List.mem_of_getElem? (i := 161) (by decide +kernel)) rfl
theorem al_367 : Cond.methodLink RX3 177 yX3_crushPart ∈ kAL := al_in (List.mem_of_getElem? (i := 446) (by decide +kernel)) rfl
theorem al_368 : Cond.instanceMethod yX3_crushPart ∈ kAL := al_in (List.mem_of_getElem? (i := 448) (by decide +kernel)) rfl
theorem al_369 : Cond.selects RX3 yX3_crushPart yX3_crushPart ∈ kAL := al_in (List.mem_of_getElem? (i := 7) (by decide +kernel)) rfl
theorem al_370 : Cond.code yX3_crushPart cX3_crushPart 5 none ∈ kAL := al_in (List.mem_of_getElem? (i := 449) (by decide +kernel)) rfl
theorem al_371 : Cond.fieldLink RX3 191 "CaneQuotas$Growers" "paid" "[I" ∈ kAL := al_in (List.mem_of_getElem? (i := 80) (by decide +kernel)) rfl
theorem al_372 : Cond.fieldLink RX3 194 "CaneQuotas$Growers" "crushed" "[I" ∈ kAL := al_in (List.mem_of_getElem? (i := 76) (by decide +kernel)) rfl
theorem al_373 : Cond.fieldLink RX3 197 "CaneQuotas$Fields" "crushed" "[I" ∈ kAL := al_in (List.mem_of_getElem? (i := 112) (by decide +kernel)) rfl
theorem al_374 : Cond.methodLink RX3 187 yX0_purityOn ∈ kAL := al_in (List.mem_of_getElem? (i := 450) (by decide +kernel)) rfl
theorem al_375 : Cond.instanceMethod yX0_purityOn ∈ kAL := al_in (List.mem_of_getElem? (i := 451) (by decide +kernel)) rfl
theorem al_376 : Cond.selects RX0 yX0_purityOn yX0_purityOn ∈ kAL := al_in (List.mem_of_getElem? (i := 452) (by decide +kernel)) rfl
theorem al_377 : Cond.code yX0_purityOn cX0_purityOn 5 (some .int) ∈ kAL := al_in (List.mem_of_getElem? (i := 453) (by decide +kernel)) rfl
theorem al_378 : Cond.methodLink RX0 44 Lib.Math.max.name ∈ kAL := al_in (List.mem_of_getElem? (i := 454) (by decide +kernel)) rfl
theorem al_379 : Cond.static Lib.Math.max.name ∈ kAL := al_in (List.mem_of_getElem? (i := 455) (by decide +kernel)) rfl
theorem al_380 : Cond.code Lib.Math.max.name Lib.Math.max.code 2 (some .int) ∈ kAL := al_in (List.mem_of_getElem? (i := 456) (by decide +kernel)) rfl
theorem al_381 : Cond.methodLink RX3 181 yX6_takeFrom ∈ kAL := al_in (List.mem_of_getElem? (i := 457) (by decide +kernel)) rfl
theorem al_382 : Cond.instanceMethod yX6_takeFrom ∈ kAL := al_in (List.mem_of_getElem? (i := 458) (by decide +kernel)) rfl
theorem al_383 : Cond.selects RX6 yX6_takeFrom yX6_takeFrom ∈ kAL := al_in (List.mem_of_getElem? (i := 459) (by decide +kernel)) rfl
theorem al_384 : Cond.code yX6_takeFrom cX6_takeFrom 3 (some .int) ∈ kAL := al_in (List.mem_of_getElem? (i := 460) (by decide +kernel)) rfl
theorem al_385 : Cond.methodLink RX3 184 yX6_dropFirst ∈ kAL := al_in (List.mem_of_getElem? (i := 462) (by decide +kernel)) rfl
theorem al_386 : Cond.instanceMethod yX6_dropFirst ∈ kAL := al_in (List.mem_of_getElem? (i := 463) (by decide +kernel)) rfl
theorem al_387 : Cond.selects RX6 yX6_dropFirst yX6_dropFirst ∈ kAL := al_in (List.mem_of_getElem? (i := 464) (by decide +kernel)) rfl
theorem al_388 : Cond.code yX6_dropFirst cX6_dropFirst 3 none ∈ kAL := al_in (List.mem_of_getElem? (i := 465) (by decide +kernel)) rfl
theorem al_389 : Cond.methodLink RL 44 yX8_pass ∈ kAL := al_in (List.mem_of_getElem? (i := 834) (by decide +kernel)) rfl
theorem al_390 : Cond.instanceMethod yX8_pass ∈ kAL := al_in (List.mem_of_getElem? (i := 835) (by decide +kernel)) rfl
theorem al_391 : Cond.selects RX8 yX8_pass yX8_pass ∈ kAL := al_in (List.mem_of_getElem? (i := 836) (by decide +kernel)) rfl
theorem al_392 : Cond.code yX8_pass cX8_pass 3 (some .int) ∈ kAL := al_in (List.mem_of_getElem? (i := 837) (by decide +kernel)) rfl
theorem al_393 : Cond.methodLink RX8 133 yX8_mayPass ∈ kAL := al_in (List.mem_of_getElem? (i := 838) (by decide +kernel)) rfl
theorem al_394 : Cond.instanceMethod yX8_mayPass ∈ kAL := al_in (List.mem_of_getElem? (i := 840) (by decide +kernel)) rfl
theorem al_395 : Cond.selects RX8 yX8_mayPass yX8_mayPass ∈ kAL := al_in (List.mem_of_getElem? (i := 24) (by decide +kernel)) rfl
theorem al_396 : Cond.code yX8_mayPass cX8_mayPass 2 (some .int) ∈ kAL := al_in (List.mem_of_getElem? (i := 841) (by decide +kernel)) rfl
theorem al_397 : Cond.methodLink RX8 137 yX8_days ∈ kAL := al_in (List.mem_of_getElem? (i := 842) (by decide +kernel)) rfl
theorem al_398 : Cond.static yX8_days ∈ kAL := al_in (List.mem_of_getElem? (i := 843) (by decide +kernel)) rfl
theorem al_399 : Cond.code yX8_days cX8_days 4 none ∈ kAL := al_in (List.mem_of_getElem? (i := 844) (by decide +kernel)) rfl
theorem al_400 : Cond.methodLink RX8 92 yX8_day ∈ kAL := al_in (List.mem_of_getElem? (i := 845) (by decide +kernel)) rfl
theorem al_401 : Cond.static yX8_day ∈ kAL := al_in (List.mem_of_getElem? (i := 846) (by decide +kernel)) rfl
theorem al_402 : Cond.code yX8_day cX8_day 4 none ∈ kAL := al_in (List.mem_of_getElem? (i := 847) (by decide +kernel)) rfl
theorem al_403 : Cond.methodLink RX8 74 yX8_loses ∈ kAL := al_in (List.mem_of_getElem? (i := 848) (by decide +kernel)) rfl
theorem al_404 : Cond.static yX8_loses ∈ kAL := al_in (List.mem_of_getElem? (i := 849) (by decide +kernel)) rfl
theorem al_405 : Cond.code yX8_loses cX8_loses 3 none ∈ kAL := al_in (List.mem_of_getElem? (i := 850) (by decide +kernel)) rfl
theorem al_406 : Cond.methodLink RX8 51 yX8_how ∈ kAL := al_in (List.mem_of_getElem? (i := 851) (by decide +kernel)) rfl
theorem al_407 : Cond.static yX8_how ∈ kAL := al_in (List.mem_of_getElem? (i := 852) (by decide +kernel)) rfl
theorem al_408 : Cond.code yX8_how cX8_how 2 (some .int) ∈ kAL := al_in (List.mem_of_getElem? (i := 853) (by decide +kernel)) rfl
theorem al_409 : Cond.methodLink RX8 47 yX8_of ∈ kAL := al_in (List.mem_of_getElem? (i := 854) (by decide +kernel)) rfl
theorem al_410 : Cond.static yX8_of ∈ kAL := al_in (List.mem_of_getElem? (i := 855) (by decide +kernel)) rfl
theorem al_411 : Cond.code yX8_of cX8_of 3 (some .int) ∈ kAL := al_in (List.mem_of_getElem? (i := 856) (by decide +kernel)) rfl
theorem al_412 : Cond.methodLink RX8 78 yX8_nextField ∈ kAL := al_in (List.mem_of_getElem? (i := 857) (by decide +kernel)) rfl
theorem al_413 : Cond.static yX8_nextField ∈ kAL := al_in (List.mem_of_getElem? (i := 858) (by decide +kernel)) rfl
theorem al_414 : Cond.code yX8_nextField cX8_nextField 4 (some .int) ∈ kAL := al_in (List.mem_of_getElem? (i := 859) (by decide +kernel)) rfl
theorem al_415 : Cond.methodLink RX8 55 yX8_isAhead ∈ kAL := al_in (List.mem_of_getElem? (i := 860) (by decide +kernel)) rfl
theorem al_416 : Cond.static yX8_isAhead ∈ kAL := al_in (List.mem_of_getElem? (i := 861) (by decide +kernel)) rfl
theorem al_417 : Cond.code yX8_isAhead cX8_isAhead 4 (some .boolean) ∈ kAL := al_in (List.mem_of_getElem? (i := 862) (by decide +kernel)) rfl
theorem al_418 : Cond.methodLink RX8 59 yX8_inYard ∈ kAL := al_in (List.mem_of_getElem? (i := 863) (by decide +kernel)) rfl
theorem al_419 : Cond.static yX8_inYard ∈ kAL := al_in (List.mem_of_getElem? (i := 864) (by decide +kernel)) rfl
theorem al_420 : Cond.code yX8_inYard cX8_inYard 3 (some .int) ∈ kAL := al_in (List.mem_of_getElem? (i := 865) (by decide +kernel)) rfl
theorem al_421 : Cond.methodLink RX8 81 yX8_brings ∈ kAL := al_in (List.mem_of_getElem? (i := 866) (by decide +kernel)) rfl
theorem al_422 : Cond.static yX8_brings ∈ kAL := al_in (List.mem_of_getElem? (i := 867) (by decide +kernel)) rfl
theorem al_423 : Cond.code yX8_brings cX8_brings 5 none ∈ kAL := al_in (List.mem_of_getElem? (i := 868) (by decide +kernel)) rfl
theorem al_424 : Cond.methodLink RX8 63 yX8_least ∈ kAL := al_in (List.mem_of_getElem? (i := 869) (by decide +kernel)) rfl
theorem al_425 : Cond.static yX8_least ∈ kAL := al_in (List.mem_of_getElem? (i := 870) (by decide +kernel)) rfl
theorem al_426 : Cond.code yX8_least cX8_least 2 (some .int) ∈ kAL := al_in (List.mem_of_getElem? (i := 871) (by decide +kernel)) rfl
theorem al_427 : Cond.methodLink RX8 85 yX8_isStopped ∈ kAL := al_in (List.mem_of_getElem? (i := 872) (by decide +kernel)) rfl
theorem al_428 : Cond.static yX8_isStopped ∈ kAL := al_in (List.mem_of_getElem? (i := 873) (by decide +kernel)) rfl
theorem al_429 : Cond.code yX8_isStopped cX8_isStopped 3 (some .boolean) ∈ kAL := al_in (List.mem_of_getElem? (i := 874) (by decide +kernel)) rfl
theorem al_430 : Cond.methodLink RX8 89 yX8_mills ∈ kAL := al_in (List.mem_of_getElem? (i := 875) (by decide +kernel)) rfl
theorem al_431 : Cond.static yX8_mills ∈ kAL := al_in (List.mem_of_getElem? (i := 876) (by decide +kernel)) rfl
theorem al_432 : Cond.code yX8_mills cX8_mills 4 none ∈ kAL := al_in (List.mem_of_getElem? (i := 877) (by decide +kernel)) rfl
theorem al_433 : Cond.methodLink RX8 70 yX8_crushes ∈ kAL := al_in (List.mem_of_getElem? (i := 878) (by decide +kernel)) rfl
theorem al_434 : Cond.static yX8_crushes ∈ kAL := al_in (List.mem_of_getElem? (i := 879) (by decide +kernel)) rfl
theorem al_435 : Cond.code yX8_crushes cX8_crushes 6 none ∈ kAL := al_in (List.mem_of_getElem? (i := 880) (by decide +kernel)) rfl
theorem al_436 : Cond.methodLink RX8 67 yX8_purity ∈ kAL := al_in (List.mem_of_getElem? (i := 881) (by decide +kernel)) rfl
theorem al_437 : Cond.static yX8_purity ∈ kAL := al_in (List.mem_of_getElem? (i := 882) (by decide +kernel)) rfl
theorem al_438 : Cond.code yX8_purity cX8_purity 4 (some .int) ∈ kAL := al_in (List.mem_of_getElem? (i := 883) (by decide +kernel)) rfl
theorem al_439 : Cond.methodLink RL 45 yX7_ofField ∈ kAL := al_in (List.mem_of_getElem? (i := 466) (by decide +kernel)) rfl
theorem al_440 : Cond.instanceMethod yX7_ofField ∈ kAL := al_in (List.mem_of_getElem? (i := 467) (by decide +kernel)) rfl
theorem al_441 : Cond.selects RX7 yX7_ofField yX7_ofField ∈ kAL := al_in (List.mem_of_getElem? (i := 468) (by decide +kernel)) rfl
theorem al_442 : Cond.code yX7_ofField cX7_ofField 3 (some .int) ∈ kAL := al_in (List.mem_of_getElem? (i := 469) (by decide +kernel)) rfl
theorem al_443 : Cond.methodLink RX7 75 yX3_numberOfField ∈ kAL := al_in (List.mem_of_getElem? (i := 470) (by decide +kernel)) rfl
theorem al_444 : Cond.instanceMethod yX3_numberOfField ∈ kAL := al_in (List.mem_of_getElem? (i := 471) (by decide +kernel)) rfl
theorem al_445 : Cond.selects RX3 yX3_numberOfField yX3_numberOfField ∈ kAL := al_in (List.mem_of_getElem? (i := 472) (by decide +kernel)) rfl
theorem al_446 : Cond.code yX3_numberOfField cX3_numberOfField 3 (some .int) ∈ kAL := al_in (List.mem_of_getElem? (i := 473) (by decide +kernel)) rfl
theorem al_447 : Cond.fieldLink RX3 198 "CaneQuotas$Fields" "tonnes" "[I" ∈ kAL := al_in (List.mem_of_getElem? (i := 102) (by decide +kernel)) rfl
theorem al_448 : Cond.fieldLink RX3 199 "CaneQuotas$Fields" "purity" "[I" ∈ kAL := al_in (List.mem_of_getElem? (i := 104) (by decide +kernel)) rfl
theorem al_449 : Cond.fieldLink RX3 202 "CaneQuotas$Fields" "lost" "[I" ∈ kAL := al_in (List.mem_of_getElem? (i := 114) (by decide +kernel)) rfl
theorem al_450 : Cond.methodLink RL 48 yX8_ofField ∈ kAL := al_in (List.mem_of_getElem? (i := 884) (by decide +kernel)) rfl
theorem al_451 : Cond.instanceMethod yX8_ofField ∈ kAL := al_in (List.mem_of_getElem? (i := 885) (by decide +kernel)) rfl
theorem al_452 : Cond.selects RX8 yX8_ofField yX8_ofField ∈ kAL := al_in (List.mem_of_getElem? (i := 886) (by decide +kernel)) rfl
theorem al_453 : Cond.code yX8_ofField cX8_ofField 3 (some .int) ∈ kAL := al_in (List.mem_of_getElem? (i := 887) (by decide +kernel)) rfl
theorem al_454 : Cond.methodLink RL 49 yX7_ofGrower ∈ kAL := al_in (List.mem_of_getElem? (i := 474) (by decide +kernel)) rfl
theorem al_455 : Cond.instanceMethod yX7_ofGrower ∈ kAL := al_in (List.mem_of_getElem? (i := 475) (by decide +kernel)) rfl
theorem al_456 : Cond.selects RX7 yX7_ofGrower yX7_ofGrower ∈ kAL := al_in (List.mem_of_getElem? (i := 476) (by decide +kernel)) rfl
theorem al_457 : Cond.code yX7_ofGrower cX7_ofGrower 3 (some .int) ∈ kAL := al_in (List.mem_of_getElem? (i := 477) (by decide +kernel)) rfl
theorem al_458 : Cond.methodLink RX7 78 yX3_numberOfGrower ∈ kAL := al_in (List.mem_of_getElem? (i := 478) (by decide +kernel)) rfl
theorem al_459 : Cond.instanceMethod yX3_numberOfGrower ∈ kAL := al_in (List.mem_of_getElem? (i := 479) (by decide +kernel)) rfl
theorem al_460 : Cond.selects RX3 yX3_numberOfGrower yX3_numberOfGrower ∈ kAL := al_in (List.mem_of_getElem? (i := 480) (by decide +kernel)) rfl
theorem al_461 : Cond.code yX3_numberOfGrower cX3_numberOfGrower 3 (some .int) ∈ kAL := al_in (List.mem_of_getElem? (i := 481) (by decide +kernel)) rfl
theorem al_462 : Cond.methodLink RX3 203 yX0_burntCaneOf ∈ kAL := al_in (List.mem_of_getElem? (i := 482) (by decide +kernel)) rfl
theorem al_463 : Cond.instanceMethod yX0_burntCaneOf ∈ kAL := al_in (List.mem_of_getElem? (i := 483) (by decide +kernel)) rfl
theorem al_464 : Cond.selects RX0 yX0_burntCaneOf yX0_burntCaneOf ∈ kAL := al_in (List.mem_of_getElem? (i := 484) (by decide +kernel)) rfl
theorem al_465 : Cond.code yX0_burntCaneOf cX0_burntCaneOf 5 (some .int) ∈ kAL := al_in (List.mem_of_getElem? (i := 485) (by decide +kernel)) rfl
theorem al_466 : Cond.methodLink RX0 50 yX0_howItIs ∈ kAL := al_in (List.mem_of_getElem? (i := 486) (by decide +kernel)) rfl
theorem al_467 : Cond.methodLink RL 52 yX8_ofGrower ∈ kAL := al_in (List.mem_of_getElem? (i := 888) (by decide +kernel)) rfl
theorem al_468 : Cond.instanceMethod yX8_ofGrower ∈ kAL := al_in (List.mem_of_getElem? (i := 889) (by decide +kernel)) rfl
theorem al_469 : Cond.selects RX8 yX8_ofGrower yX8_ofGrower ∈ kAL := al_in (List.mem_of_getElem? (i := 890) (by decide +kernel)) rfl
theorem al_470 : Cond.code yX8_ofGrower cX8_ofGrower 3 (some .int) ∈ kAL := al_in (List.mem_of_getElem? (i := 891) (by decide +kernel)) rfl
theorem al_471 : Cond.methodLink RX8 140 yX8_burnt ∈ kAL := al_in (List.mem_of_getElem? (i := 892) (by decide +kernel)) rfl
theorem al_472 : Cond.instanceMethod yX8_burnt ∈ kAL := al_in (List.mem_of_getElem? (i := 894) (by decide +kernel)) rfl
theorem al_473 : Cond.selects RX8 yX8_burnt yX8_burnt ∈ kAL := al_in (List.mem_of_getElem? (i := 25) (by decide +kernel)) rfl
theorem al_474 : Cond.code yX8_burnt cX8_burnt 4 (some .int) ∈ kAL := al_in (List.mem_of_getElem? (i := 895) (by decide +kernel)) rfl
theorem al_475 : Cond.methodLink RL 53 yX7_load ∈ kAL := al_in (List.mem_of_getElem? (i := 487) (by decide +kernel)) rfl
theorem al_476 : Cond.instanceMethod yX7_load ∈ kAL := al_in (List.mem_of_getElem? (i := 488) (by decide +kernel)) rfl
theorem al_477 : Cond.selects RX7 yX7_load yX7_load ∈ kAL := al_in (List.mem_of_getElem? (i := 489) (by decide +kernel)) rfl
theorem al_478 : Cond.code yX7_load cX7_load 3 (some .int) ∈ kAL := al_in (List.mem_of_getElem? (i := 490) (by decide +kernel)) rfl
theorem al_479 : Cond.fieldLink RX7 81 "CaneQuotas$Mill" "yard" "LCaneQuotas$Yard;" ∈ kAL := al_in (List.mem_of_getElem? (i := 189) (by decide +kernel)) rfl
theorem al_480 : Cond.methodLink RX7 85 yX6_numberOfLoad ∈ kAL := al_in (List.mem_of_getElem? (i := 491) (by decide +kernel)) rfl
theorem al_481 : Cond.instanceMethod yX6_numberOfLoad ∈ kAL := al_in (List.mem_of_getElem? (i := 492) (by decide +kernel)) rfl
theorem al_482 : Cond.selects RX6 yX6_numberOfLoad yX6_numberOfLoad ∈ kAL := al_in (List.mem_of_getElem? (i := 493) (by decide +kernel)) rfl
theorem al_483 : Cond.code yX6_numberOfLoad cX6_numberOfLoad 3 (some .int) ∈ kAL := al_in (List.mem_of_getElem? (i := 494) (by decide +kernel)) rfl
theorem al_484 : Cond.methodLink RL 56 yX8_load ∈ kAL := al_in (List.mem_of_getElem? (i := 896) (by decide +kernel)) rfl
theorem al_485 : Cond.instanceMethod yX8_load ∈ kAL := al_in (List.mem_of_getElem? (i := 897) (by decide +kernel)) rfl
theorem al_486 : Cond.selects RX8 yX8_load yX8_load ∈ kAL := al_in (List.mem_of_getElem? (i := 898) (by decide +kernel)) rfl
theorem al_487 : Cond.code yX8_load cX8_load 3 (some .int) ∈ kAL := al_in (List.mem_of_getElem? (i := 899) (by decide +kernel)) rfl
theorem al_488 : Cond.methodLink RL 57 yX7_count ∈ kAL := al_in (List.mem_of_getElem? (i := 495) (by decide +kernel)) rfl
theorem al_489 : Cond.instanceMethod yX7_count ∈ kAL := al_in (List.mem_of_getElem? (i := 496) (by decide +kernel)) rfl
theorem al_490 : Cond.selects RX7 yX7_count yX7_count ∈ kAL := al_in (List.mem_of_getElem? (i := 497) (by decide +kernel)) rfl
theorem al_491 : Cond.code yX7_count cX7_count 2 (some .int) ∈ kAL := al_in (List.mem_of_getElem? (i := 498) (by decide +kernel)) rfl
theorem al_492 : Cond.fieldLink RX7 90 "CaneQuotas$Pad" "length" "I" ∈ kAL := al_in (List.mem_of_getElem? (i := 242) (by decide +kernel)) rfl
theorem al_493 : Cond.fieldLink RX7 94 "CaneQuotas$History" "size" "I" ∈ kAL := al_in (List.mem_of_getElem? (i := 226) (by decide +kernel)) rfl
theorem al_494 : Cond.methodLink RX7 97 yX3_numberOfAll ∈ kAL := al_in (List.mem_of_getElem? (i := 499) (by decide +kernel)) rfl
theorem al_495 : Cond.instanceMethod yX3_numberOfAll ∈ kAL := al_in (List.mem_of_getElem? (i := 500) (by decide +kernel)) rfl
theorem al_496 : Cond.selects RX3 yX3_numberOfAll yX3_numberOfAll ∈ kAL := al_in (List.mem_of_getElem? (i := 501) (by decide +kernel)) rfl
theorem al_497 : Cond.code yX3_numberOfAll cX3_numberOfAll 2 (some .int) ∈ kAL := al_in (List.mem_of_getElem? (i := 502) (by decide +kernel)) rfl
theorem al_498 : Cond.fieldLink RX3 206 "CaneQuotas$Stops" "count" "I" ∈ kAL := al_in (List.mem_of_getElem? (i := 146) (by decide +kernel)) rfl
theorem al_499 : Cond.methodLink RX3 207 yX1_totalCrushed ∈ kAL := al_in (List.mem_of_getElem? (i := 503) (by decide +kernel)) rfl
theorem al_500 : Cond.instanceMethod yX1_totalCrushed ∈ kAL := al_in (List.mem_of_getElem? (i := 504) (by decide +kernel)) rfl
theorem al_501 : Cond.selects RX1 yX1_totalCrushed yX1_totalCrushed ∈ kAL := al_in (List.mem_of_getElem? (i := 505) (by decide +kernel)) rfl
theorem al_502 : Cond.code yX1_totalCrushed cX1_totalCrushed 1 (some .int) ∈ kAL := al_in (List.mem_of_getElem? (i := 506) (by decide +kernel)) rfl
theorem al_503 : Cond.static yX7_sumOf ∈ kAL := al_in (List.mem_of_getElem? (i := 508) (by decide +kernel)) rfl
theorem al_504 : Cond.code yX7_sumOf cX7_sumOf 6 (some .int) ∈ kAL := al_in (List.mem_of_getElem? (i := 509) (by decide +kernel)) rfl
theorem al_505 : Cond.methodLink RX3 210 yX1_totalLost ∈ kAL := al_in (List.mem_of_getElem? (i := 510) (by decide +kernel)) rfl
theorem al_506 : Cond.instanceMethod yX1_totalLost ∈ kAL := al_in (List.mem_of_getElem? (i := 511) (by decide +kernel)) rfl
theorem al_507 : Cond.selects RX1 yX1_totalLost yX1_totalLost ∈ kAL := al_in (List.mem_of_getElem? (i := 512) (by decide +kernel)) rfl
theorem al_508 : Cond.code yX1_totalLost cX1_totalLost 1 (some .int) ∈ kAL := al_in (List.mem_of_getElem? (i := 513) (by decide +kernel)) rfl
theorem al_509 : Cond.methodLink RX3 213 yX1_totalPaid ∈ kAL := al_in (List.mem_of_getElem? (i := 514) (by decide +kernel)) rfl
theorem al_510 : Cond.instanceMethod yX1_totalPaid ∈ kAL := al_in (List.mem_of_getElem? (i := 515) (by decide +kernel)) rfl
theorem al_511 : Cond.selects RX1 yX1_totalPaid yX1_totalPaid ∈ kAL := al_in (List.mem_of_getElem? (i := 516) (by decide +kernel)) rfl
theorem al_512 : Cond.code yX1_totalPaid cX1_totalPaid 1 (some .int) ∈ kAL := al_in (List.mem_of_getElem? (i := 517) (by decide +kernel)) rfl
theorem al_513 : Cond.methodLink RL 60 yX8_count ∈ kAL := al_in (List.mem_of_getElem? (i := 900) (by decide +kernel)) rfl
theorem al_514 : Cond.instanceMethod yX8_count ∈ kAL := al_in (List.mem_of_getElem? (i := 901) (by decide +kernel)) rfl
theorem al_515 : Cond.selects RX8 yX8_count yX8_count ∈ kAL := al_in (List.mem_of_getElem? (i := 902) (by decide +kernel)) rfl
theorem al_516 : Cond.code yX8_count cX8_count 2 (some .int) ∈ kAL := al_in (List.mem_of_getElem? (i := 903) (by decide +kernel)) rfl
theorem al_517 : Cond.fieldLink RX8 143 "CaneQuotasModel" "padded" "I" ∈ kAL := al_in (List.mem_of_getElem? (i := 720) (by decide +kernel)) rfl
theorem al_518 : Cond.methodLink RL 61 yX7_fields ∈ kAL := al_in (List.mem_of_getElem? (i := 518) (by decide +kernel)) rfl
theorem al_519 : Cond.instanceMethod yX7_fields ∈ kAL := al_in (List.mem_of_getElem? (i := 519) (by decide +kernel)) rfl
theorem al_520 : Cond.selects RX7 yX7_fields yX7_fields ∈ kAL := al_in (List.mem_of_getElem? (i := 520) (by decide +kernel)) rfl
theorem al_521 : Cond.code yX7_fields cX7_fields 2 (some .long) ∈ kAL := al_in (List.mem_of_getElem? (i := 521) (by decide +kernel)) rfl
theorem al_522 : Cond.constantLong RX7 104 (-2) ∈ kAL := al_in (List.mem_of_getElem? (i := 522) (by decide +kernel)) rfl
theorem al_523 : Cond.fieldLink RX7 106 "CaneQuotas$Mill" "fields" "LCaneQuotas$Fields;" ∈ kAL := al_in (List.mem_of_getElem? (i := 185) (by decide +kernel)) rfl
theorem al_524 : Cond.fieldLink RX7 110 "CaneQuotas$Mill" "now" "I" ∈ kAL := al_in (List.mem_of_getElem? (i := 191) (by decide +kernel)) rfl
theorem al_525 : Cond.methodLink RX7 113 yX0_setOf ∈ kAL := al_in (List.mem_of_getElem? (i := 523) (by decide +kernel)) rfl
theorem al_526 : Cond.instanceMethod yX0_setOf ∈ kAL := al_in (List.mem_of_getElem? (i := 524) (by decide +kernel)) rfl
theorem al_527 : Cond.selects RX0 yX0_setOf yX0_setOf ∈ kAL := al_in (List.mem_of_getElem? (i := 525) (by decide +kernel)) rfl
theorem al_528 : Cond.code yX0_setOf cX0_setOf 6 (some .long) ∈ kAL := al_in (List.mem_of_getElem? (i := 526) (by decide +kernel)) rfl
theorem al_529 : Cond.methodLink RL 65 yX8_fields ∈ kAL := al_in (List.mem_of_getElem? (i := 904) (by decide +kernel)) rfl
theorem al_530 : Cond.instanceMethod yX8_fields ∈ kAL := al_in (List.mem_of_getElem? (i := 905) (by decide +kernel)) rfl
theorem al_531 : Cond.selects RX8 yX8_fields yX8_fields ∈ kAL := al_in (List.mem_of_getElem? (i := 906) (by decide +kernel)) rfl
theorem al_532 : Cond.code yX8_fields cX8_fields 5 (some .long) ∈ kAL := al_in (List.mem_of_getElem? (i := 907) (by decide +kernel)) rfl
theorem al_533 : Cond.constantLong RX8 146 (-2) ∈ kAL := al_in (List.mem_of_getElem? (i := 908) (by decide +kernel)) rfl
theorem al_534 : Cond.methodLink RL 66 yX7_next ∈ kAL := al_in (List.mem_of_getElem? (i := 527) (by decide +kernel)) rfl
theorem al_535 : Cond.instanceMethod yX7_next ∈ kAL := al_in (List.mem_of_getElem? (i := 528) (by decide +kernel)) rfl
theorem al_536 : Cond.selects RX7 yX7_next yX7_next ∈ kAL := al_in (List.mem_of_getElem? (i := 529) (by decide +kernel)) rfl
theorem al_537 : Cond.code yX7_next cX7_next 1 (some .int) ∈ kAL := al_in (List.mem_of_getElem? (i := 530) (by decide +kernel)) rfl
theorem al_538 : Cond.methodLink RX7 119 yX3_nextField ∈ kAL := al_in (List.mem_of_getElem? (i := 531) (by decide +kernel)) rfl
theorem al_539 : Cond.methodLink RL 70 yX8_next ∈ kAL := al_in (List.mem_of_getElem? (i := 909) (by decide +kernel)) rfl
end
section
theorem al_540 : Cond.instanceMethod yX8_next ∈ kAL := al_in (List.mem_of_getElem? (i := 910) (by decide +kernel)) rfl
theorem al_541 : Cond.selects RX8 yX8_next yX8_next ∈ kAL := al_in (List.mem_of_getElem? (i := 911) (by decide +kernel)) rfl
theorem al_542 : Cond.code yX8_next cX8_next 1 (some .int) ∈ kAL := al_in (List.mem_of_getElem? (i := 912) (by decide +kernel)) rfl
theorem al_543 : Cond.methodLink RL 71 yX7_then ∈ kAL := al_in (List.mem_of_getElem? (i := 532) (by decide +kernel)) rfl
theorem al_544 : Cond.instanceMethod yX7_then ∈ kAL := al_in (List.mem_of_getElem? (i := 533) (by decide +kernel)) rfl
theorem al_545 : Cond.selects RX7 yX7_then yX7_then ∈ kAL := al_in (List.mem_of_getElem? (i := 534) (by decide +kernel)) rfl
theorem al_546 : Cond.code yX7_then cX7_then 3 (some .int) ∈ kAL := al_in (List.mem_of_getElem? (i := 535) (by decide +kernel)) rfl
theorem al_547 : Cond.fieldLink RX7 127 "CaneQuotas$Mill" "growers" "LCaneQuotas$Growers;" ∈ kAL := al_in (List.mem_of_getElem? (i := 183) (by decide +kernel)) rfl
theorem al_548 : Cond.fieldLink RX7 136 "CaneQuotas$Mill" "sugar" "I" ∈ kAL := al_in (List.mem_of_getElem? (i := 193) (by decide +kernel)) rfl
theorem al_549 : Cond.methodLink RX7 123 yX7_tryDays ∈ kAL := al_in (List.mem_of_getElem? (i := 536) (by decide +kernel)) rfl
theorem al_550 : Cond.instanceMethod yX7_tryDays ∈ kAL := al_in (List.mem_of_getElem? (i := 538) (by decide +kernel)) rfl
theorem al_551 : Cond.selects RX7 yX7_tryDays yX7_tryDays ∈ kAL := al_in (List.mem_of_getElem? (i := 8) (by decide +kernel)) rfl
theorem al_552 : Cond.code yX7_tryDays cX7_tryDays 4 none ∈ kAL := al_in (List.mem_of_getElem? (i := 539) (by decide +kernel)) rfl
theorem al_553 : Cond.methodLink RX7 147 yX3_copyFrom ∈ kAL := al_in (List.mem_of_getElem? (i := 540) (by decide +kernel)) rfl
theorem al_554 : Cond.methodLink RX7 150 yX3_passDay ∈ kAL := al_in (List.mem_of_getElem? (i := 541) (by decide +kernel)) rfl
theorem al_555 : Cond.methodLink RX7 131 yX1_totalLost ∈ kAL := al_in (List.mem_of_getElem? (i := 542) (by decide +kernel)) rfl
theorem al_556 : Cond.methodLink RX7 139 yX1_totalPaid ∈ kAL := al_in (List.mem_of_getElem? (i := 543) (by decide +kernel)) rfl
theorem al_557 : Cond.methodLink RL 74 yX8_then ∈ kAL := al_in (List.mem_of_getElem? (i := 913) (by decide +kernel)) rfl
theorem al_558 : Cond.instanceMethod yX8_then ∈ kAL := al_in (List.mem_of_getElem? (i := 914) (by decide +kernel)) rfl
theorem al_559 : Cond.selects RX8 yX8_then yX8_then ∈ kAL := al_in (List.mem_of_getElem? (i := 915) (by decide +kernel)) rfl
theorem al_560 : Cond.code yX8_then cX8_then 4 (some .int) ∈ kAL := al_in (List.mem_of_getElem? (i := 916) (by decide +kernel)) rfl
theorem al_561 : Cond.methodLink RX8 148 yX8_tries ∈ kAL := al_in (List.mem_of_getElem? (i := 917) (by decide +kernel)) rfl
theorem al_562 : Cond.instanceMethod yX8_tries ∈ kAL := al_in (List.mem_of_getElem? (i := 919) (by decide +kernel)) rfl
theorem al_563 : Cond.selects RX8 yX8_tries yX8_tries ∈ kAL := al_in (List.mem_of_getElem? (i := 26) (by decide +kernel)) rfl
theorem al_564 : Cond.code yX8_tries cX8_tries 3 none ∈ kAL := al_in (List.mem_of_getElem? (i := 920) (by decide +kernel)) rfl
theorem al_565 : Cond.methodLink RL 75 yX7_leastTrucks ∈ kAL := al_in (List.mem_of_getElem? (i := 544) (by decide +kernel)) rfl
theorem al_566 : Cond.instanceMethod yX7_leastTrucks ∈ kAL := al_in (List.mem_of_getElem? (i := 545) (by decide +kernel)) rfl
theorem al_567 : Cond.selects RX7 yX7_leastTrucks yX7_leastTrucks ∈ kAL := al_in (List.mem_of_getElem? (i := 546) (by decide +kernel)) rfl
theorem al_568 : Cond.code yX7_leastTrucks cX7_leastTrucks 3 (some .int) ∈ kAL := al_in (List.mem_of_getElem? (i := 547) (by decide +kernel)) rfl
theorem al_569 : Cond.methodLink RX7 142 yX7_losesNothing ∈ kAL := al_in (List.mem_of_getElem? (i := 548) (by decide +kernel)) rfl
theorem al_570 : Cond.instanceMethod yX7_losesNothing ∈ kAL := al_in (List.mem_of_getElem? (i := 550) (by decide +kernel)) rfl
theorem al_571 : Cond.selects RX7 yX7_losesNothing yX7_losesNothing ∈ kAL := al_in (List.mem_of_getElem? (i := 9) (by decide +kernel)) rfl
theorem al_572 : Cond.code yX7_losesNothing cX7_losesNothing 5 (some .boolean) ∈ kAL := al_in (List.mem_of_getElem? (i := 551) (by decide +kernel)) rfl
theorem al_573 : Cond.fieldLink RX7 154 "CaneQuotas$Mill" "settings" "[I" ∈ kAL := al_in (List.mem_of_getElem? (i := 181) (by decide +kernel)) rfl
theorem al_574 : Cond.methodLink RL 78 yX8_leastTrucks ∈ kAL := al_in (List.mem_of_getElem? (i := 921) (by decide +kernel)) rfl
theorem al_575 : Cond.instanceMethod yX8_leastTrucks ∈ kAL := al_in (List.mem_of_getElem? (i := 922) (by decide +kernel)) rfl
theorem al_576 : Cond.selects RX8 yX8_leastTrucks yX8_leastTrucks ∈ kAL := al_in (List.mem_of_getElem? (i := 923) (by decide +kernel)) rfl
theorem al_577 : Cond.code yX8_leastTrucks cX8_leastTrucks 3 (some .int) ∈ kAL := al_in (List.mem_of_getElem? (i := 924) (by decide +kernel)) rfl
theorem al_578 : Cond.methodLink RL 79 yX7_stopCosts ∈ kAL := al_in (List.mem_of_getElem? (i := 552) (by decide +kernel)) rfl
theorem al_579 : Cond.instanceMethod yX7_stopCosts ∈ kAL := al_in (List.mem_of_getElem? (i := 553) (by decide +kernel)) rfl
theorem al_580 : Cond.selects RX7 yX7_stopCosts yX7_stopCosts ∈ kAL := al_in (List.mem_of_getElem? (i := 554) (by decide +kernel)) rfl
theorem al_581 : Cond.code yX7_stopCosts cX7_stopCosts 4 (some .int) ∈ kAL := al_in (List.mem_of_getElem? (i := 555) (by decide +kernel)) rfl
theorem al_582 : Cond.constant RX7 146 (100000) ∈ kAL := al_in (List.mem_of_getElem? (i := 556) (by decide +kernel)) rfl
theorem al_583 : Cond.methodLink RL 82 yX8_stopCosts ∈ kAL := al_in (List.mem_of_getElem? (i := 925) (by decide +kernel)) rfl
theorem al_584 : Cond.instanceMethod yX8_stopCosts ∈ kAL := al_in (List.mem_of_getElem? (i := 926) (by decide +kernel)) rfl
theorem al_585 : Cond.selects RX8 yX8_stopCosts yX8_stopCosts ∈ kAL := al_in (List.mem_of_getElem? (i := 927) (by decide +kernel)) rfl
theorem al_586 : Cond.code yX8_stopCosts cX8_stopCosts 4 (some .int) ∈ kAL := al_in (List.mem_of_getElem? (i := 928) (by decide +kernel)) rfl
theorem al_587 : Cond.constant RX8 152 (100000) ∈ kAL := al_in (List.mem_of_getElem? (i := 929) (by decide +kernel)) rfl
theorem al_588 : Cond.methodLink RL 85 yX7_put ∈ kAL := al_in (List.mem_of_getElem? (i := 557) (by decide +kernel)) rfl
theorem al_589 : Cond.instanceMethod yX7_put ∈ kAL := al_in (List.mem_of_getElem? (i := 558) (by decide +kernel)) rfl
theorem al_590 : Cond.selects RX7 yX7_put yX7_put ∈ kAL := al_in (List.mem_of_getElem? (i := 559) (by decide +kernel)) rfl
theorem al_591 : Cond.code yX7_put cX7_put 3 (some .int) ∈ kAL := al_in (List.mem_of_getElem? (i := 560) (by decide +kernel)) rfl
theorem al_592 : Cond.methodLink RX7 158 yX4_append ∈ kAL := al_in (List.mem_of_getElem? (i := 561) (by decide +kernel)) rfl
theorem al_593 : Cond.instanceMethod yX4_append ∈ kAL := al_in (List.mem_of_getElem? (i := 562) (by decide +kernel)) rfl
theorem al_594 : Cond.selects RX4 yX4_append yX4_append ∈ kAL := al_in (List.mem_of_getElem? (i := 563) (by decide +kernel)) rfl
theorem al_595 : Cond.code yX4_append cX4_append 5 (some .int) ∈ kAL := al_in (List.mem_of_getElem? (i := 564) (by decide +kernel)) rfl
theorem al_596 : Cond.fieldLink RX4 23 "CaneQuotas$Pad" "length" "I" ∈ kAL := al_in (List.mem_of_getElem? (i := 241) (by decide +kernel)) rfl
theorem al_597 : Cond.constantLong RX4 27 (255) ∈ kAL := al_in (List.mem_of_getElem? (i := 568) (by decide +kernel)) rfl
theorem al_598 : Cond.methodLink RX4 19 yX4_countSigns ∈ kAL := al_in (List.mem_of_getElem? (i := 565) (by decide +kernel)) rfl
theorem al_599 : Cond.static yX4_countSigns ∈ kAL := al_in (List.mem_of_getElem? (i := 566) (by decide +kernel)) rfl
theorem al_600 : Cond.code yX4_countSigns cX4_countSigns 5 (some .int) ∈ kAL := al_in (List.mem_of_getElem? (i := 567) (by decide +kernel)) rfl
theorem al_601 : Cond.methodLink RL 89 yX8_put ∈ kAL := al_in (List.mem_of_getElem? (i := 930) (by decide +kernel)) rfl
theorem al_602 : Cond.instanceMethod yX8_put ∈ kAL := al_in (List.mem_of_getElem? (i := 931) (by decide +kernel)) rfl
theorem al_603 : Cond.selects RX8 yX8_put yX8_put ∈ kAL := al_in (List.mem_of_getElem? (i := 932) (by decide +kernel)) rfl
theorem al_604 : Cond.code yX8_put cX8_put 5 (some .int) ∈ kAL := al_in (List.mem_of_getElem? (i := 933) (by decide +kernel)) rfl
theorem al_605 : Cond.methodLink RX8 159 yX8_toldBy ∈ kAL := al_in (List.mem_of_getElem? (i := 934) (by decide +kernel)) rfl
theorem al_606 : Cond.static yX8_toldBy ∈ kAL := al_in (List.mem_of_getElem? (i := 935) (by decide +kernel)) rfl
theorem al_607 : Cond.code yX8_toldBy cX8_toldBy 4 (some .int) ∈ kAL := al_in (List.mem_of_getElem? (i := 936) (by decide +kernel)) rfl
theorem al_608 : Cond.methodLink RX8 155 yX8_byteOf ∈ kAL := al_in (List.mem_of_getElem? (i := 937) (by decide +kernel)) rfl
theorem al_609 : Cond.static yX8_byteOf ∈ kAL := al_in (List.mem_of_getElem? (i := 938) (by decide +kernel)) rfl
theorem al_610 : Cond.code yX8_byteOf cX8_byteOf 3 (some .int) ∈ kAL := al_in (List.mem_of_getElem? (i := 939) (by decide +kernel)) rfl
theorem al_611 : Cond.constantLong RX8 153 (255) ∈ kAL := al_in (List.mem_of_getElem? (i := 940) (by decide +kernel)) rfl
theorem al_612 : Cond.methodLink RL 90 yX7_wipe ∈ kAL := al_in (List.mem_of_getElem? (i := 570) (by decide +kernel)) rfl
theorem al_613 : Cond.instanceMethod yX7_wipe ∈ kAL := al_in (List.mem_of_getElem? (i := 571) (by decide +kernel)) rfl
theorem al_614 : Cond.selects RX7 yX7_wipe yX7_wipe ∈ kAL := al_in (List.mem_of_getElem? (i := 572) (by decide +kernel)) rfl
theorem al_615 : Cond.code yX7_wipe cX7_wipe 1 (some .int) ∈ kAL := al_in (List.mem_of_getElem? (i := 573) (by decide +kernel)) rfl
theorem al_616 : Cond.methodLink RX7 162 yX4_empty ∈ kAL := al_in (List.mem_of_getElem? (i := 574) (by decide +kernel)) rfl
theorem al_617 : Cond.instanceMethod yX4_empty ∈ kAL := al_in (List.mem_of_getElem? (i := 575) (by decide +kernel)) rfl
theorem al_618 : Cond.selects RX4 yX4_empty yX4_empty ∈ kAL := al_in (List.mem_of_getElem? (i := 576) (by decide +kernel)) rfl
theorem al_619 : Cond.code yX4_empty cX4_empty 2 (some .int) ∈ kAL := al_in (List.mem_of_getElem? (i := 577) (by decide +kernel)) rfl
theorem al_620 : Cond.methodLink RL 93 yX8_wipe ∈ kAL := al_in (List.mem_of_getElem? (i := 941) (by decide +kernel)) rfl
theorem al_621 : Cond.instanceMethod yX8_wipe ∈ kAL := al_in (List.mem_of_getElem? (i := 942) (by decide +kernel)) rfl
theorem al_622 : Cond.selects RX8 yX8_wipe yX8_wipe ∈ kAL := al_in (List.mem_of_getElem? (i := 943) (by decide +kernel)) rfl
theorem al_623 : Cond.code yX8_wipe cX8_wipe 2 (some .int) ∈ kAL := al_in (List.mem_of_getElem? (i := 944) (by decide +kernel)) rfl
theorem al_624 : Cond.methodLink RL 94 yX7_fault ∈ kAL := al_in (List.mem_of_getElem? (i := 578) (by decide +kernel)) rfl
theorem al_625 : Cond.instanceMethod yX7_fault ∈ kAL := al_in (List.mem_of_getElem? (i := 579) (by decide +kernel)) rfl
theorem al_626 : Cond.selects RX7 yX7_fault yX7_fault ∈ kAL := al_in (List.mem_of_getElem? (i := 580) (by decide +kernel)) rfl
theorem al_627 : Cond.code yX7_fault cX7_fault 1 (some .int) ∈ kAL := al_in (List.mem_of_getElem? (i := 581) (by decide +kernel)) rfl
theorem al_628 : Cond.methodLink RX7 165 yX4_findFault ∈ kAL := al_in (List.mem_of_getElem? (i := 582) (by decide +kernel)) rfl
theorem al_629 : Cond.instanceMethod yX4_findFault ∈ kAL := al_in (List.mem_of_getElem? (i := 583) (by decide +kernel)) rfl
theorem al_630 : Cond.selects RX4 yX4_findFault yX4_findFault ∈ kAL := al_in (List.mem_of_getElem? (i := 584) (by decide +kernel)) rfl
theorem al_631 : Cond.code yX4_findFault cX4_findFault 2 (some .int) ∈ kAL := al_in (List.mem_of_getElem? (i := 585) (by decide +kernel)) rfl
theorem al_632 : Cond.fieldLink RX4 40 "CaneQuotas$Pad" "at" "I" ∈ kAL := al_in (List.mem_of_getElem? (i := 243) (by decide +kernel)) rfl
theorem al_633 : Cond.methodLink RX4 33 yX4_startReading ∈ kAL := al_in (List.mem_of_getElem? (i := 586) (by decide +kernel)) rfl
theorem al_634 : Cond.instanceMethod yX4_startReading ∈ kAL := al_in (List.mem_of_getElem? (i := 587) (by decide +kernel)) rfl
theorem al_635 : Cond.selects RX4 yX4_startReading yX4_startReading ∈ kAL := al_in (List.mem_of_getElem? (i := 588) (by decide +kernel)) rfl
theorem al_636 : Cond.code yX4_startReading cX4_startReading 1 none ∈ kAL := al_in (List.mem_of_getElem? (i := 589) (by decide +kernel)) rfl
theorem al_637 : Cond.methodLink RX4 36 yX4_readOrder ∈ kAL := al_in (List.mem_of_getElem? (i := 590) (by decide +kernel)) rfl
theorem al_638 : Cond.instanceMethod yX4_readOrder ∈ kAL := al_in (List.mem_of_getElem? (i := 591) (by decide +kernel)) rfl
theorem al_639 : Cond.selects RX4 yX4_readOrder yX4_readOrder ∈ kAL := al_in (List.mem_of_getElem? (i := 592) (by decide +kernel)) rfl
theorem al_640 : Cond.code yX4_readOrder cX4_readOrder 3 (some .boolean) ∈ kAL := al_in (List.mem_of_getElem? (i := 593) (by decide +kernel)) rfl
theorem al_641 : Cond.fieldLink RX4 47 "CaneQuotas$Pad" "kind" "C" ∈ kAL := al_in (List.mem_of_getElem? (i := 244) (by decide +kernel)) rfl
theorem al_642 : Cond.fieldLink RX4 51 "CaneQuotas$Pad" "valueCount" "I" ∈ kAL := al_in (List.mem_of_getElem? (i := 248) (by decide +kernel)) rfl
theorem al_643 : Cond.methodLink RX4 54 yX4_formOf ∈ kAL := al_in (List.mem_of_getElem? (i := 594) (by decide +kernel)) rfl
theorem al_644 : Cond.static yX4_formOf ∈ kAL := al_in (List.mem_of_getElem? (i := 595) (by decide +kernel)) rfl
theorem al_645 : Cond.code yX4_formOf cX4_formOf 1 (some (.object "java/lang/String")) ∈ kAL := al_in (List.mem_of_getElem? (i := 596) (by decide +kernel)) rfl
theorem al_646 : Cond.methodLink RX4 58 yJ0_isEmpty_aae02 ∈ kAL := al_in (List.mem_of_getElem? (i := 603) (by decide +kernel)) rfl
theorem al_647 : Cond.instanceMethod yJ0_isEmpty_aae02 ∈ kAL := al_in (List.mem_of_getElem? (i := 604) (by decide +kernel)) rfl
theorem al_648 : Cond.selects RJ0 yJ0_isEmpty_aae02 yJ0_isEmpty_aae02 ∈ kAL := al_in (List.mem_of_getElem? (i := 605) (by decide +kernel)) rfl
theorem al_649 : Cond.initialized RJ0 ∈ kAL := al_in (List.mem_of_getElem? (i := 47) (by decide +kernel)) rfl
theorem al_650 : Cond.code yJ0_isEmpty_aae02 cJ0_isEmpty_aae02 1 (some .boolean) ∈ kAL := al_in (List.mem_of_getElem? (i := 606) (by decide +kernel)) rfl
theorem al_651 : Cond.fieldLink RJ0 9 "java/lang/String" "value" "[B" ∈ kAL := al_in (List.mem_of_getElem? (i := 986) (by decide +kernel)) rfl
theorem al_652 : Cond.methodLink RX4 63 yJ0_length_8abf5 ∈ kAL := al_in (List.mem_of_getElem? (i := 607) (by decide +kernel)) rfl
theorem al_653 : Cond.instanceMethod yJ0_length_8abf5 ∈ kAL := al_in (List.mem_of_getElem? (i := 608) (by decide +kernel)) rfl
theorem al_654 : Cond.selects RJ0 yJ0_length_8abf5 yJ0_length_8abf5 ∈ kAL := al_in (List.mem_of_getElem? (i := 609) (by decide +kernel)) rfl
theorem al_655 : Cond.code yJ0_length_8abf5 cJ0_length_8abf5 1 (some .int) ∈ kAL := al_in (List.mem_of_getElem? (i := 610) (by decide +kernel)) rfl
theorem al_656 : Cond.methodLink RJ0 335 yJ0_coder_7d493 ∈ kAL := al_in (List.mem_of_getElem? (i := 611) (by decide +kernel)) rfl
theorem al_657 : Cond.instanceMethod yJ0_coder_7d493 ∈ kAL := al_in (List.mem_of_getElem? (i := 612) (by decide +kernel)) rfl
theorem al_658 : Cond.selects RJ0 yJ0_coder_7d493 yJ0_coder_7d493 ∈ kAL := al_in (List.mem_of_getElem? (i := 613) (by decide +kernel)) rfl
theorem al_659 : Cond.code yJ0_coder_7d493 cJ0_coder_7d493 1 (some .byte) ∈ kAL := al_in (List.mem_of_getElem? (i := 614) (by decide +kernel)) rfl
theorem al_660 : Cond.fieldLink RJ0 38 "java/lang/String" "COMPACT_STRINGS" "Z" ∈ kAL := al_in (List.mem_of_getElem? (i := 615) (by decide +kernel)) rfl
theorem al_661 : Cond.fieldLink RJ0 15 "java/lang/String" "coder" "B" ∈ kAL := al_in (List.mem_of_getElem? (i := 987) (by decide +kernel)) rfl
theorem al_662 : Cond.methodLink RX4 66 yJ0_charAt_5068e ∈ kAL := al_in (List.mem_of_getElem? (i := 617) (by decide +kernel)) rfl
theorem al_663 : Cond.instanceMethod yJ0_charAt_5068e ∈ kAL := al_in (List.mem_of_getElem? (i := 618) (by decide +kernel)) rfl
theorem al_664 : Cond.selects RJ0 yJ0_charAt_5068e yJ0_charAt_5068e ∈ kAL := al_in (List.mem_of_getElem? (i := 619) (by decide +kernel)) rfl
theorem al_665 : Cond.code yJ0_charAt_5068e cJ0_charAt_5068e 2 (some .char) ∈ kAL := al_in (List.mem_of_getElem? (i := 620) (by decide +kernel)) rfl
theorem al_666 : Cond.methodLink RJ0 492 yJ0_isLatin1_aae02 ∈ kAL := al_in (List.mem_of_getElem? (i := 621) (by decide +kernel)) rfl
theorem al_667 : Cond.instanceMethod yJ0_isLatin1_aae02 ∈ kAL := al_in (List.mem_of_getElem? (i := 622) (by decide +kernel)) rfl
theorem al_668 : Cond.selects RJ0 yJ0_isLatin1_aae02 yJ0_isLatin1_aae02 ∈ kAL := al_in (List.mem_of_getElem? (i := 623) (by decide +kernel)) rfl
theorem al_669 : Cond.code yJ0_isLatin1_aae02 cJ0_isLatin1_aae02 1 (some .boolean) ∈ kAL := al_in (List.mem_of_getElem? (i := 624) (by decide +kernel)) rfl
theorem al_670 : Cond.methodLink RJ0 495 yJ1_charAt_3b067 ∈ kAL := al_in (List.mem_of_getElem? (i := 625) (by decide +kernel)) rfl
theorem al_671 : Cond.static yJ1_charAt_3b067 ∈ kAL := al_in (List.mem_of_getElem? (i := 626) (by decide +kernel)) rfl
theorem al_672 : Cond.initialized RJ1 ∈ kAL := al_in (List.mem_of_getElem? (i := 48) (by decide +kernel)) rfl
theorem al_673 : Cond.code yJ1_charAt_3b067 cJ1_charAt_3b067 2 (some .char) ∈ kAL := al_in (List.mem_of_getElem? (i := 627) (by decide +kernel)) rfl
theorem al_674 : Cond.methodLink RJ1 9 yJ0_checkIndex_df160 ∈ kAL := al_in (List.mem_of_getElem? (i := 628) (by decide +kernel)) rfl
theorem al_675 : Cond.static yJ0_checkIndex_df160 ∈ kAL := al_in (List.mem_of_getElem? (i := 629) (by decide +kernel)) rfl
theorem al_676 : Cond.code yJ0_checkIndex_df160 cJ0_checkIndex_df160 2 none ∈ kAL := al_in (List.mem_of_getElem? (i := 630) (by decide +kernel)) rfl
theorem al_677 : Cond.fieldLink RJ0 1053 "jdk/internal/util/Preconditions" "SIOOBE_FORMATTER" "Ljava/util/function/BiFunction;" ∈ kAL := al_in (List.mem_of_getElem? (i := 631) (by decide +kernel)) rfl
theorem al_678 : Cond.methodLink RJ0 1059 yJ3_checkIndex_8e157 ∈ kAL := al_in (List.mem_of_getElem? (i := 633) (by decide +kernel)) rfl
theorem al_679 : Cond.static yJ3_checkIndex_8e157 ∈ kAL := al_in (List.mem_of_getElem? (i := 634) (by decide +kernel)) rfl
theorem al_680 : Cond.initialized RJ3 ∈ kAL := al_in (List.mem_of_getElem? (i := 49) (by decide +kernel)) rfl
theorem al_681 : Cond.code yJ3_checkIndex_8e157 cJ3_checkIndex_8e157 3 (some .int) ∈ kAL := al_in (List.mem_of_getElem? (i := 635) (by decide +kernel)) rfl
theorem al_682 : Cond.methodLink RJ0 498 yJ2_charAt_3b067 ∈ kAL := al_in (List.mem_of_getElem? (i := 636) (by decide +kernel)) rfl
theorem al_683 : Cond.static yJ2_charAt_3b067 ∈ kAL := al_in (List.mem_of_getElem? (i := 637) (by decide +kernel)) rfl
theorem al_684 : Cond.initialized RJ2 ∈ kAL := al_in (List.mem_of_getElem? (i := 50) (by decide +kernel)) rfl
theorem al_685 : Cond.code yJ2_charAt_3b067 cJ2_charAt_3b067 2 (some .char) ∈ kAL := al_in (List.mem_of_getElem? (i := 638) (by decide +kernel)) rfl
theorem al_686 : Cond.methodLink RJ2 67 yJ2_checkIndex_2214a ∈ kAL := al_in (List.mem_of_getElem? (i := 639) (by decide +kernel)) rfl
theorem al_687 : Cond.static yJ2_checkIndex_2214a ∈ kAL := al_in (List.mem_of_getElem? (i := 640) (by decide +kernel)) rfl
theorem al_688 : Cond.code yJ2_checkIndex_2214a cJ2_checkIndex_2214a 2 none ∈ kAL := al_in (List.mem_of_getElem? (i := 641) (by decide +kernel)) rfl
theorem al_689 : Cond.methodLink RJ2 48 yJ2_length_9d52b ∈ kAL := al_in (List.mem_of_getElem? (i := 642) (by decide +kernel)) rfl
theorem al_690 : Cond.static yJ2_length_9d52b ∈ kAL := al_in (List.mem_of_getElem? (i := 643) (by decide +kernel)) rfl
theorem al_691 : Cond.code yJ2_length_9d52b cJ2_length_9d52b 1 (some .int) ∈ kAL := al_in (List.mem_of_getElem? (i := 644) (by decide +kernel)) rfl
theorem al_692 : Cond.methodLink RJ2 414 yJ0_checkIndex_df160 ∈ kAL := al_in (List.mem_of_getElem? (i := 645) (by decide +kernel)) rfl
theorem al_693 : Cond.methodLink RJ2 71 yJ2_getChar_3b067 ∈ kAL := al_in (List.mem_of_getElem? (i := 646) (by decide +kernel)) rfl
theorem al_694 : Cond.static yJ2_getChar_3b067 ∈ kAL := al_in (List.mem_of_getElem? (i := 647) (by decide +kernel)) rfl
theorem al_695 : Cond.code yJ2_getChar_3b067 cJ2_getChar_3b067 2 (some .char) ∈ kAL := al_in (List.mem_of_getElem? (i := 648) (by decide +kernel)) rfl
theorem al_696 : Cond.fieldLink RJ2 44 "java/lang/StringUTF16" "$assertionsDisabled" "Z" ∈ kAL := al_in (List.mem_of_getElem? (i := 649) (by decide +kernel)) rfl
theorem al_697 : Cond.fieldLink RJ2 59 "java/lang/StringUTF16" "HI_BYTE_SHIFT" "I" ∈ kAL := al_in (List.mem_of_getElem? (i := 651) (by decide +kernel)) rfl
theorem al_698 : Cond.fieldLink RJ2 63 "java/lang/StringUTF16" "LO_BYTE_SHIFT" "I" ∈ kAL := al_in (List.mem_of_getElem? (i := 653) (by decide +kernel)) rfl
theorem al_699 : Cond.methodLink RX4 70 yX4_readPart ∈ kAL := al_in (List.mem_of_getElem? (i := 655) (by decide +kernel)) rfl
theorem al_700 : Cond.instanceMethod yX4_readPart ∈ kAL := al_in (List.mem_of_getElem? (i := 657) (by decide +kernel)) rfl
theorem al_701 : Cond.selects RX4 yX4_readPart yX4_readPart ∈ kAL := al_in (List.mem_of_getElem? (i := 10) (by decide +kernel)) rfl
theorem al_702 : Cond.code yX4_readPart cX4_readPart 2 (some .boolean) ∈ kAL := al_in (List.mem_of_getElem? (i := 658) (by decide +kernel)) rfl
theorem al_703 : Cond.methodLink RX4 85 yX4_readDigit ∈ kAL := al_in (List.mem_of_getElem? (i := 659) (by decide +kernel)) rfl
theorem al_704 : Cond.instanceMethod yX4_readDigit ∈ kAL := al_in (List.mem_of_getElem? (i := 661) (by decide +kernel)) rfl
theorem al_705 : Cond.selects RX4 yX4_readDigit yX4_readDigit ∈ kAL := al_in (List.mem_of_getElem? (i := 11) (by decide +kernel)) rfl
theorem al_706 : Cond.code yX4_readDigit cX4_readDigit 1 (some .boolean) ∈ kAL := al_in (List.mem_of_getElem? (i := 662) (by decide +kernel)) rfl
theorem al_707 : Cond.methodLink RX4 91 yX4_digitFollows ∈ kAL := al_in (List.mem_of_getElem? (i := 663) (by decide +kernel)) rfl
theorem al_708 : Cond.instanceMethod yX4_digitFollows ∈ kAL := al_in (List.mem_of_getElem? (i := 665) (by decide +kernel)) rfl
theorem al_709 : Cond.selects RX4 yX4_digitFollows yX4_digitFollows ∈ kAL := al_in (List.mem_of_getElem? (i := 12) (by decide +kernel)) rfl
theorem al_710 : Cond.code yX4_digitFollows cX4_digitFollows 1 (some .boolean) ∈ kAL := al_in (List.mem_of_getElem? (i := 666) (by decide +kernel)) rfl
theorem al_711 : Cond.methodLink RX4 94 yX4_keepValue ∈ kAL := al_in (List.mem_of_getElem? (i := 667) (by decide +kernel)) rfl
theorem al_712 : Cond.instanceMethod yX4_keepValue ∈ kAL := al_in (List.mem_of_getElem? (i := 669) (by decide +kernel)) rfl
theorem al_713 : Cond.selects RX4 yX4_keepValue yX4_keepValue ∈ kAL := al_in (List.mem_of_getElem? (i := 13) (by decide +kernel)) rfl
theorem al_714 : Cond.code yX4_keepValue cX4_keepValue 2 none ∈ kAL := al_in (List.mem_of_getElem? (i := 670) (by decide +kernel)) rfl
theorem al_715 : Cond.methodLink RX4 88 yX4_readNumber ∈ kAL := al_in (List.mem_of_getElem? (i := 671) (by decide +kernel)) rfl
theorem al_716 : Cond.instanceMethod yX4_readNumber ∈ kAL := al_in (List.mem_of_getElem? (i := 673) (by decide +kernel)) rfl
theorem al_717 : Cond.selects RX4 yX4_readNumber yX4_readNumber ∈ kAL := al_in (List.mem_of_getElem? (i := 14) (by decide +kernel)) rfl
theorem al_718 : Cond.code yX4_readNumber cX4_readNumber 3 (some .boolean) ∈ kAL := al_in (List.mem_of_getElem? (i := 674) (by decide +kernel)) rfl
theorem al_719 : Cond.methodLink RX4 43 yX4_readSign ∈ kAL := al_in (List.mem_of_getElem? (i := 675) (by decide +kernel)) rfl
theorem al_720 : Cond.instanceMethod yX4_readSign ∈ kAL := al_in (List.mem_of_getElem? (i := 676) (by decide +kernel)) rfl
theorem al_721 : Cond.selects RX4 yX4_readSign yX4_readSign ∈ kAL := al_in (List.mem_of_getElem? (i := 677) (by decide +kernel)) rfl
theorem al_722 : Cond.code yX4_readSign cX4_readSign 2 (some .boolean) ∈ kAL := al_in (List.mem_of_getElem? (i := 678) (by decide +kernel)) rfl
theorem al_723 : Cond.methodLink RL 97 yX8_fault ∈ kAL := al_in (List.mem_of_getElem? (i := 945) (by decide +kernel)) rfl
theorem al_724 : Cond.instanceMethod yX8_fault ∈ kAL := al_in (List.mem_of_getElem? (i := 946) (by decide +kernel)) rfl
theorem al_725 : Cond.selects RX8 yX8_fault yX8_fault ∈ kAL := al_in (List.mem_of_getElem? (i := 947) (by decide +kernel)) rfl
theorem al_726 : Cond.code yX8_fault cX8_fault 1 (some .int) ∈ kAL := al_in (List.mem_of_getElem? (i := 948) (by decide +kernel)) rfl
theorem al_727 : Cond.fieldLink RX8 163 "CaneQuotasModel" "at" "I" ∈ kAL := al_in (List.mem_of_getElem? (i := 721) (by decide +kernel)) rfl
theorem al_728 : Cond.methodLink RX8 185 yX8_isText ∈ kAL := al_in (List.mem_of_getElem? (i := 949) (by decide +kernel)) rfl
theorem al_729 : Cond.instanceMethod yX8_isText ∈ kAL := al_in (List.mem_of_getElem? (i := 951) (by decide +kernel)) rfl
theorem al_730 : Cond.selects RX8 yX8_isText yX8_isText ∈ kAL := al_in (List.mem_of_getElem? (i := 27) (by decide +kernel)) rfl
theorem al_731 : Cond.code yX8_isText cX8_isText 2 (some .boolean) ∈ kAL := al_in (List.mem_of_getElem? (i := 952) (by decide +kernel)) rfl
theorem al_732 : Cond.fieldLink RX8 169 "CaneQuotasModel" "ordered" "I" ∈ kAL := al_in (List.mem_of_getElem? (i := 723) (by decide +kernel)) rfl
theorem al_733 : Cond.methodLink RX8 181 yX8_isOrder ∈ kAL := al_in (List.mem_of_getElem? (i := 953) (by decide +kernel)) rfl
theorem al_734 : Cond.instanceMethod yX8_isOrder ∈ kAL := al_in (List.mem_of_getElem? (i := 955) (by decide +kernel)) rfl
theorem al_735 : Cond.selects RX8 yX8_isOrder yX8_isOrder ∈ kAL := al_in (List.mem_of_getElem? (i := 28) (by decide +kernel)) rfl
theorem al_736 : Cond.code yX8_isOrder cX8_isOrder 2 (some .boolean) ∈ kAL := al_in (List.mem_of_getElem? (i := 956) (by decide +kernel)) rfl
theorem al_737 : Cond.methodLink RX8 172 yX8_isDigit ∈ kAL := al_in (List.mem_of_getElem? (i := 957) (by decide +kernel)) rfl
theorem al_738 : Cond.instanceMethod yX8_isDigit ∈ kAL := al_in (List.mem_of_getElem? (i := 959) (by decide +kernel)) rfl
theorem al_739 : Cond.selects RX8 yX8_isDigit yX8_isDigit ∈ kAL := al_in (List.mem_of_getElem? (i := 29) (by decide +kernel)) rfl
theorem al_740 : Cond.code yX8_isDigit cX8_isDigit 2 (some .boolean) ∈ kAL := al_in (List.mem_of_getElem? (i := 960) (by decide +kernel)) rfl
theorem al_741 : Cond.methodLink RX8 166 yX8_isAt ∈ kAL := al_in (List.mem_of_getElem? (i := 961) (by decide +kernel)) rfl
theorem al_742 : Cond.instanceMethod yX8_isAt ∈ kAL := al_in (List.mem_of_getElem? (i := 963) (by decide +kernel)) rfl
theorem al_743 : Cond.selects RX8 yX8_isAt yX8_isAt ∈ kAL := al_in (List.mem_of_getElem? (i := 30) (by decide +kernel)) rfl
theorem al_744 : Cond.code yX8_isAt cX8_isAt 3 (some .boolean) ∈ kAL := al_in (List.mem_of_getElem? (i := 964) (by decide +kernel)) rfl
theorem al_745 : Cond.methodLink RX8 175 yX8_isSign ∈ kAL := al_in (List.mem_of_getElem? (i := 965) (by decide +kernel)) rfl
theorem al_746 : Cond.instanceMethod yX8_isSign ∈ kAL := al_in (List.mem_of_getElem? (i := 967) (by decide +kernel)) rfl
theorem al_747 : Cond.selects RX8 yX8_isSign yX8_isSign ∈ kAL := al_in (List.mem_of_getElem? (i := 31) (by decide +kernel)) rfl
theorem al_748 : Cond.code yX8_isSign cX8_isSign 3 (some .boolean) ∈ kAL := al_in (List.mem_of_getElem? (i := 968) (by decide +kernel)) rfl
theorem al_749 : Cond.methodLink RX8 178 yX8_isNumber ∈ kAL := al_in (List.mem_of_getElem? (i := 969) (by decide +kernel)) rfl
theorem al_750 : Cond.instanceMethod yX8_isNumber ∈ kAL := al_in (List.mem_of_getElem? (i := 971) (by decide +kernel)) rfl
theorem al_751 : Cond.selects RX8 yX8_isNumber yX8_isNumber ∈ kAL := al_in (List.mem_of_getElem? (i := 32) (by decide +kernel)) rfl
theorem al_752 : Cond.code yX8_isNumber cX8_isNumber 3 (some .boolean) ∈ kAL := al_in (List.mem_of_getElem? (i := 972) (by decide +kernel)) rfl
theorem al_753 : Cond.methodLink RL 98 yX7_carryOut ∈ kAL := al_in (List.mem_of_getElem? (i := 680) (by decide +kernel)) rfl
theorem al_754 : Cond.instanceMethod yX7_carryOut ∈ kAL := al_in (List.mem_of_getElem? (i := 681) (by decide +kernel)) rfl
theorem al_755 : Cond.selects RX7 yX7_carryOut yX7_carryOut ∈ kAL := al_in (List.mem_of_getElem? (i := 682) (by decide +kernel)) rfl
theorem al_756 : Cond.code yX7_carryOut cX7_carryOut 3 (some .int) ∈ kAL := al_in (List.mem_of_getElem? (i := 683) (by decide +kernel)) rfl
theorem al_757 : Cond.methodLink RX7 168 yX4_startReading ∈ kAL := al_in (List.mem_of_getElem? (i := 684) (by decide +kernel)) rfl
theorem al_758 : Cond.methodLink RX7 171 yX4_readOrder ∈ kAL := al_in (List.mem_of_getElem? (i := 685) (by decide +kernel)) rfl
theorem al_759 : Cond.methodLink RX7 175 yX7_carryOutOrder ∈ kAL := al_in (List.mem_of_getElem? (i := 686) (by decide +kernel)) rfl
theorem al_760 : Cond.instanceMethod yX7_carryOutOrder ∈ kAL := al_in (List.mem_of_getElem? (i := 688) (by decide +kernel)) rfl
theorem al_761 : Cond.selects RX7 yX7_carryOutOrder yX7_carryOutOrder ∈ kAL := al_in (List.mem_of_getElem? (i := 15) (by decide +kernel)) rfl
theorem al_762 : Cond.code yX7_carryOutOrder cX7_carryOutOrder 2 (some .int) ∈ kAL := al_in (List.mem_of_getElem? (i := 689) (by decide +kernel)) rfl
theorem al_763 : Cond.fieldLink RX7 182 "CaneQuotas$Pad" "values" "[I" ∈ kAL := al_in (List.mem_of_getElem? (i := 247) (by decide +kernel)) rfl
theorem al_764 : Cond.fieldLink RX7 185 "CaneQuotas$Pad" "kind" "C" ∈ kAL := al_in (List.mem_of_getElem? (i := 245) (by decide +kernel)) rfl
theorem al_765 : Cond.methodLink RX7 178 yX4_readSign ∈ kAL := al_in (List.mem_of_getElem? (i := 690) (by decide +kernel)) rfl
theorem al_766 : Cond.methodLink RL 101 yX8_carryOut ∈ kAL := al_in (List.mem_of_getElem? (i := 973) (by decide +kernel)) rfl
theorem al_767 : Cond.instanceMethod yX8_carryOut ∈ kAL := al_in (List.mem_of_getElem? (i := 974) (by decide +kernel)) rfl
theorem al_768 : Cond.selects RX8 yX8_carryOut yX8_carryOut ∈ kAL := al_in (List.mem_of_getElem? (i := 975) (by decide +kernel)) rfl
theorem al_769 : Cond.code yX8_carryOut cX8_carryOut 2 (some .int) ∈ kAL := al_in (List.mem_of_getElem? (i := 976) (by decide +kernel)) rfl
theorem al_770 : Cond.methodLink RX8 192 yX8_does ∈ kAL := al_in (List.mem_of_getElem? (i := 977) (by decide +kernel)) rfl
theorem al_771 : Cond.instanceMethod yX8_does ∈ kAL := al_in (List.mem_of_getElem? (i := 979) (by decide +kernel)) rfl
theorem al_772 : Cond.selects RX8 yX8_does yX8_does ∈ kAL := al_in (List.mem_of_getElem? (i := 33) (by decide +kernel)) rfl
theorem al_773 : Cond.code yX8_does cX8_does 7 (some .boolean) ∈ kAL := al_in (List.mem_of_getElem? (i := 980) (by decide +kernel)) rfl
theorem al_774 : Cond.methodLink RX8 188 yX8_mayDo ∈ kAL := al_in (List.mem_of_getElem? (i := 981) (by decide +kernel)) rfl
theorem al_775 : Cond.instanceMethod yX8_mayDo ∈ kAL := al_in (List.mem_of_getElem? (i := 983) (by decide +kernel)) rfl
theorem al_776 : Cond.selects RX8 yX8_mayDo yX8_mayDo ∈ kAL := al_in (List.mem_of_getElem? (i := 34) (by decide +kernel)) rfl
theorem al_777 : Cond.code yX8_mayDo cX8_mayDo 6 (some .int) ∈ kAL := al_in (List.mem_of_getElem? (i := 984) (by decide +kernel)) rfl
theorem al_778 : Cond.methodLink RL 102 yX7_undo ∈ kAL := al_in (List.mem_of_getElem? (i := 691) (by decide +kernel)) rfl
theorem al_779 : Cond.instanceMethod yX7_undo ∈ kAL := al_in (List.mem_of_getElem? (i := 692) (by decide +kernel)) rfl
theorem al_780 : Cond.selects RX7 yX7_undo yX7_undo ∈ kAL := al_in (List.mem_of_getElem? (i := 693) (by decide +kernel)) rfl
theorem al_781 : Cond.code yX7_undo cX7_undo 1 (some .int) ∈ kAL := al_in (List.mem_of_getElem? (i := 694) (by decide +kernel)) rfl
theorem al_782 : Cond.methodLink RX7 189 yX2_bringBackLatest ∈ kAL := al_in (List.mem_of_getElem? (i := 695) (by decide +kernel)) rfl
theorem al_783 : Cond.instanceMethod yX2_bringBackLatest ∈ kAL := al_in (List.mem_of_getElem? (i := 696) (by decide +kernel)) rfl
theorem al_784 : Cond.selects RX2 yX2_bringBackLatest yX2_bringBackLatest ∈ kAL := al_in (List.mem_of_getElem? (i := 697) (by decide +kernel)) rfl
theorem al_785 : Cond.code yX2_bringBackLatest cX2_bringBackLatest 3 none ∈ kAL := al_in (List.mem_of_getElem? (i := 698) (by decide +kernel)) rfl
theorem al_786 : Cond.methodLink RL 105 yX8_undo ∈ kAL := al_in (List.mem_of_getElem? (i := 748) (by decide +kernel)) rfl
theorem al_787 : Cond.instanceMethod yX8_undo ∈ kAL := al_in (List.mem_of_getElem? (i := 749) (by decide +kernel)) rfl
theorem al_788 : Cond.selects RX8 yX8_undo yX8_undo ∈ kAL := al_in (List.mem_of_getElem? (i := 750) (by decide +kernel)) rfl
theorem al_789 : Cond.code yX8_undo cX8_undo 1 (some .int) ∈ kAL := al_in (List.mem_of_getElem? (i := 751) (by decide +kernel)) rfl
theorem al_790 : Cond.methodLink RL 106 yX7_save ∈ kAL := al_in (List.mem_of_getElem? (i := 699) (by decide +kernel)) rfl
theorem al_791 : Cond.instanceMethod yX7_save ∈ kAL := al_in (List.mem_of_getElem? (i := 700) (by decide +kernel)) rfl
theorem al_792 : Cond.selects RX7 yX7_save yX7_save ∈ kAL := al_in (List.mem_of_getElem? (i := 701) (by decide +kernel)) rfl
theorem al_793 : Cond.code yX7_save cX7_save 3 (some .int) ∈ kAL := al_in (List.mem_of_getElem? (i := 702) (by decide +kernel)) rfl
theorem al_794 : Cond.fieldLink RX7 192 "CaneQuotas$Fields" "count" "I" ∈ kAL := al_in (List.mem_of_getElem? (i := 117) (by decide +kernel)) rfl
theorem al_795 : Cond.methodLink RL 109 yX8_save ∈ kAL := al_in (List.mem_of_getElem? (i := 755) (by decide +kernel)) rfl
theorem al_796 : Cond.instanceMethod yX8_save ∈ kAL := al_in (List.mem_of_getElem? (i := 756) (by decide +kernel)) rfl
theorem al_797 : Cond.selects RX8 yX8_save yX8_save ∈ kAL := al_in (List.mem_of_getElem? (i := 757) (by decide +kernel)) rfl
theorem al_798 : Cond.code yX8_save cX8_save 2 (some .int) ∈ kAL := al_in (List.mem_of_getElem? (i := 758) (by decide +kernel)) rfl
theorem al_799 : Cond.methodLink RL 110 yX7_restore ∈ kAL := al_in (List.mem_of_getElem? (i := 703) (by decide +kernel)) rfl
theorem al_800 : Cond.instanceMethod yX7_restore ∈ kAL := al_in (List.mem_of_getElem? (i := 704) (by decide +kernel)) rfl
theorem al_801 : Cond.selects RX7 yX7_restore yX7_restore ∈ kAL := al_in (List.mem_of_getElem? (i := 705) (by decide +kernel)) rfl
theorem al_802 : Cond.code yX7_restore cX7_restore 3 (some .int) ∈ kAL := al_in (List.mem_of_getElem? (i := 706) (by decide +kernel)) rfl
theorem al_803 : Cond.methodLink RL 113 yX8_restore ∈ kAL := al_in (List.mem_of_getElem? (i := 762) (by decide +kernel)) rfl
theorem al_804 : Cond.instanceMethod yX8_restore ∈ kAL := al_in (List.mem_of_getElem? (i := 763) (by decide +kernel)) rfl
theorem al_805 : Cond.selects RX8 yX8_restore yX8_restore ∈ kAL := al_in (List.mem_of_getElem? (i := 764) (by decide +kernel)) rfl
theorem al_806 : Cond.code yX8_restore cX8_restore 2 (some .int) ∈ kAL := al_in (List.mem_of_getElem? (i := 765) (by decide +kernel)) rfl
end
section
def wX0_init : List Cond := .code yX0_init cX0_init 1 none :: kAL
theorem gyX0_init : GoodIn kAL wX0_init := al_1 al_67 al_0
def wX7_copyRow : List Cond := .code yX7_copyRow cX7_copyRow 3 none :: kAL
theorem gyX7_copyRow : GoodIn kAL wX7_copyRow := al_1 al_130 al_0
def wX0_copyFrom : List Cond := .code yX0_copyFrom cX0_copyFrom 2 none :: kAL
theorem gyX0_copyFrom : GoodIn kAL wX0_copyFrom := al_1 al_146 al_0
def wX0_append : List Cond := .code yX0_append cX0_append 6 (some .int) :: kAL
theorem gyX0_append : GoodIn kAL wX0_append := al_1 al_246 al_0
def wX0_howItIs : List Cond := .code yX0_howItIs cX0_howItIs 3 (some .int) :: kAL
theorem gyX0_howItIs : GoodIn kAL wX0_howItIs := al_1 al_336 al_0
def wX0_loseCane : List Cond := .code yX0_loseCane cX0_loseCane 3 (some .int) :: kAL
theorem gyX0_loseCane : GoodIn kAL wX0_loseCane := al_1 al_318 al_0
def wX0_purityOn : List Cond := .code yX0_purityOn cX0_purityOn 5 (some .int) :: kAL
theorem gyX0_purityOn : GoodIn kAL wX0_purityOn := al_1 al_377 al_0
def wX0_burntCaneOf : List Cond := .code yX0_burntCaneOf cX0_burntCaneOf 5 (some .int) :: kAL
theorem gyX0_burntCaneOf : GoodIn kAL wX0_burntCaneOf := al_1 al_465 al_0
def wX0_setOf : List Cond := .code yX0_setOf cX0_setOf 6 (some .long) :: kAL
theorem gyX0_setOf : GoodIn kAL wX0_setOf := al_1 al_528 al_0
def wX1_init : List Cond := .code yX1_init cX1_init 1 none :: kAL
theorem gyX1_init : GoodIn kAL wX1_init := al_1 al_59 al_0
def wX1_copyFrom : List Cond := .code yX1_copyFrom cX1_copyFrom 2 none :: kAL
theorem gyX1_copyFrom : GoodIn kAL wX1_copyFrom := al_1 al_142 al_0
def wX7_sumOf : List Cond := .code yX7_sumOf cX7_sumOf 6 (some .int) :: kAL
theorem gyX7_sumOf : GoodIn kAL wX7_sumOf := al_1 al_504 al_0
def wX1_totalCrushed : List Cond := .code yX1_totalCrushed cX1_totalCrushed 1 (some .int) :: kAL
theorem gyX1_totalCrushed : GoodIn kAL wX1_totalCrushed := al_1 al_502 al_0
def wX1_totalLost : List Cond := .code yX1_totalLost cX1_totalLost 1 (some .int) :: kAL
theorem gyX1_totalLost : GoodIn kAL wX1_totalLost := al_1 al_508 al_0
def wX1_totalPaid : List Cond := .code yX1_totalPaid cX1_totalPaid 1 (some .int) :: kAL
theorem gyX1_totalPaid : GoodIn kAL wX1_totalPaid := al_1 al_512 al_0
def wX2_init : List Cond := .code yX2_init cX2_init 1 none :: kAL
theorem gyX2_init : GoodIn kAL wX2_init := al_1 al_89 al_0
def wX5_init : List Cond := .code yX5_init cX5_init 1 none :: kAL
theorem gyX5_init : GoodIn kAL wX5_init := al_1 al_78 al_0
def wX6_init : List Cond := .code yX6_init cX6_init 1 none :: kAL
theorem gyX6_init : GoodIn kAL wX6_init := al_1 al_83 al_0
def wX3_init : List Cond := .code yX3_init cX3_init 1 none :: kAL
theorem gyX3_init : GoodIn kAL wX3_init := al_1 al_38 al_0
def wX5_copyFrom : List Cond := .code yX5_copyFrom cX5_copyFrom 2 none :: kAL
theorem gyX5_copyFrom : GoodIn kAL wX5_copyFrom := al_1 al_151 al_0
def wX6_copyFrom : List Cond := .code yX6_copyFrom cX6_copyFrom 2 none :: kAL
theorem gyX6_copyFrom : GoodIn kAL wX6_copyFrom := al_1 al_156 al_0
def wX3_copyFrom : List Cond := .code yX3_copyFrom cX3_copyFrom 2 none :: kAL
theorem gyX3_copyFrom : GoodIn kAL wX3_copyFrom := al_1 al_124 al_0
def wX2_prepare : List Cond := .code yX2_prepare cX2_prepare 4 none :: kAL
theorem gyX2_prepare : GoodIn kAL wX2_prepare := al_1 al_118 al_0
def wX2_recordUnlessError : List Cond := .code yX2_recordUnlessError cX2_recordUnlessError 2 (some .int) :: kAL
theorem gyX2_recordUnlessError : GoodIn kAL wX2_recordUnlessError := al_1 al_170 al_0
def wX2_bringBackLatest : List Cond := .code yX2_bringBackLatest cX2_bringBackLatest 3 none :: kAL
theorem gyX2_bringBackLatest : GoodIn kAL wX2_bringBackLatest := al_1 al_785 al_0
def wX7_isWithin : List Cond := .code yX7_isWithin cX7_isWithin 3 (some .boolean) :: kAL
theorem gyX7_isWithin : GoodIn kAL wX7_isWithin := al_1 al_166 al_0
def wX3_changeSetting : List Cond := .code yX3_changeSetting cX3_changeSetting 4 (some .int) :: kAL
theorem gyX3_changeSetting : GoodIn kAL wX3_changeSetting := al_1 al_162 al_0
def wX7_isGrower : List Cond := .code yX7_isGrower cX7_isGrower 1 (some .boolean) :: kAL
theorem gyX7_isGrower : GoodIn kAL wX7_isGrower := al_1 al_203 al_0
def wX3_changeQuota : List Cond := .code yX3_changeQuota cX3_changeQuota 4 (some .int) :: kAL
theorem gyX3_changeQuota : GoodIn kAL wX3_changeQuota := al_1 al_200 al_0
def wX3_lendQuota : List Cond := .code yX3_lendQuota cX3_lendQuota 4 (some .int) :: kAL
theorem gyX3_lendQuota : GoodIn kAL wX3_lendQuota := al_1 al_222 al_0
def wX3_addField : List Cond := .code yX3_addField cX3_addField 5 (some .int) :: kAL
theorem gyX3_addField : GoodIn kAL wX3_addField := al_1 al_242 al_0
def wX3_loseOldCane : List Cond := .code yX3_loseOldCane cX3_loseOldCane 2 none :: kAL
theorem gyX3_loseOldCane : GoodIn kAL wX3_loseOldCane := al_1 al_310 al_0
def wX3_room : List Cond := .code yX3_room cX3_room 1 (some .int) :: kAL
theorem gyX3_room : GoodIn kAL wX3_room := al_1 al_330 al_0
def wX3_quotaOf : List Cond := .code yX3_quotaOf cX3_quotaOf 2 (some .int) :: kAL
theorem gyX3_quotaOf : GoodIn kAL wX3_quotaOf := al_1 al_340 al_0
def wX3_goesAhead : List Cond := .code yX3_goesAhead cX3_goesAhead 5 (some .boolean) :: kAL
theorem gyX3_goesAhead : GoodIn kAL wX3_goesAhead := al_1 al_344 al_0
def wX3_nextField : List Cond := .code yX3_nextField cX3_nextField 3 (some .int) :: kAL
theorem gyX3_nextField : GoodIn kAL wX3_nextField := al_1 al_326 al_0
def wX6_append : List Cond := .code yX6_append cX6_append 4 none :: kAL
theorem gyX6_append : GoodIn kAL wX6_append := al_1 al_356 al_0
def wX3_bringLoad : List Cond := .code yX3_bringLoad cX3_bringLoad 5 none :: kAL
theorem gyX3_bringLoad : GoodIn kAL wX3_bringLoad := al_1 al_348 al_0
def wX3_bringLoads : List Cond := .code yX3_bringLoads cX3_bringLoads 3 none :: kAL
theorem gyX3_bringLoads : GoodIn kAL wX3_bringLoads := al_1 al_322 al_0
def wX5_isStopped : List Cond := .code yX5_isStopped cX5_isStopped 3 (some .boolean) :: kAL
theorem gyX5_isStopped : GoodIn kAL wX5_isStopped := al_1 al_360 al_0
def wX3_crushPart : List Cond := .code yX3_crushPart cX3_crushPart 5 none :: kAL
theorem gyX3_crushPart : GoodIn kAL wX3_crushPart := al_1 al_370 al_0
def wX6_takeFrom : List Cond := .code yX6_takeFrom cX6_takeFrom 3 (some .int) :: kAL
theorem gyX6_takeFrom : GoodIn kAL wX6_takeFrom := al_1 al_384 al_0
def wX6_dropFirst : List Cond := .code yX6_dropFirst cX6_dropFirst 3 none :: kAL
theorem gyX6_dropFirst : GoodIn kAL wX6_dropFirst := al_1 al_388 al_0
def wX3_crush : List Cond := .code yX3_crush cX3_crush 5 none :: kAL
theorem gyX3_crush : GoodIn kAL wX3_crush := al_1 al_364 al_0
def wX3_passDay : List Cond := .code yX3_passDay cX3_passDay 2 none :: kAL
theorem gyX3_passDay : GoodIn kAL wX3_passDay := al_1 al_306 al_0
def wX3_passDays : List Cond := .code yX3_passDays cX3_passDays 3 (some .int) :: kAL
theorem gyX3_passDays : GoodIn kAL wX3_passDays := al_1 al_302 al_0
def wX3_numberOfField : List Cond := .code yX3_numberOfField cX3_numberOfField 3 (some .int) :: kAL
theorem gyX3_numberOfField : GoodIn kAL wX3_numberOfField := al_1 al_446 al_0
def wX3_numberOfGrower : List Cond := .code yX3_numberOfGrower cX3_numberOfGrower 3 (some .int) :: kAL
theorem gyX3_numberOfGrower : GoodIn kAL wX3_numberOfGrower := al_1 al_461 al_0
def wX3_numberOfAll : List Cond := .code yX3_numberOfAll cX3_numberOfAll 2 (some .int) :: kAL
theorem gyX3_numberOfAll : GoodIn kAL wX3_numberOfAll := al_1 al_497 al_0
def wX4_init : List Cond := .code yX4_init cX4_init 1 none :: kAL
theorem gyX4_init : GoodIn kAL wX4_init := al_1 al_94 al_0
def wX4_countSigns : List Cond := .code yX4_countSigns cX4_countSigns 5 (some .int) :: kAL
theorem gyX4_countSigns : GoodIn kAL wX4_countSigns := al_1 al_600 al_0
def wX4_append : List Cond := .code yX4_append cX4_append 5 (some .int) :: kAL
theorem gyX4_append : GoodIn kAL wX4_append := al_1 al_595 al_0
def wX4_empty : List Cond := .code yX4_empty cX4_empty 2 (some .int) :: kAL
theorem gyX4_empty : GoodIn kAL wX4_empty := al_1 al_619 al_0
def wX4_startReading : List Cond := .code yX4_startReading cX4_startReading 1 none :: kAL
theorem gyX4_startReading : GoodIn kAL wX4_startReading := al_1 al_636 al_0
def wX4_formOf : List Cond := .code yX4_formOf cX4_formOf 1 (some (.object "java/lang/String")) :: kAL
theorem gyX4_formOf : GoodIn kAL wX4_formOf := al_1 al_645 al_0
def wJ0_isEmpty_aae02 : List Cond := .code yJ0_isEmpty_aae02 cJ0_isEmpty_aae02 1 (some .boolean) :: kAL
theorem gyJ0_isEmpty_aae02 : GoodIn kAL wJ0_isEmpty_aae02 := al_1 al_650 al_0
def wJ0_coder_7d493 : List Cond := .code yJ0_coder_7d493 cJ0_coder_7d493 1 (some .byte) :: kAL
theorem gyJ0_coder_7d493 : GoodIn kAL wJ0_coder_7d493 := al_1 al_659 al_0
def wJ0_length_8abf5 : List Cond := .code yJ0_length_8abf5 cJ0_length_8abf5 1 (some .int) :: kAL
theorem gyJ0_length_8abf5 : GoodIn kAL wJ0_length_8abf5 := al_1 al_655 al_0
def wJ0_isLatin1_aae02 : List Cond := .code yJ0_isLatin1_aae02 cJ0_isLatin1_aae02 1 (some .boolean) :: kAL
theorem gyJ0_isLatin1_aae02 : GoodIn kAL wJ0_isLatin1_aae02 := al_1 al_669 al_0
def wJ3_checkIndex_8e157 : List Cond := .code yJ3_checkIndex_8e157 cJ3_checkIndex_8e157 3 (some .int) :: kAL
theorem gyJ3_checkIndex_8e157 : GoodIn kAL wJ3_checkIndex_8e157 := al_1 al_681 al_0
def wJ0_checkIndex_df160 : List Cond := .code yJ0_checkIndex_df160 cJ0_checkIndex_df160 2 none :: kAL
theorem gyJ0_checkIndex_df160 : GoodIn kAL wJ0_checkIndex_df160 := al_1 al_676 al_0
def wJ1_charAt_3b067 : List Cond := .code yJ1_charAt_3b067 cJ1_charAt_3b067 2 (some .char) :: kAL
theorem gyJ1_charAt_3b067 : GoodIn kAL wJ1_charAt_3b067 := al_1 al_673 al_0
def wJ2_length_9d52b : List Cond := .code yJ2_length_9d52b cJ2_length_9d52b 1 (some .int) :: kAL
theorem gyJ2_length_9d52b : GoodIn kAL wJ2_length_9d52b := al_1 al_691 al_0
def wJ2_checkIndex_2214a : List Cond := .code yJ2_checkIndex_2214a cJ2_checkIndex_2214a 2 none :: kAL
theorem gyJ2_checkIndex_2214a : GoodIn kAL wJ2_checkIndex_2214a := al_1 al_688 al_0
def wJ2_getChar_3b067 : List Cond := .code yJ2_getChar_3b067 cJ2_getChar_3b067 2 (some .char) :: kAL
theorem gyJ2_getChar_3b067 : GoodIn kAL wJ2_getChar_3b067 := al_1 al_695 al_0
def wJ2_charAt_3b067 : List Cond := .code yJ2_charAt_3b067 cJ2_charAt_3b067 2 (some .char) :: kAL
theorem gyJ2_charAt_3b067 : GoodIn kAL wJ2_charAt_3b067 := al_1 al_685 al_0
def wJ0_charAt_5068e : List Cond := .code yJ0_charAt_5068e cJ0_charAt_5068e 2 (some .char) :: kAL
theorem gyJ0_charAt_5068e : GoodIn kAL wJ0_charAt_5068e := al_1 al_665 al_0
def wX4_digitFollows : List Cond := .code yX4_digitFollows cX4_digitFollows 1 (some .boolean) :: kAL
theorem gyX4_digitFollows : GoodIn kAL wX4_digitFollows := al_1 al_710 al_0
def wX4_keepValue : List Cond := .code yX4_keepValue cX4_keepValue 2 none :: kAL
theorem gyX4_keepValue : GoodIn kAL wX4_keepValue := al_1 al_714 al_0
def wX4_readDigit : List Cond := .code yX4_readDigit cX4_readDigit 1 (some .boolean) :: kAL
theorem gyX4_readDigit : GoodIn kAL wX4_readDigit := al_1 al_706 al_0
def wX4_readNumber : List Cond := .code yX4_readNumber cX4_readNumber 3 (some .boolean) :: kAL
theorem gyX4_readNumber : GoodIn kAL wX4_readNumber := al_1 al_718 al_0
def wX4_readSign : List Cond := .code yX4_readSign cX4_readSign 2 (some .boolean) :: kAL
theorem gyX4_readSign : GoodIn kAL wX4_readSign := al_1 al_722 al_0
def wX4_readPart : List Cond := .code yX4_readPart cX4_readPart 2 (some .boolean) :: kAL
theorem gyX4_readPart : GoodIn kAL wX4_readPart := al_1 al_702 al_0
def wX4_readOrder : List Cond := .code yX4_readOrder cX4_readOrder 3 (some .boolean) :: kAL
theorem gyX4_readOrder : GoodIn kAL wX4_readOrder := al_1 al_640 al_0
def wX4_findFault : List Cond := .code yX4_findFault cX4_findFault 2 (some .int) :: kAL
theorem gyX4_findFault : GoodIn kAL wX4_findFault := al_1 al_631 al_0
def wX5_addStop : List Cond := .code yX5_addStop cX5_addStop 3 (some .int) :: kAL
theorem gyX5_addStop : GoodIn kAL wX5_addStop := al_1 al_267 al_0
def wX5_removeStop : List Cond := .code yX5_removeStop cX5_removeStop 3 (some .int) :: kAL
theorem gyX5_removeStop : GoodIn kAL wX5_removeStop := al_1 al_290 al_0
def wX6_numberOfLoad : List Cond := .code yX6_numberOfLoad cX6_numberOfLoad 3 (some .int) :: kAL
theorem gyX6_numberOfLoad : GoodIn kAL wX6_numberOfLoad := al_1 al_483 al_0
def wX7_init : List Cond := .code yX7_init cX7_init 1 none :: kAL
theorem gyX7_init : GoodIn kAL wX7_init := al_1 al_19 al_0
def wX7_set : List Cond := .code yX7_set cX7_set 3 (some .int) :: kAL
theorem gyX7_set : GoodIn kAL wX7_set := al_1 al_114 al_0
def wX7_quota : List Cond := .code yX7_quota cX7_quota 3 (some .int) :: kAL
theorem gyX7_quota : GoodIn kAL wX7_quota := al_1 al_196 al_0
def wX7_lend : List Cond := .code yX7_lend cX7_lend 4 (some .int) :: kAL
theorem gyX7_lend : GoodIn kAL wX7_lend := al_1 al_218 al_0
def wX7_field : List Cond := .code yX7_field cX7_field 5 (some .int) :: kAL
theorem gyX7_field : GoodIn kAL wX7_field := al_1 al_238 al_0
def wX7_stop : List Cond := .code yX7_stop cX7_stop 3 (some .int) :: kAL
theorem gyX7_stop : GoodIn kAL wX7_stop := al_1 al_262 al_0
def wX7_dropStop : List Cond := .code yX7_dropStop cX7_dropStop 2 (some .int) :: kAL
theorem gyX7_dropStop : GoodIn kAL wX7_dropStop := al_1 al_286 al_0
def wX7_pass : List Cond := .code yX7_pass cX7_pass 2 (some .int) :: kAL
theorem gyX7_pass : GoodIn kAL wX7_pass := al_1 al_298 al_0
def wX7_ofField : List Cond := .code yX7_ofField cX7_ofField 3 (some .int) :: kAL
theorem gyX7_ofField : GoodIn kAL wX7_ofField := al_1 al_442 al_0
def wX7_ofGrower : List Cond := .code yX7_ofGrower cX7_ofGrower 3 (some .int) :: kAL
theorem gyX7_ofGrower : GoodIn kAL wX7_ofGrower := al_1 al_457 al_0
def wX7_load : List Cond := .code yX7_load cX7_load 3 (some .int) :: kAL
theorem gyX7_load : GoodIn kAL wX7_load := al_1 al_478 al_0
def wX7_count : List Cond := .code yX7_count cX7_count 2 (some .int) :: kAL
theorem gyX7_count : GoodIn kAL wX7_count := al_1 al_491 al_0
def wX7_fields : List Cond := .code yX7_fields cX7_fields 2 (some .long) :: kAL
theorem gyX7_fields : GoodIn kAL wX7_fields := al_1 al_521 al_0
def wX7_next : List Cond := .code yX7_next cX7_next 1 (some .int) :: kAL
theorem gyX7_next : GoodIn kAL wX7_next := al_1 al_537 al_0
def wX7_tryDays : List Cond := .code yX7_tryDays cX7_tryDays 4 none :: kAL
theorem gyX7_tryDays : GoodIn kAL wX7_tryDays := al_1 al_552 al_0
def wX7_then : List Cond := .code yX7_then cX7_then 3 (some .int) :: kAL
theorem gyX7_then : GoodIn kAL wX7_then := al_1 al_546 al_0
def wX7_losesNothing : List Cond := .code yX7_losesNothing cX7_losesNothing 5 (some .boolean) :: kAL
theorem gyX7_losesNothing : GoodIn kAL wX7_losesNothing := al_1 al_572 al_0
def wX7_leastTrucks : List Cond := .code yX7_leastTrucks cX7_leastTrucks 3 (some .int) :: kAL
theorem gyX7_leastTrucks : GoodIn kAL wX7_leastTrucks := al_1 al_568 al_0
def wX7_stopCosts : List Cond := .code yX7_stopCosts cX7_stopCosts 4 (some .int) :: kAL
theorem gyX7_stopCosts : GoodIn kAL wX7_stopCosts := al_1 al_581 al_0
def wX7_put : List Cond := .code yX7_put cX7_put 3 (some .int) :: kAL
theorem gyX7_put : GoodIn kAL wX7_put := al_1 al_591 al_0
def wX7_wipe : List Cond := .code yX7_wipe cX7_wipe 1 (some .int) :: kAL
theorem gyX7_wipe : GoodIn kAL wX7_wipe := al_1 al_615 al_0
def wX7_fault : List Cond := .code yX7_fault cX7_fault 1 (some .int) :: kAL
theorem gyX7_fault : GoodIn kAL wX7_fault := al_1 al_627 al_0
def wX7_carryOutOrder : List Cond := .code yX7_carryOutOrder cX7_carryOutOrder 2 (some .int) :: kAL
theorem gyX7_carryOutOrder : GoodIn kAL wX7_carryOutOrder := al_1 al_762 al_0
def wX7_carryOut : List Cond := .code yX7_carryOut cX7_carryOut 3 (some .int) :: kAL
theorem gyX7_carryOut : GoodIn kAL wX7_carryOut := al_1 al_756 al_0
def wX7_undo : List Cond := .code yX7_undo cX7_undo 1 (some .int) :: kAL
theorem gyX7_undo : GoodIn kAL wX7_undo := al_1 al_781 al_0
def wX7_save : List Cond := .code yX7_save cX7_save 3 (some .int) :: kAL
theorem gyX7_save : GoodIn kAL wX7_save := al_1 al_793 al_0
def wX7_restore : List Cond := .code yX7_restore cX7_restore 3 (some .int) :: kAL
theorem gyX7_restore : GoodIn kAL wX7_restore := al_1 al_802 al_0
def wX8_init : List Cond := .code yX8_init cX8_init 2 none :: kAL
theorem gyX8_init : GoodIn kAL wX8_init := al_1 al_101 al_0
def wX8_in : List Cond := .code yX8_in cX8_in 3 (some .boolean) :: kAL
theorem gyX8_in : GoodIn kAL wX8_in := al_1 al_177 al_0
def wX8_of : List Cond := .code yX8_of cX8_of 3 (some .int) :: kAL
theorem gyX8_of : GoodIn kAL wX8_of := al_1 al_411 al_0
def wX8_isGrower : List Cond := .code yX8_isGrower cX8_isGrower 1 (some .boolean) :: kAL
theorem gyX8_isGrower : GoodIn kAL wX8_isGrower := al_1 al_214 al_0
def wX8_isDay : List Cond := .code yX8_isDay cX8_isDay 1 (some .boolean) :: kAL
theorem gyX8_isDay : GoodIn kAL wX8_isDay := al_1 al_278 al_0
def wX8_lays : List Cond := .code yX8_lays cX8_lays 5 none :: kAL
theorem gyX8_lays : GoodIn kAL wX8_lays := al_1 al_188 al_0
def wX8_records : List Cond := .code yX8_records cX8_records 2 none :: kAL
theorem gyX8_records : GoodIn kAL wX8_records := al_1 al_184 al_0
def wX8_undo : List Cond := .code yX8_undo cX8_undo 1 (some .int) :: kAL
theorem gyX8_undo : GoodIn kAL wX8_undo := al_1 al_789 al_0
def wX8_save : List Cond := .code yX8_save cX8_save 2 (some .int) :: kAL
theorem gyX8_save : GoodIn kAL wX8_save := al_1 al_798 al_0
def wX8_restore : List Cond := .code yX8_restore cX8_restore 2 (some .int) :: kAL
theorem gyX8_restore : GoodIn kAL wX8_restore := al_1 al_806 al_0
def wX8_how : List Cond := .code yX8_how cX8_how 2 (some .int) :: kAL
theorem gyX8_how : GoodIn kAL wX8_how := al_1 al_408 al_0
def wX8_purity : List Cond := .code yX8_purity cX8_purity 4 (some .int) :: kAL
theorem gyX8_purity : GoodIn kAL wX8_purity := al_1 al_438 al_0
def wX8_inYard : List Cond := .code yX8_inYard cX8_inYard 3 (some .int) :: kAL
theorem gyX8_inYard : GoodIn kAL wX8_inYard := al_1 al_420 al_0
def wX8_loses : List Cond := .code yX8_loses cX8_loses 3 none :: kAL
theorem gyX8_loses : GoodIn kAL wX8_loses := al_1 al_405 al_0
def wX8_isAhead : List Cond := .code yX8_isAhead cX8_isAhead 4 (some .boolean) :: kAL
theorem gyX8_isAhead : GoodIn kAL wX8_isAhead := al_1 al_417 al_0
def wX8_nextField : List Cond := .code yX8_nextField cX8_nextField 4 (some .int) :: kAL
theorem gyX8_nextField : GoodIn kAL wX8_nextField := al_1 al_414 al_0
def wX8_least : List Cond := .code yX8_least cX8_least 2 (some .int) :: kAL
theorem gyX8_least : GoodIn kAL wX8_least := al_1 al_426 al_0
def wX8_brings : List Cond := .code yX8_brings cX8_brings 5 none :: kAL
theorem gyX8_brings : GoodIn kAL wX8_brings := al_1 al_423 al_0
def wX8_crushes : List Cond := .code yX8_crushes cX8_crushes 6 none :: kAL
theorem gyX8_crushes : GoodIn kAL wX8_crushes := al_1 al_435 al_0
def wX8_mills : List Cond := .code yX8_mills cX8_mills 4 none :: kAL
theorem gyX8_mills : GoodIn kAL wX8_mills := al_1 al_432 al_0
def wX8_isStopped : List Cond := .code yX8_isStopped cX8_isStopped 3 (some .boolean) :: kAL
theorem gyX8_isStopped : GoodIn kAL wX8_isStopped := al_1 al_429 al_0
def wX8_day : List Cond := .code yX8_day cX8_day 4 none :: kAL
theorem gyX8_day : GoodIn kAL wX8_day := al_1 al_402 al_0
def wX8_days : List Cond := .code yX8_days cX8_days 4 none :: kAL
theorem gyX8_days : GoodIn kAL wX8_days := al_1 al_399 al_0
def wX8_isFor : List Cond := .code yX8_isFor cX8_isFor 2 (some .boolean) :: kAL
theorem gyX8_isFor : GoodIn kAL wX8_isFor := al_1 al_180 al_0
def wX8_changes : List Cond := .code yX8_changes cX8_changes 4 (some .int) :: kAL
theorem gyX8_changes : GoodIn kAL wX8_changes := al_1 al_192 al_0
def wX8_set : List Cond := .code yX8_set cX8_set 3 (some .int) :: kAL
theorem gyX8_set : GoodIn kAL wX8_set := al_1 al_174 al_0
def wX8_mayQuota : List Cond := .code yX8_mayQuota cX8_mayQuota 2 (some .int) :: kAL
theorem gyX8_mayQuota : GoodIn kAL wX8_mayQuota := al_1 al_211 al_0
def wX8_quota : List Cond := .code yX8_quota cX8_quota 4 (some .int) :: kAL
theorem gyX8_quota : GoodIn kAL wX8_quota := al_1 al_208 al_0
def wX8_mayLend : List Cond := .code yX8_mayLend cX8_mayLend 4 (some .int) :: kAL
theorem gyX8_mayLend : GoodIn kAL wX8_mayLend := al_1 al_230 al_0
def wX8_lends : List Cond := .code yX8_lends cX8_lends 4 (some .int) :: kAL
theorem gyX8_lends : GoodIn kAL wX8_lends := al_1 al_234 al_0
def wX8_lend : List Cond := .code yX8_lend cX8_lend 5 (some .int) :: kAL
theorem gyX8_lend : GoodIn kAL wX8_lend := al_1 al_226 al_0
def wX8_mayCome : List Cond := .code yX8_mayCome cX8_mayCome 5 (some .int) :: kAL
theorem gyX8_mayCome : GoodIn kAL wX8_mayCome := al_1 al_254 al_0
def wX8_comes : List Cond := .code yX8_comes cX8_comes 7 (some .int) :: kAL
theorem gyX8_comes : GoodIn kAL wX8_comes := al_1 al_258 al_0
def wX8_field : List Cond := .code yX8_field cX8_field 6 (some .int) :: kAL
theorem gyX8_field : GoodIn kAL wX8_field := al_1 al_250 al_0
def wX8_mayStop : List Cond := .code yX8_mayStop cX8_mayStop 3 (some .int) :: kAL
theorem gyX8_mayStop : GoodIn kAL wX8_mayStop := al_1 al_275 al_0
def wX8_stops : List Cond := .code yX8_stops cX8_stops 3 (some .int) :: kAL
theorem gyX8_stops : GoodIn kAL wX8_stops := al_1 al_282 al_0
def wX8_stop : List Cond := .code yX8_stop cX8_stop 4 (some .int) :: kAL
theorem gyX8_stop : GoodIn kAL wX8_stop := al_1 al_271 al_0
def wX8_dropStop : List Cond := .code yX8_dropStop cX8_dropStop 3 (some .int) :: kAL
theorem gyX8_dropStop : GoodIn kAL wX8_dropStop := al_1 al_294 al_0
def wX8_mayPass : List Cond := .code yX8_mayPass cX8_mayPass 2 (some .int) :: kAL
theorem gyX8_mayPass : GoodIn kAL wX8_mayPass := al_1 al_396 al_0
def wX8_pass : List Cond := .code yX8_pass cX8_pass 3 (some .int) :: kAL
theorem gyX8_pass : GoodIn kAL wX8_pass := al_1 al_392 al_0
def wX8_ofField : List Cond := .code yX8_ofField cX8_ofField 3 (some .int) :: kAL
theorem gyX8_ofField : GoodIn kAL wX8_ofField := al_1 al_453 al_0
def wX8_burnt : List Cond := .code yX8_burnt cX8_burnt 4 (some .int) :: kAL
theorem gyX8_burnt : GoodIn kAL wX8_burnt := al_1 al_474 al_0
def wX8_ofGrower : List Cond := .code yX8_ofGrower cX8_ofGrower 3 (some .int) :: kAL
theorem gyX8_ofGrower : GoodIn kAL wX8_ofGrower := al_1 al_470 al_0
def wX8_load : List Cond := .code yX8_load cX8_load 3 (some .int) :: kAL
theorem gyX8_load : GoodIn kAL wX8_load := al_1 al_487 al_0
def wX8_count : List Cond := .code yX8_count cX8_count 2 (some .int) :: kAL
theorem gyX8_count : GoodIn kAL wX8_count := al_1 al_516 al_0
def wX8_fields : List Cond := .code yX8_fields cX8_fields 5 (some .long) :: kAL
theorem gyX8_fields : GoodIn kAL wX8_fields := al_1 al_532 al_0
def wX8_next : List Cond := .code yX8_next cX8_next 1 (some .int) :: kAL
theorem gyX8_next : GoodIn kAL wX8_next := al_1 al_542 al_0
def wX8_tries : List Cond := .code yX8_tries cX8_tries 3 none :: kAL
theorem gyX8_tries : GoodIn kAL wX8_tries := al_1 al_564 al_0
def wX8_then : List Cond := .code yX8_then cX8_then 4 (some .int) :: kAL
theorem gyX8_then : GoodIn kAL wX8_then := al_1 al_560 al_0
def wX8_leastTrucks : List Cond := .code yX8_leastTrucks cX8_leastTrucks 3 (some .int) :: kAL
theorem gyX8_leastTrucks : GoodIn kAL wX8_leastTrucks := al_1 al_577 al_0
def wX8_stopCosts : List Cond := .code yX8_stopCosts cX8_stopCosts 4 (some .int) :: kAL
theorem gyX8_stopCosts : GoodIn kAL wX8_stopCosts := al_1 al_586 al_0
def wX8_byteOf : List Cond := .code yX8_byteOf cX8_byteOf 3 (some .int) :: kAL
theorem gyX8_byteOf : GoodIn kAL wX8_byteOf := al_1 al_610 al_0
def wX8_toldBy : List Cond := .code yX8_toldBy cX8_toldBy 4 (some .int) :: kAL
theorem gyX8_toldBy : GoodIn kAL wX8_toldBy := al_1 al_607 al_0
def wX8_put : List Cond := .code yX8_put cX8_put 5 (some .int) :: kAL
theorem gyX8_put : GoodIn kAL wX8_put := al_1 al_604 al_0
def wX8_wipe : List Cond := .code yX8_wipe cX8_wipe 2 (some .int) :: kAL
theorem gyX8_wipe : GoodIn kAL wX8_wipe := al_1 al_623 al_0
def wX8_isAt : List Cond := .code yX8_isAt cX8_isAt 3 (some .boolean) :: kAL
theorem gyX8_isAt : GoodIn kAL wX8_isAt := al_1 al_744 al_0
def wX8_isSign : List Cond := .code yX8_isSign cX8_isSign 3 (some .boolean) :: kAL
theorem gyX8_isSign : GoodIn kAL wX8_isSign := al_1 al_748 al_0
def wX8_isNumber : List Cond := .code yX8_isNumber cX8_isNumber 3 (some .boolean) :: kAL
theorem gyX8_isNumber : GoodIn kAL wX8_isNumber := al_1 al_752 al_0
def wX8_isDigit : List Cond := .code yX8_isDigit cX8_isDigit 2 (some .boolean) :: kAL
theorem gyX8_isDigit : GoodIn kAL wX8_isDigit := al_1 al_740 al_0
def wX8_isOrder : List Cond := .code yX8_isOrder cX8_isOrder 2 (some .boolean) :: kAL
theorem gyX8_isOrder : GoodIn kAL wX8_isOrder := al_1 al_736 al_0
def wX8_isText : List Cond := .code yX8_isText cX8_isText 2 (some .boolean) :: kAL
theorem gyX8_isText : GoodIn kAL wX8_isText := al_1 al_731 al_0
def wX8_fault : List Cond := .code yX8_fault cX8_fault 1 (some .int) :: kAL
theorem gyX8_fault : GoodIn kAL wX8_fault := al_1 al_726 al_0
def wX8_mayDo : List Cond := .code yX8_mayDo cX8_mayDo 6 (some .int) :: kAL
theorem gyX8_mayDo : GoodIn kAL wX8_mayDo := al_1 al_777 al_0
def wX8_does : List Cond := .code yX8_does cX8_does 7 (some .boolean) :: kAL
theorem gyX8_does : GoodIn kAL wX8_does := al_1 al_773 al_0
def wX8_carryOut : List Cond := .code yX8_carryOut cX8_carryOut 2 (some .int) :: kAL
theorem gyX8_carryOut : GoodIn kAL wX8_carryOut := al_1 al_769 al_0
end
section
/-- the private members that another class of the nest calls -/
def kNest : List (String × Nat × MethodName × String) := [(RX7, 9, yX3_init, "CaneQuotas"), (RX3, 17, yX1_init, "CaneQuotas"), (RX3, 24, yX0_init, "CaneQuotas"), (RX3, 31, yX5_init, "CaneQuotas"), (RX3, 38, yX6_init, "CaneQuotas"), (RX7, 21, yX2_init, "CaneQuotas"), (RX7, 32, yX4_init, "CaneQuotas"), (RX2, 24, yX3_init, "CaneQuotas"), (RX3, 43, yX7_copyRow, "CaneQuotas"), (RX1, 27, yX7_copyRow, "CaneQuotas"), (RX0, 40, yX7_copyRow, "CaneQuotas"), (RX5, 22, yX7_copyRow, "CaneQuotas"), (RX6, 28, yX7_copyRow, "CaneQuotas"), (RX3, 73, yX7_isWithin, "CaneQuotas"), (RX3, 83, yX7_isGrower, "CaneQuotas"), (RX5, 26, yX7_isWithin, "CaneQuotas"), (RX6, 32, yX7_isWithin, "CaneQuotas"), (RX1, 31, yX7_sumOf, "CaneQuotas"), (RX4, 29, yX7_isWithin, "CaneQuotas")]
theorem nest_0 : (RX7, 9, yX3_init, "CaneQuotas") ∈ kNest := List.mem_of_getElem? (i := 0) rfl
theorem nestT_0 : Cond.methodLinkNest RX7 9 yX3_init "CaneQuotas" ∈ lw_tbl := List.mem_of_getElem? (i := 61) (by decide +kernel)
theorem nest_1 : (RX3, 17, yX1_init, "CaneQuotas") ∈ kNest := List.mem_of_getElem? (i := 1) rfl
theorem nestT_1 : Cond.methodLinkNest RX3 17 yX1_init "CaneQuotas" ∈ lw_tbl := List.mem_of_getElem? (i := 67) (by decide +kernel)
theorem nest_2 : (RX3, 24, yX0_init, "CaneQuotas") ∈ kNest := List.mem_of_getElem? (i := 2) rfl
theorem nestT_2 : Cond.methodLinkNest RX3 24 yX0_init "CaneQuotas" ∈ lw_tbl := List.mem_of_getElem? (i := 95) (by decide +kernel)
theorem nest_3 : (RX3, 31, yX5_init, "CaneQuotas") ∈ kNest := List.mem_of_getElem? (i := 3) rfl
theorem nestT_3 : Cond.methodLinkNest RX3 31 yX5_init "CaneQuotas" ∈ lw_tbl := List.mem_of_getElem? (i := 139) (by decide +kernel)
theorem nest_4 : (RX3, 38, yX6_init, "CaneQuotas") ∈ kNest := List.mem_of_getElem? (i := 4) rfl
theorem nestT_4 : Cond.methodLinkNest RX3 38 yX6_init "CaneQuotas" ∈ lw_tbl := List.mem_of_getElem? (i := 156) (by decide +kernel)
theorem nest_5 : (RX7, 21, yX2_init, "CaneQuotas") ∈ kNest := List.mem_of_getElem? (i := 5) rfl
theorem nestT_5 : Cond.methodLinkNest RX7 21 yX2_init "CaneQuotas" ∈ lw_tbl := List.mem_of_getElem? (i := 217) (by decide +kernel)
theorem nest_6 : (RX7, 32, yX4_init, "CaneQuotas") ∈ kNest := List.mem_of_getElem? (i := 6) rfl
theorem nestT_6 : Cond.methodLinkNest RX7 32 yX4_init "CaneQuotas" ∈ lw_tbl := List.mem_of_getElem? (i := 236) (by decide +kernel)
theorem nest_7 : (RX2, 24, yX3_init, "CaneQuotas") ∈ kNest := List.mem_of_getElem? (i := 7) rfl
theorem nestT_7 : Cond.methodLinkNest RX2 24 yX3_init "CaneQuotas" ∈ lw_tbl := List.mem_of_getElem? (i := 287) (by decide +kernel)
theorem nest_8 : (RX3, 43, yX7_copyRow, "CaneQuotas") ∈ kNest := List.mem_of_getElem? (i := 8) rfl
theorem nestT_8 : Cond.methodLinkNest RX3 43 yX7_copyRow "CaneQuotas" ∈ lw_tbl := List.mem_of_getElem? (i := 292) (by decide +kernel)
theorem nest_9 : (RX1, 27, yX7_copyRow, "CaneQuotas") ∈ kNest := List.mem_of_getElem? (i := 9) rfl
theorem nestT_9 : Cond.methodLinkNest RX1 27 yX7_copyRow "CaneQuotas" ∈ lw_tbl := List.mem_of_getElem? (i := 305) (by decide +kernel)
theorem nest_10 : (RX0, 40, yX7_copyRow, "CaneQuotas") ∈ kNest := List.mem_of_getElem? (i := 10) rfl
theorem nestT_10 : Cond.methodLinkNest RX0 40 yX7_copyRow "CaneQuotas" ∈ lw_tbl := List.mem_of_getElem? (i := 310) (by decide +kernel)
theorem nest_11 : (RX5, 22, yX7_copyRow, "CaneQuotas") ∈ kNest := List.mem_of_getElem? (i := 11) rfl
theorem nestT_11 : Cond.methodLinkNest RX5 22 yX7_copyRow "CaneQuotas" ∈ lw_tbl := List.mem_of_getElem? (i := 315) (by decide +kernel)
theorem nest_12 : (RX6, 28, yX7_copyRow, "CaneQuotas") ∈ kNest := List.mem_of_getElem? (i := 12) rfl
theorem nestT_12 : Cond.methodLinkNest RX6 28 yX7_copyRow "CaneQuotas" ∈ lw_tbl := List.mem_of_getElem? (i := 320) (by decide +kernel)
theorem nest_13 : (RX3, 73, yX7_isWithin, "CaneQuotas") ∈ kNest := List.mem_of_getElem? (i := 13) rfl
theorem nestT_13 : Cond.methodLinkNest RX3 73 yX7_isWithin "CaneQuotas" ∈ lw_tbl := List.mem_of_getElem? (i := 325) (by decide +kernel)
theorem nest_14 : (RX3, 83, yX7_isGrower, "CaneQuotas") ∈ kNest := List.mem_of_getElem? (i := 14) rfl
theorem nestT_14 : Cond.methodLinkNest RX3 83 yX7_isGrower "CaneQuotas" ∈ lw_tbl := List.mem_of_getElem? (i := 344) (by decide +kernel)
theorem nest_15 : (RX5, 26, yX7_isWithin, "CaneQuotas") ∈ kNest := List.mem_of_getElem? (i := 15) rfl
theorem nestT_15 : Cond.methodLinkNest RX5 26 yX7_isWithin "CaneQuotas" ∈ lw_tbl := List.mem_of_getElem? (i := 376) (by decide +kernel)
theorem nest_16 : (RX6, 32, yX7_isWithin, "CaneQuotas") ∈ kNest := List.mem_of_getElem? (i := 16) rfl
theorem nestT_16 : Cond.methodLinkNest RX6 32 yX7_isWithin "CaneQuotas" ∈ lw_tbl := List.mem_of_getElem? (i := 461) (by decide +kernel)
theorem nest_17 : (RX1, 31, yX7_sumOf, "CaneQuotas") ∈ kNest := List.mem_of_getElem? (i := 17) rfl
theorem nestT_17 : Cond.methodLinkNest RX1 31 yX7_sumOf "CaneQuotas" ∈ lw_tbl := List.mem_of_getElem? (i := 507) (by decide +kernel)
theorem nest_18 : (RX4, 29, yX7_isWithin, "CaneQuotas") ∈ kNest := List.mem_of_getElem? (i := 18) rfl
theorem nestT_18 : Cond.methodLinkNest RX4 29 yX7_isWithin "CaneQuotas" ∈ lw_tbl := List.mem_of_getElem? (i := 569) (by decide +kernel)
theorem nest_tbl : ∀ q ∈ kNest, Cond.methodLinkNest q.1 q.2.1 q.2.2.1 q.2.2.2 ∈ lw_tbl := List.forall_mem_cons.mpr ⟨nestT_0, List.forall_mem_cons.mpr ⟨nestT_1, List.forall_mem_cons.mpr ⟨nestT_2, List.forall_mem_cons.mpr ⟨nestT_3, List.forall_mem_cons.mpr ⟨nestT_4, List.forall_mem_cons.mpr ⟨nestT_5, List.forall_mem_cons.mpr ⟨nestT_6, List.forall_mem_cons.mpr ⟨nestT_7, List.forall_mem_cons.mpr ⟨nestT_8, List.forall_mem_cons.mpr ⟨nestT_9, List.forall_mem_cons.mpr ⟨nestT_10, List.forall_mem_cons.mpr ⟨nestT_11, List.forall_mem_cons.mpr ⟨nestT_12, List.forall_mem_cons.mpr ⟨nestT_13, List.forall_mem_cons.mpr ⟨nestT_14, List.forall_mem_cons.mpr ⟨nestT_15, List.forall_mem_cons.mpr ⟨nestT_16, List.forall_mem_cons.mpr ⟨nestT_17, List.forall_mem_cons.mpr ⟨nestT_18, fun _ h => absurd h List.not_mem_nil⟩⟩⟩⟩⟩⟩⟩⟩⟩⟩⟩⟩⟩⟩⟩⟩⟩⟩⟩
end
section
/-! the judgement in one form: a contract of a method over a world, its entry, its returns, its calls -/
abbrev kT (Y : Nat → ClassId) : List (ClassId × FieldType) := [(Y 0, .int), (Y 1, .char), (Y 2, .boolean), (Y 3, .object RX3)]
abbrev kR (f c s l : Nat) : Room := { frames := f, cells := c, slots := s, locals := l }
/-- the nest's links are there -/
def kNs (U : State) : Prop := ∀ q ∈ kNest, va_Nw (.methodLinkNest q.1 q.2.1 q.2.2.1 q.2.2.2) U
theorem kNs.warm {s U : State} (h : kNs s) (hW : s.WarmedH U.vm) : kNs U := fun q hq => va_Nw.warmM hW (h q hq)
theorem kNs.same {u U : State} (h : kNs u) (e : u.vm = U.vm) : kNs U := fun q hq => va_Nw.same rfl e (h q hq)
/-- what holds of a start: the size, the world, the tables, that the cells are apart, and something more -/
def kPc (D : va_G) (Y : Nat → ClassId) (ws : va_W) (av : List Value) (X : Nat → State → Prop) (sz : Nat) : Array Value → State → Prop := va_Pc av (fun U => U.heap.size = sz ∧ va_P D vwCl ws U.heap ∧ va_K D vwCl (kT Y) U ∧ kNs U ∧ va_D (fun _ => True) ws ∧ X sz U)
def kX0 : Nat → State → Prop := fun _ _ => True
/-- the extra part says nothing of the frames -/
def kXb (X : Nat → State → Prop) : Prop := ∀ (sz : Nat) (a : Array Value) (U : State) (g : JFrame) (mk : MethodId), X sz U → X sz (U.calling g mk a)
theorem kX0b : kXb kX0 := fun _ _ _ _ _ _ => trivial
/-- a contract -/
def kM (l : Launch) (y : MethodName) (wsy : List Cond) (rm : Room) (D : va_G) (Y : Nat → ClassId) (ws : va_W) (av : List Value) (X : Nat → State → Prop) (Qc : (Nat → Prop) → Array Value → State → Outcome → State → Prop) : Prop :=
  ∀ sz : Nat, Met l y wsy rm (kPc D Y ws av X sz) (Qc (va_A ws sz)) rm.cells rm.slots (va_A ws sz)
abbrev kQi {S : Type} (D : va_G) (post : Int32 → S → Prop) (w1 : S → va_W) : (Nat → Prop) → Array Value → State → Outcome → State → Prop := fun A => va_Qi post (fun u t => va_P D vwCl (w1 u) t.heap) A
abbrev kQl {S : Type} (D : va_G) (post : Int64 → S → Prop) (w1 : S → va_W) : (Nat → Prop) → Array Value → State → Outcome → State → Prop := fun A => va_Ql post (fun u t => va_P D vwCl (w1 u) t.heap) A
abbrev kQv {S : Type} (D : va_G) (post : S → Prop) (w1 : S → va_W) : (Nat → Prop) → Array Value → State → Outcome → State → Prop := fun A => va_Qv post (fun u t => va_P D vwCl (w1 u) t.heap) A
/-- of a method that makes cells: the new world is apart, and lies in what is its own -/
abbrev kQvn {S : Type} (D : va_G) (post : S → Prop) (w1 : S → va_W) : (Nat → Prop) → Array Value → State → Outcome → State → Prop := fun A => va_Qv post (fun u t => va_P D vwCl (w1 u) t.heap ∧ va_D A (w1 u)) A
abbrev kQin {S : Type} (D : va_G) (post : Int32 → S → Prop) (w1 : S → va_W) : (Nat → Prop) → Array Value → State → Outcome → State → Prop := fun A => va_Qi post (fun u t => va_P D vwCl (w1 u) t.heap ∧ va_D A (w1 u)) A
theorem kPc_blind {D : va_G} {Y : Nat → ClassId} {ws : va_W} {av : List Value} {X : Nat → State → Prop} (hX : kXb X) (sz : Nat) : FrameBlind (kPc D Y ws av X sz) := by
  intro a U g mk q
  obtain ⟨q0, q1, q2, q3, q6, q4, q5⟩ := q
  exact ⟨q0, q1, q2, va_K.moved (u := U) (U := U.calling g mk a) (Vm.Alike.refl U.vm) q3, q6.same rfl, q4, hX _ _ _ _ _ q5⟩
set_option maxHeartbeats 4000000 in
theorem kentry {l : Launch} {y : MethodName} {wsy : List Cond} {rm : Room} {D : va_G} {Y : Nat → ClassId} {ws : va_W} {av : List Value} {X : Nat → State → Prop} {Qc : (Nat → Prop) → Array Value → State → Outcome → State → Prop} {cc : ByteArray} {maxL : Nat} {ret : Option FieldType}
    (hy : plainName y.cls = true) (hw : wsy = Cond.code y cc maxL ret :: kAL) (hlen : (lg_sl av).length ≤ maxL)
    (body : ∀ (p : Program) (e : Env) (s : State) (m : MethodId) (args : Array Value) (below : List Frame) (meth : Method) (c : Code) (A : Nat → Prop) (Q : State → Prop) (ls : Array Slot),
      Q = MQ below (Qc A) args s rm.cells rm.slots A → p.tables.exec = Jvm.exec → c.code = cc → meth.sig.returnType = ret → meth.locks = false → c.maxLocals = maxL → s.vm.findClass y.cls = some m.cls → meth.name = y.name →
      (∀ w ∈ kAL, w.before args s = true) → (∀ q : Nat, s.heap.size ≤ q → A q) → X s.heap.size s → va_K D vwCl (kT Y) s → kNs s → va_P D vwCl ws s.heap → va_D A ws → va_S A s.heap s.heap [] → lv_has ls maxL (lv_args 0 av) →
      W p l e rm s m args below meth c s.heap [] 0 0 Q (F0 m 0 ls [])) : kM l y wsy rm D Y ws av X Qc := by
  intro sz
  refine Met.ofW (cc := cc) (maxL := maxL) (ret := ret) hy hw ?_
  intro p e s m args below meth c s₁ B hml hv
  obtain ⟨rfl, hsz, hP, hK, hNs, hD0, hX⟩ := hv
  subst hsz
  have hts := atoms_spec (ws := wsy) B.pre
  have hD := hD0.self (sz := s.heap.size)
  have hl := lv_entry av (n := maxL) hlen
  rw [lg_entry_eq]
  exact body p e s m av.toArray below meth c (va_A ws s.heap.size) _ _ rfl B.exec B.bytes B.returns B.notSynchronized hml (findClass_of_methodNamed B.named) (name_of_methodNamed B.named B.method).1 (fun w h => hts w (by rw [hw]; exact List.mem_cons_of_mem _ h)) (fun q h => Or.inr h) hX hK hNs hP hD va_S.rf hl
section KR
variable {p : Program} {l : Launch} {e : Env} {R : Room} {s : State} {m : MethodId} {args : Array Value} {below : List Frame} {meth : Method} {c : Code} {H : Heap} {locs : List Loc} {cells slots : Nat} {Q : State → Prop}
variable {cc : ByteArray} {pc : Nat} {ls : Array Slot} {D : va_G} {A : Nat → Prop} {S : Type}
theorem kiret {post : Int32 → S → Prop} {w1 : S → va_W} {v : Int32} (u : S) (hQ : Q = MQ below (kQi D post w1 A) args s cells slots A) (hx : p.tables.exec = Jvm.exec) (hb : c.code = cc) (hr : meth.sig.returnType = some .int) (hlocks : meth.locks = false) (hP : va_P D vwCl (w1 u) H) (hS : va_S A s.heap H locs) (hdg : decode cc pc = .ok (.ireturn, 1)) (hpost : post v u) : W p l e R s m args below meth c H locs cells slots Q (F0 m pc ls [.int v]) := by
  rw [hQ]
  exact W.iret hx hb hr (fun t ht hW => ⟨⟨v, u, rfl, hpost, by show va_P D vwCl (w1 u) t.heap; rw [ht]; exact hP⟩, hS.F ht⟩) hS.2.2 hdg hlocks
theorem kzret {post : Int32 → S → Prop} {w1 : S → va_W} {v : Int32} (u : S) (hQ : Q = MQ below (kQi D post w1 A) args s cells slots A) (hx : p.tables.exec = Jvm.exec) (hb : c.code = cc) (hr : meth.sig.returnType = some .boolean) (hlocks : meth.locks = false) (hP : va_P D vwCl (w1 u) H) (hS : va_S A s.heap H locs) (hdg : decode cc pc = .ok (.ireturn, 1)) (hn : v = 0 ∨ v = 1) (hpost : post v u) : W p l e R s m args below meth c H locs cells slots Q (F0 m pc ls [.int v]) := by
  rw [hQ]
  exact W.zret hx hb hr (by rcases hn with rfl | rfl <;> rfl) (fun t ht hW => ⟨⟨v, u, rfl, hpost, by show va_P D vwCl (w1 u) t.heap; rw [ht]; exact hP⟩, hS.F ht⟩) hS.2.2 hdg hlocks
theorem kvret {post : S → Prop} {w1 : S → va_W} (u : S) (hQ : Q = MQ below (kQv D post w1 A) args s cells slots A) (hx : p.tables.exec = Jvm.exec) (hb : c.code = cc) (hr : meth.sig.returnType = none) (hlocks : meth.locks = false) (hP : va_P D vwCl (w1 u) H) (hS : va_S A s.heap H locs) (hdg : decode cc pc = .ok (.return_, 1)) (hpost : post u) : W p l e R s m args below meth c H locs cells slots Q (F0 m pc ls []) := by
  rw [hQ]
  exact W.vret hx hb hr (fun t ht hW => ⟨⟨u, rfl, hpost, by show va_P D vwCl (w1 u) t.heap; rw [ht]; exact hP⟩, hS.F ht⟩) hS.2.2 hdg hlocks
theorem klret {post : Int64 → S → Prop} {w1 : S → va_W} {v : Int64} (u : S) (hQ : Q = MQ below (kQl D post w1 A) args s cells slots A) (hx : p.tables.exec = Jvm.exec) (hb : c.code = cc) (hr : meth.sig.returnType = some .long) (hlocks : meth.locks = false) (hP : va_P D vwCl (w1 u) H) (hS : va_S A s.heap H locs) (hdg : decode cc pc = .ok (.lreturn, 1)) (hpost : post v u) : W p l e R s m args below meth c H locs cells slots Q (F0 m pc ls [.long v]) := by
  rw [hQ]
  exact W.lret hx hb hr (fun t ht hW => ⟨⟨v, u, rfl, hpost, by show va_P D vwCl (w1 u) t.heap; rw [ht]; exact hP⟩, hS.F ht⟩) hS.2.2 hdg hlocks
theorem kvretn {post : S → Prop} {w1 : S → va_W} (u : S) (hQ : Q = MQ below (kQvn D post w1 A) args s cells slots A) (hx : p.tables.exec = Jvm.exec) (hb : c.code = cc) (hr : meth.sig.returnType = none) (hlocks : meth.locks = false) (hP : va_P D vwCl (w1 u) H) (hD : va_D A (w1 u)) (hS : va_S A s.heap H locs) (hdg : decode cc pc = .ok (.return_, 1)) (hpost : post u) : W p l e R s m args below meth c H locs cells slots Q (F0 m pc ls []) := by
  rw [hQ]
  exact W.vret hx hb hr (fun t ht hW => ⟨⟨u, rfl, hpost, (by show va_P D vwCl (w1 u) t.heap; rw [ht]; exact hP), hD⟩, hS.F ht⟩) hS.2.2 hdg hlocks
theorem kiretn {post : Int32 → S → Prop} {w1 : S → va_W} {v : Int32} (u : S) (hQ : Q = MQ below (kQin D post w1 A) args s cells slots A) (hx : p.tables.exec = Jvm.exec) (hb : c.code = cc) (hr : meth.sig.returnType = some .int) (hlocks : meth.locks = false) (hP : va_P D vwCl (w1 u) H) (hD : va_D A (w1 u)) (hS : va_S A s.heap H locs) (hdg : decode cc pc = .ok (.ireturn, 1)) (hpost : post v u) : W p l e R s m args below meth c H locs cells slots Q (F0 m pc ls [.int v]) := by
  rw [hQ]
  exact W.iret hx hb hr (fun t ht hW => ⟨⟨v, u, rfl, hpost, (by show va_P D vwCl (w1 u) t.heap; rw [ht]; exact hP), hD⟩, hS.F ht⟩) hS.2.2 hdg hlocks
end KR
/-- a world with some places put anew -/
def kset (ws : va_W) : List Nat → va_W → va_W
  | i :: is, c :: cs => kset (ws.set i c) is cs
  | _, _ => ws
theorem kset_D {A : Nat → Prop} : ∀ (is : List Nat) (ws wc w1 : va_W), is.map (fun i => ws[i]?) = wc.map some → w1.map (·.1) = wc.map (·.1) → va_nd is = true → va_D A ws → va_D A (kset ws is w1)
  | [], ws, wc, w1, _, _, _, hD => by cases w1 <;> exact hD
  | i :: is, ws, [], w1, h, _, _, _ => by simp at h
  | i :: is, ws, c :: wc, [], _, h2, _, _ => by simp at h2
  | i :: is, ws, c :: wc, d :: w1, h, h2, h3, hD => by
    simp only [List.map_cons, List.cons.injEq] at h h2
    obtain ⟨a, e⟩ := d
    obtain ⟨a0, e0⟩ := c
    obtain ⟨h2a, h2b⟩ := h2
    subst h2a
    have hni : ∀ j ∈ is, j ≠ i := by
      intro j hj hji
      subst hji
      obtain ⟨k, hk⟩ := List.getElem?_of_mem hj
      have := va_nd_inj (j :: is) h3 0 (k + 1) j rfl hk
      omega
    refine kset_D is (ws.set i (a, e)) wc w1 ?_ h2b ?_ (hD.set h.1)
    · rw [← h.2]
      apply List.map_congr_left
      intro j hj
      exact List.getElem?_set_ne (fun z => hni j hj z.symm)
    · simp only [va_nd, Bool.and_eq_true] at h3
      exact h3.2
theorem kset_get : ∀ (is : List Nat) (ws wc w1 : va_W) (k : Nat) (q : Nat × va_E), is.map (fun i => ws[i]?) = wc.map some → w1.map (·.1) = wc.map (·.1) → va_nd is = true → (kset ws is w1)[k]? = some q → (k ∉ is ∧ ws[k]? = some q) ∨ ∃ j : Nat, w1[j]? = some q
  | [], ws, wc, w1, k, q, _, _, _, hk => by cases w1 <;> exact Or.inl ⟨List.not_mem_nil, hk⟩
  | i :: is, ws, [], w1, k, q, h, _, _, _ => by simp at h
  | i :: is, ws, c :: wc, [], k, q, _, h2, _, _ => by simp at h2
  | i :: is, ws, c :: wc, d :: w1, k, q, h, h2, h3, hk => by
    simp only [List.map_cons, List.cons.injEq] at h h2
    have hni : ∀ j ∈ is, j ≠ i := by
      intro j hj hji
      subst hji
      obtain ⟨k, hk⟩ := List.getElem?_of_mem hj
      have := va_nd_inj (j :: is) h3 0 (k + 1) j rfl hk
      omega
    have h3' : va_nd is = true := by
      simp only [va_nd, Bool.and_eq_true] at h3
      exact h3.2
    have hm : is.map (fun j => (ws.set i d)[j]?) = wc.map some := by
      rw [← h.2]
      apply List.map_congr_left
      intro j hj
      exact List.getElem?_set_ne (fun z => hni j hj z.symm)
    rcases kset_get is (ws.set i d) wc w1 k q hm h2.2 h3' hk with ⟨h4, h5⟩ | ⟨j, hj⟩
    · by_cases hki : k = i
      · subst hki
        have hl := (List.getElem?_eq_some_iff.mp h.1).1
        rw [List.getElem?_set_self hl] at h5
        exact Or.inr ⟨0, h5⟩
      · rw [List.getElem?_set_ne (Ne.symm hki)] at h5
        refine Or.inl ⟨fun hh => ?_, h5⟩
        rcases List.mem_cons.mp hh with z | z
        · exact hki z
        · exact h4 z
    · exact Or.inr ⟨j + 1, hj⟩
theorem kset_P {D : va_G} {cl : List vw_C} {A : Nat → Prop} {is : List Nat} {ws wc w1 : va_W} {H H1 : Heap} (hC : is.map (fun i => ws[i]?) = wc.map some) (ha : w1.map (·.1) = wc.map (·.1)) (hn : va_nd is = true) (hP : va_P D cl ws H) (hD : va_D A ws) (hP1 : va_P D cl w1 H1) (hk : ∀ q : Nat, q < H.size → ¬ va_A wc H.size q → H1[q]? = H[q]?) : va_P D cl (kset ws is w1) H1 := by
  intro k q hq
  rcases kset_get is ws wc w1 k q hC ha hn hq with ⟨h1, h2⟩ | ⟨j, hj⟩
  · have hl := (hP k q h2).lt
    refine (hP k q h2).kept (hk q.1 hl ?_)
    rintro (⟨k2, e, h⟩ | h)
    · have h3 : (is.map (fun i => ws[i]?))[k2]? = some (some (q.1, e)) := by rw [hC, List.getElem?_map, h]; rfl
      rw [List.getElem?_map] at h3
      cases hi : is[k2]? with
      | none => rw [hi] at h3; cases h3
      | some i =>
        rw [hi] at h3
        have hij := hD.1 k i q (q.1, e) h2 (Option.some.inj h3) rfl
        subst hij
        exact h1 (List.mem_of_getElem? hi)
    · omega
  · exact hP1 j q hj
theorem kfm {f : Nat → Option (Nat × va_E)} : ∀ (is : List Nat) (wc : va_W), is.map f = wc.map some → is.filterMap f = wc
  | [], [], _ => rfl
  | [], _ :: _, h => by simp at h
  | _ :: _, [], h => by simp at h
  | i :: is, c :: wc, h => by
    simp only [List.map_cons, List.cons.injEq] at h
    rw [List.filterMap_cons, h.1, kfm is wc h.2]
theorem kD_same {A : Nat → Prop} {ws w1 : va_W} (h : w1.map (·.1) = ws.map (·.1)) (hD : va_D A ws) : va_D A w1 := by
  have key : ∀ (k : Nat) (q : Nat × va_E), w1[k]? = some q → ∃ q0, ws[k]? = some q0 ∧ q0.1 = q.1 := by
    intro k q hk
    have h1 : (w1.map (·.1))[k]? = some q.1 := by rw [List.getElem?_map, hk]; rfl
    rw [h, List.getElem?_map] at h1
    cases hw : ws[k]? with
    | none => rw [hw] at h1; cases h1
    | some q0 => rw [hw] at h1; exact ⟨q0, rfl, Option.some.inj h1⟩
  refine ⟨fun i j x y hi hj hxy => ?_, fun k q hk => ?_⟩
  · obtain ⟨x0, h1, h2⟩ := key i x hi
    obtain ⟨y0, h3, h4⟩ := key j y hj
    exact hD.1 i j x0 y0 h1 h3 (h2.trans (hxy.trans h4.symm))
  · obtain ⟨q0, h1, h2⟩ := key k q hk
    rw [← h2]
    exact hD.2 k q0 h1
/-- a callee's world in the caller's: what it is given, and what the caller has behind it -/
def kJ (D : va_G) (A : Nat → Prop) (ws wc : va_W) (f : va_W → va_W) : Prop := ∀ H : Heap, va_P D vwCl ws H → va_D A ws → (va_P D vwCl wc H ∧ va_D A wc) ∧ ∀ (w1 : va_W) (H1 : Heap), w1.map (·.1) = wc.map (·.1) → va_P D vwCl w1 H1 → (∀ q : Nat, q < H.size → ¬ va_A wc H.size q → H1[q]? = H[q]?) → va_P D vwCl (f w1) H1 ∧ va_D A (f w1)
theorem kJ_all {D : va_G} {A : Nat → Prop} {ws : va_W} : kJ D A ws ws (fun w => w) := fun _ hP hD => ⟨⟨hP, hD⟩, fun _ _ ha hP1 _ => ⟨hP1, kD_same ha hD⟩⟩
theorem kJ_sub {D : va_G} {A : Nat → Prop} {ws wc : va_W} (isC : List Nat) (hC : isC.map (fun i => ws[i]?) = wc.map some) (hn : va_nd isC = true) : kJ D A ws wc (kset ws isC) := fun _ hP hD => ⟨⟨hP.sub isC (kfm isC wc hC), hD.sub isC hn hC⟩, fun w1 _ ha hP1 hk => ⟨kset_P hC ha hn hP hD hP1 hk, kset_D isC ws wc w1 hC ha hn hD⟩⟩
theorem kP_l {D : va_G} {a b : va_W} {H : Heap} (h : va_P D vwCl (a ++ b) H) : va_P D vwCl a H := fun k q hk => h k q (by rw [List.getElem?_append_left (List.getElem?_eq_some_iff.mp hk).1]; exact hk)
theorem kP_r {D : va_G} {a b : va_W} {H : Heap} (h : va_P D vwCl (a ++ b) H) : va_P D vwCl b H := fun k q hk => h (a.length + k) q (by rw [List.getElem?_append_right (by omega), Nat.add_sub_cancel_left]; exact hk)
theorem kD_l {A : Nat → Prop} {a b : va_W} (h : va_D A (a ++ b)) : va_D A a := by
  have z : ∀ (k : Nat) (q : Nat × va_E), a[k]? = some q → (a ++ b)[k]? = some q := fun k q hk => by rw [List.getElem?_append_left (List.getElem?_eq_some_iff.mp hk).1]; exact hk
  exact ⟨fun i j x y hi hj hxy => h.1 i j x y (z i x hi) (z j y hj) hxy, fun k q hk => h.2 k q (z k q hk)⟩
theorem kD_r {A : Nat → Prop} {a b : va_W} (h : va_D A (a ++ b)) : va_D A b := by
  have z : ∀ (k : Nat) (q : Nat × va_E), b[k]? = some q → (a ++ b)[a.length + k]? = some q := fun k q hk => by rw [List.getElem?_append_right (by omega), Nat.add_sub_cancel_left]; exact hk
  refine ⟨fun i j x y hi hj hxy => ?_, fun k q hk => h.2 _ q (z k q hk)⟩
  have := h.1 _ _ x y (z i x hi) (z j y hj) hxy
  omega
theorem kD_apart {A : Nat → Prop} {a b : va_W} (h : va_D A (a ++ b)) (i j : Nat) (p q : Nat × va_E) (hi : a[i]? = some p) (hj : b[j]? = some q) : p.1 ≠ q.1 := by
  intro e
  have hl := (List.getElem?_eq_some_iff.mp hi).1
  have := h.1 i (a.length + j) p q (by rw [List.getElem?_append_left hl]; exact hi) (by rw [List.getElem?_append_right (by omega), Nat.add_sub_cancel_left]; exact hj) e
  omega
theorem kP_stay {D : va_G} {A : Nat → Prop} {a b wc : va_W} {H H1 : Heap} (hP : va_P D vwCl b H) (hx : ∀ (i j : Nat) (p q : Nat × va_E), wc[i]? = some p → b[j]? = some q → p.1 ≠ q.1) (hk : ∀ q : Nat, q < H.size → ¬ va_A wc H.size q → H1[q]? = H[q]?) : va_P D vwCl b H1 := by
  intro k q hq
  have hl := (hP k q hq).lt
  refine (hP k q hq).kept (hk q.1 hl ?_)
  rintro (⟨i, e, h⟩ | h)
  · exact hx i k (q.1, e) q h hq rfl
  · omega
theorem kfst {a b : va_W} (h : a.map (·.1) = b.map (·.1)) {i : Nat} {p : Nat × va_E} (hi : a[i]? = some p) : ∃ p0, b[i]? = some p0 ∧ p0.1 = p.1 := by
  have h1 : (a.map (·.1))[i]? = some p.1 := by rw [List.getElem?_map, hi]; rfl
  rw [h, List.getElem?_map] at h1
  cases hw : b[i]? with
  | none => rw [hw] at h1; cases h1
  | some q0 => rw [hw] at h1; exact ⟨q0, rfl, Option.some.inj h1⟩
theorem kJ_l {D : va_G} {A : Nat → Prop} {wc b : va_W} : kJ D A (wc ++ b) wc (fun w => w ++ b) := by
  intro H hP hD
  refine ⟨⟨kP_l hP, kD_l hD⟩, fun w1 H1 ha hP1 hk => ⟨va_P.app hP1 (kP_stay (A := A) (a := wc) (kP_r hP) (fun i j p q hi hj => kD_apart hD i j p q hi hj) hk), kD_same ?_ hD⟩⟩
  rw [List.map_append, List.map_append, ha]
theorem kJ_r {D : va_G} {A : Nat → Prop} {ws wc b : va_W} {f : va_W → va_W} (hf : ∀ w1 : va_W, w1.map (·.1) = wc.map (·.1) → (f w1).map (·.1) = ws.map (·.1)) (hs : ∀ q ∈ wc.map (·.1), q ∈ ws.map (·.1)) (J : kJ D A ws wc f) : kJ D A (b ++ ws) wc (fun w => b ++ f w) := by
  intro H hP hD
  obtain ⟨h1, h2⟩ := J H (kP_r hP) (kD_r hD)
  refine ⟨h1, fun w1 H1 ha hP1 hk => ⟨va_P.app (kP_stay (A := A) (a := wc) (kP_l hP) (fun i j p q hi hj e => ?_) hk) (h2 w1 H1 ha hP1 hk).1, kD_same ?_ hD⟩⟩
  · have hm : p.1 ∈ ws.map (·.1) := hs p.1 (List.mem_map.mpr ⟨p, List.mem_of_getElem? hi, rfl⟩)
    obtain ⟨p2, hp2, e2⟩ := List.mem_map.mp hm
    obtain ⟨k, hk2⟩ := List.getElem?_of_mem hp2
    exact kD_apart hD j k q p2 hj hk2 (e.symm.trans e2.symm)
  · rw [List.map_append, List.map_append, hf w1 ha]
section KC
variable {p : Program} {l : Launch} {e : Env} {R : Room} {s : State} {m : MethodId} {args : Array Value} {below : List Frame} {meth : Method} {c : Code} {H : Heap} {locs : List Loc} {cells slots : Nat} {Q : State → Prop}
variable {cc : ByteArray} {pc : Nat} {ls : Array Slot} {rest st0 : List Value} {D : va_G} {Y : Nat → ClassId} {A : Nat → Prop} {H0 : Heap} {S : Type} {a : Array Value} {mc ms : Nat}
variable {y : MethodName} {bytes : ByteArray} {maxL nL n index : Nat} {ret : Option FieldType} {wsy : List Cond} {rm : Room} {own C : String} {b : Nat} {As : List Value} {ws wc : va_W} {f : va_W → va_W} {X : Nat → State → Prop} {Qc : (Nat → Prop) → Array Value → State → Outcome → State → Prop}
theorem kfree (hD : va_D A wc) (hS : va_S A H0 H locs) (hA : ∀ q : Nat, H0.size ≤ q → A q) : ∀ q, va_A wc H.size q → A q := by
  rintro q (⟨k, e, h⟩ | h)
  · exact hD.2 k (q, e) h
  · exact hA q (Nat.le_trans hS.1 h)
/-- the world behind a call, of a callee that makes nothing: an int -/
theorem kc_i {post : Int32 → S → Prop} {w1 : S → va_W} (hr : va_Run p l e R s m args below meth c H locs cells slots mc ms (F0 m pc ls st0) rest (kQi D post w1 (va_A wc H.size) a) (va_A wc H.size)) (hP : va_P D vwCl ws H) (hD : va_D A ws) (hS : va_S A H0 H locs) (hA : ∀ q : Nat, H0.size ≤ q → A q) (J : kJ D A ws wc f) (ha : ∀ u, (w1 u).map (·.1) = wc.map (·.1))
    (kk : ∀ (r : Int32) (u : S) (H1 : Heap) (locs1 : List Loc), post r u → va_P D vwCl (f (w1 u)) H1 → va_D A (f (w1 u)) → va_S A H0 H1 locs1 → W p l e R s m args below meth c H1 locs1 (cells + mc) (slots + ms) Q (F0 m (pc + 3) ls (.int r :: rest))) : W p l e R s m args below meth c H locs cells slots Q (F0 m pc ls st0) := by
  obtain ⟨j1, j2⟩ := J H hP hD
  have hF := kfree j1.2 hS hA
  refine va_calli hr hS (fun q _ h => hF q h) hF (fun r u t H1 locs1 ht hvm hw hB hz hk hS1 => ?_)
  have hB : va_P D vwCl (w1 u) t.heap := hB
  rw [ht] at hB
  obtain ⟨z1, z2⟩ := j2 (w1 u) H1 (ha u) hB hk
  exact kk r u H1 locs1 hw z1 z2 hS1
theorem kc_l {post : Int64 → S → Prop} {w1 : S → va_W} (hr : va_Run p l e R s m args below meth c H locs cells slots mc ms (F0 m pc ls st0) rest (kQl D post w1 (va_A wc H.size) a) (va_A wc H.size)) (hP : va_P D vwCl ws H) (hD : va_D A ws) (hS : va_S A H0 H locs) (hA : ∀ q : Nat, H0.size ≤ q → A q) (J : kJ D A ws wc f) (ha : ∀ u, (w1 u).map (·.1) = wc.map (·.1))
    (kk : ∀ (r : Int64) (u : S) (H1 : Heap) (locs1 : List Loc), post r u → va_P D vwCl (f (w1 u)) H1 → va_D A (f (w1 u)) → va_S A H0 H1 locs1 → W p l e R s m args below meth c H1 locs1 (cells + mc) (slots + ms) Q (F0 m (pc + 3) ls (.long r :: rest))) : W p l e R s m args below meth c H locs cells slots Q (F0 m pc ls st0) := by
  obtain ⟨j1, j2⟩ := J H hP hD
  have hF := kfree j1.2 hS hA
  refine va_calll hr hS (fun q _ h => hF q h) hF (fun r u t H1 locs1 ht hvm hw hB hz hk hS1 => ?_)
  have hB : va_P D vwCl (w1 u) t.heap := hB
  rw [ht] at hB
  obtain ⟨z1, z2⟩ := j2 (w1 u) H1 (ha u) hB hk
  exact kk r u H1 locs1 hw z1 z2 hS1
theorem kc_v {post : S → Prop} {w1 : S → va_W} (hr : va_Run p l e R s m args below meth c H locs cells slots mc ms (F0 m pc ls st0) rest (kQv D post w1 (va_A wc H.size) a) (va_A wc H.size)) (hP : va_P D vwCl ws H) (hD : va_D A ws) (hS : va_S A H0 H locs) (hA : ∀ q : Nat, H0.size ≤ q → A q) (J : kJ D A ws wc f) (ha : ∀ u, (w1 u).map (·.1) = wc.map (·.1))
    (kk : ∀ (u : S) (H1 : Heap) (locs1 : List Loc), post u → va_P D vwCl (f (w1 u)) H1 → va_D A (f (w1 u)) → va_S A H0 H1 locs1 → W p l e R s m args below meth c H1 locs1 (cells + mc) (slots + ms) Q (F0 m (pc + 3) ls rest)) : W p l e R s m args below meth c H locs cells slots Q (F0 m pc ls st0) := by
  obtain ⟨j1, j2⟩ := J H hP hD
  have hF := kfree j1.2 hS hA
  refine va_callv hr hS (fun q _ h => hF q h) hF (fun u t H1 locs1 ht hvm hw hB hz hk hS1 => ?_)
  have hB : va_P D vwCl (w1 u) t.heap := hB
  rw [ht] at hB
  obtain ⟨z1, z2⟩ := j2 (w1 u) H1 (ha u) hB hk
  exact kk u H1 locs1 hw z1 z2 hS1
/-- the three calls -/
theorem krV (hM : kM l y wsy rm D Y wc (.ref b :: As) X Qc) (Sx : CallFix p m c cc nL s args kAL own) (cw : CallW R s args own C index y bytes maxL ret wsy rm rm.cells rm.slots n) (hXb : kXb X) (hX : ∀ U : State, U.heap = H → s.WarmedH U.vm → X H.size U) (hK : va_K D vwCl (kT Y) s) (hNs : kNs s) (hP : va_P D vwCl ws H) (hD : va_D A ws) (J : kJ D A ws wc f) (q0 : Nat) {ci : Nat} {q : vw_C} {fs : List Value} (hci : vwCl[ci]? = some q) (hcl : q.1 = C) (he : wc[q0]? = some (b, .inr (ci, fs)))
    (hlen : As.length = n) (hsize : ls.size = nL) (hstack : st0 = As.reverse ++ .ref b :: rest) (hW : (rest.map fun v => v.category).sum ≤ 8) (hdg : decode cc pc = .ok (.invokevirtual index, 3)) (hf : cells + rm.cells ≤ R.cells ∧ slots + rm.slots ≤ R.slots) :
    va_Run p l e R s m args below meth c H locs cells slots rm.cells rm.slots (F0 m pc ls st0) rest (Qc (va_A wc H.size) (Value.ref b :: As).toArray) (va_A wc H.size) := by
  obtain ⟨⟨hPc, hDc⟩, -⟩ := J H hP hD
  refine va_runV (g := F0 m pc ls st0) Sx (hM H.size) cw ⟨kPc_blind hXb _, ?_, fun U hU hw => ⟨rfl, by rw [hU], by rw [hU]; exact hPc, va_K.moved hw.alike hK, hNs.warm hw, hDc.weaken (fun _ _ _ _ => trivial), hX U hU hw⟩⟩ rfl hlen hsize hstack (lv_room hW) hdg hf
  subst hcl
  exact va_recv hK hPc hci he
theorem krS (hM : kM l y wsy rm D Y wc As X Qc) (Sx : CallFix p m c cc nL s args kAL own) (cw : CallB R s args own index y bytes maxL ret wsy rm rm.cells rm.slots n ∧ (Cond.static y).before args s = true) (hXb : kXb X) (hX : ∀ U : State, U.heap = H → s.WarmedH U.vm → X H.size U) (hK : va_K D vwCl (kT Y) s) (hNs : kNs s) (hP : va_P D vwCl ws H) (hD : va_D A ws) (J : kJ D A ws wc f)
    (hlen : As.length = n) (hsize : ls.size = nL) (hstack : st0 = As.reverse ++ rest) (hW : (rest.map fun v => v.category).sum ≤ 8) (hdg : decode cc pc = .ok (.invokestatic index, 3)) (hf : cells + rm.cells ≤ R.cells ∧ slots + rm.slots ≤ R.slots) :
    va_Run p l e R s m args below meth c H locs cells slots rm.cells rm.slots (F0 m pc ls st0) rest (Qc (va_A wc H.size) As.toArray) (va_A wc H.size) := by
  obtain ⟨⟨hPc, hDc⟩, -⟩ := J H hP hD
  exact va_runS (g := F0 m pc ls st0) Sx (hM H.size) cw ⟨kPc_blind hXb _, fun U hU hw => ⟨rfl, by rw [hU], by rw [hU]; exact hPc, va_K.moved hw.alike hK, hNs.warm hw, hDc.weaken (fun _ _ _ _ => trivial), hX U hU hw⟩⟩ rfl hlen hsize hstack (lv_room hW) hdg hf
theorem krI (hM : kM l y wsy rm D Y wc (.ref b :: As) X Qc) (Sx : CallFix p m c cc nL s args kAL own) (cw : CallB R s args own index y bytes maxL none wsy rm rm.cells rm.slots n ∧ y.name = "<init>" ∧ (Cond.instanceMethod y).before args s = true) (hXb : kXb X) (hX : ∀ U : State, U.heap = H → s.WarmedH U.vm → X H.size U) (hK : va_K D vwCl (kT Y) s) (hNs : kNs s) (hP : va_P D vwCl ws H) (hD : va_D A ws) (J : kJ D A ws wc f)
    (hlen : As.length = n) (hsize : ls.size = nL) (hstack : st0 = As.reverse ++ .ref b :: rest) (hW : (rest.map fun v => v.category).sum ≤ 8) (hdg : decode cc pc = .ok (.invokespecial index, 3)) (hf : cells + rm.cells ≤ R.cells ∧ slots + rm.slots ≤ R.slots) :
    va_Run p l e R s m args below meth c H locs cells slots rm.cells rm.slots (F0 m pc ls st0) rest (Qc (va_A wc H.size) (Value.ref b :: As).toArray) (va_A wc H.size) := by
  obtain ⟨⟨hPc, hDc⟩, -⟩ := J H hP hD
  exact va_runI (g := F0 m pc ls st0) Sx (hM H.size) cw ⟨kPc_blind hXb _, fun U hU hw => ⟨rfl, by rw [hU], by rw [hU]; exact hPc, va_K.moved hw.alike hK, hNs.warm hw, hDc.weaken (fun _ _ _ _ => trivial), hX U hU hw⟩⟩ rfl hlen hsize hstack (lv_room hW) hdg hf
theorem krSN {host : String} (hM : kM l y wsy rm D Y wc As X Qc) (Sx : CallFix p m c cc nL s args kAL own) (cw : va_CN R s args own index y host bytes maxL ret wsy rm rm.cells rm.slots n ∧ (Cond.static y).before args s = true ∧ True) (hXb : kXb X) (hX : ∀ U : State, U.heap = H → s.WarmedH U.vm → X H.size U) (hK : va_K D vwCl (kT Y) s) (hNs : kNs s) (hP : va_P D vwCl ws H) (hD : va_D A ws) (J : kJ D A ws wc f)
    (hlen : As.length = n) (hsize : ls.size = nL) (hstack : st0 = As.reverse ++ rest) (hW : (rest.map fun v => v.category).sum ≤ 8) (hdg : decode cc pc = .ok (.invokestatic index, 3)) (hf : cells + rm.cells ≤ R.cells ∧ slots + rm.slots ≤ R.slots) :
    va_Run p l e R s m args below meth c H locs cells slots rm.cells rm.slots (F0 m pc ls st0) rest (Qc (va_A wc H.size) As.toArray) (va_A wc H.size) := by
  obtain ⟨⟨hPc, hDc⟩, -⟩ := J H hP hD
  exact va_runSN (g := F0 m pc ls st0) Sx (hM H.size) cw ⟨kPc_blind hXb _, fun U hU hw => ⟨rfl, by rw [hU], by rw [hU]; exact hPc, va_K.moved hw.alike hK, hNs.warm hw, hDc.weaken (fun _ _ _ _ => trivial), hX U hU hw⟩⟩ rfl hlen hsize hstack (lv_room hW) hdg hf
theorem krIN {host : String} (hM : kM l y wsy rm D Y wc (.ref b :: As) X Qc) (Sx : CallFix p m c cc nL s args kAL own) (cw : va_CN R s args own index y host bytes maxL none wsy rm rm.cells rm.slots n ∧ y.name = "<init>" ∧ (Cond.instanceMethod y).before args s = true) (hXb : kXb X) (hX : ∀ U : State, U.heap = H → s.WarmedH U.vm → X H.size U) (hK : va_K D vwCl (kT Y) s) (hNs : kNs s) (hP : va_P D vwCl ws H) (hD : va_D A ws) (J : kJ D A ws wc f)
    (hlen : As.length = n) (hsize : ls.size = nL) (hstack : st0 = As.reverse ++ .ref b :: rest) (hW : (rest.map fun v => v.category).sum ≤ 8) (hdg : decode cc pc = .ok (.invokespecial index, 3)) (hf : cells + rm.cells ≤ R.cells ∧ slots + rm.slots ≤ R.slots) :
    va_Run p l e R s m args below meth c H locs cells slots rm.cells rm.slots (F0 m pc ls st0) rest (Qc (va_A wc H.size) (Value.ref b :: As).toArray) (va_A wc H.size) := by
  obtain ⟨⟨hPc, hDc⟩, -⟩ := J H hP hD
  exact va_runIN (g := F0 m pc ls st0) Sx (hM H.size) cw ⟨kPc_blind hXb _, fun U hU hw => ⟨rfl, by rw [hU], by rw [hU]; exact hPc, va_K.moved hw.alike hK, hNs.warm hw, hDc.weaken (fun _ _ _ _ => trivial), hX U hU hw⟩⟩ rfl hlen hsize hstack (lv_room hW) hdg hf
end KC
section KB
variable {p : Program} {l : Launch} {e : Env} {R : Room} {s : State} {m : MethodId} {args : Array Value} {below : List Frame} {meth : Method} {c : Code} {H : Heap} {locs : List Loc} {cells slots : Nat} {Q : State → Prop}
variable {cc : ByteArray} {pc : Nat} {ls : Array Slot} {rest : List Value} {D : va_G} {Y : Nat → ClassId} {A : Nat → Prop} {H0 : Heap} {ws : va_W} {a : Nat}
/-- the top of the stack under another name -/
theorem kTop {x y : Int32} (h : x = y) (k : W p l e R s m args below meth c H locs cells slots Q (F0 m pc ls (.int y :: rest))) : W p l e R s m args below meth c H locs cells slots Q (F0 m pc ls (.int x :: rest)) := by rw [h]; exact k
theorem kTopl {x y : Int64} (h : x = y) (k : W p l e R s m args below meth c H locs cells slots Q (F0 m pc ls (.long y :: rest))) : W p l e R s m args below meth c H locs cells slots Q (F0 m pc ls (.long x :: rest)) := by rw [h]; exact k
theorem kTopv {x y : Value} (h : x = y) (k : W p l e R s m args below meth c H locs cells slots Q (F0 m pc ls (y :: rest))) : W p l e R s m args below meth c H locs cells slots Q (F0 m pc ls (x :: rest)) := by rw [h]; exact k
/-- rows of ints, of a place that is known -/
theorem kiald (hx : p.tables.exec = Jvm.exec) (hb : c.code = cc) (hK : va_K D vwCl (kT Y) s) (hP : va_P D vwCl ws H) (q0 : Nat) {n : Nat} {f : Nat → Int32} (ha : ws[q0]? = some (a, .inl (Y 0, n, .inl f))) (k : Nat) {i : Int32} (hi : i = nI k) (hk : k < n) (hn : n < 2 ^ 31) (hdg : decode cc pc = .ok (.iaload, 1))
    (kk : W p l e R s m args below meth c H locs cells slots Q (F0 m (pc + 1) ls (.int (f k) :: rest))) : W p l e R s m args below meth c H locs cells slots Q (F0 m pc ls (.int i :: .ref a :: rest)) := by
  subst hi
  refine va_iald hx hb hK hP q0 0 ha rfl (vp_in_nI hk hn) hdg ?_
  rw [nI_clamp (by omega)]
  exact kk
theorem kcald (hx : p.tables.exec = Jvm.exec) (hb : c.code = cc) (hK : va_K D vwCl (kT Y) s) (hP : va_P D vwCl ws H) (q0 : Nat) {n : Nat} {f : Nat → Int32} (ha : ws[q0]? = some (a, .inl (Y 1, n, .inl f))) (k : Nat) {i : Int32} (hi : i = nI k) (hk : k < n) (hn : n < 2 ^ 31) (hdg : decode cc pc = .ok (.caload, 1))
    (kk : W p l e R s m args below meth c H locs cells slots Q (F0 m (pc + 1) ls (.int (f k) :: rest))) : W p l e R s m args below meth c H locs cells slots Q (F0 m pc ls (.int i :: .ref a :: rest)) := by
  subst hi
  refine va_cald hx hb hK hP q0 1 ha rfl (vp_in_nI hk hn) hdg ?_
  rw [nI_clamp (by omega)]
  exact kk
theorem kzald (hx : p.tables.exec = Jvm.exec) (hb : c.code = cc) (hK : va_K D vwCl (kT Y) s) (hP : va_P D vwCl ws H) (q0 : Nat) {n : Nat} {f : Nat → Int32} (ha : ws[q0]? = some (a, .inl (Y 2, n, .inl f))) (k : Nat) {i : Int32} (hi : i = nI k) (hk : k < n) (hn : n < 2 ^ 31) (hdg : decode cc pc = .ok (.baload, 1))
    (kk : W p l e R s m args below meth c H locs cells slots Q (F0 m (pc + 1) ls (.int (f k) :: rest))) : W p l e R s m args below meth c H locs cells slots Q (F0 m pc ls (.int i :: .ref a :: rest)) := by
  subst hi
  refine va_zald hx hb hK hP q0 2 ha rfl (vp_in_nI hk hn) hdg ?_
  rw [nI_clamp (by omega)]
  exact kk
theorem kiast (hx : p.tables.exec = Jvm.exec) (hb : c.code = cc) (hK : va_K D vwCl (kT Y) s) (hP : va_P D vwCl ws H) (hD : va_D A ws) (hS : va_S A H0 H locs) (q0 : Nat) {n : Nat} {f : Nat → Int32} (ha : ws[q0]? = some (a, .inl (Y 0, n, .inl f))) (k : Nat) {i x : Int32} (hi : i = nI k) (hk : k < n) (hn : n < 2 ^ 31) (hdg : decode cc pc = .ok (.iastore, 1)) (ws1 : va_W) (hw : ws.set q0 (a, .inl (Y 0, n, .inl (upd f k x))) = ws1)
    (kk : ∀ (H1 : Heap) (locs1 : List Loc), va_P D vwCl ws1 H1 → va_D A ws1 → va_S A H0 H1 locs1 → W p l e R s m args below meth c H1 locs1 cells slots Q (F0 m (pc + 1) ls rest)) : W p l e R s m args below meth c H locs cells slots Q (F0 m pc ls (.int x :: .int i :: .ref a :: rest)) := by
  subst hi
  subst hw
  refine va_iast hx hb hK hP hD hS q0 0 ha rfl (vp_in_nI hk hn) hdg (fun H1 locs1 h1 h2 h3 => ?_)
  rw [nI_clamp (by omega)] at h1 h2
  exact kk H1 locs1 h1 h2 h3
theorem kzast (hx : p.tables.exec = Jvm.exec) (hb : c.code = cc) (hK : va_K D vwCl (kT Y) s) (hP : va_P D vwCl ws H) (hD : va_D A ws) (hS : va_S A H0 H locs) (q0 : Nat) {n : Nat} {f : Nat → Int32} (ha : ws[q0]? = some (a, .inl (Y 2, n, .inl f))) (k : Nat) {i x : Int32} (hi : i = nI k) (hk : k < n) (hn : n < 2 ^ 31) (hdg : decode cc pc = .ok (.bastore, 1)) (h01 : x = 0 ∨ x = 1) (ws1 : va_W) (hw : ws.set q0 (a, .inl (Y 2, n, .inl (upd f k x))) = ws1)
    (kk : ∀ (H1 : Heap) (locs1 : List Loc), va_P D vwCl ws1 H1 → va_D A ws1 → va_S A H0 H1 locs1 → W p l e R s m args below meth c H1 locs1 cells slots Q (F0 m (pc + 1) ls rest)) : W p l e R s m args below meth c H locs cells slots Q (F0 m pc ls (.int x :: .int i :: .ref a :: rest)) := by
  subst hi
  subst hw
  refine va_zast hx hb hK hP hD hS q0 2 ha rfl (vp_in_nI hk hn) hdg (fun H1 locs1 h1 h2 h3 => ?_)
  rw [nI_clamp (by omega)] at h1 h2
  have e : vp_nar .boolean x = x := by rcases h01 with rfl | rfl <;> rfl
  first
    | (rw [e] at h1 h2; exact kk H1 locs1 h1 h2 h3)
    | exact kk H1 locs1 h1 h2 h3
theorem kcast (hx : p.tables.exec = Jvm.exec) (hb : c.code = cc) (hK : va_K D vwCl (kT Y) s) (hP : va_P D vwCl ws H) (hD : va_D A ws) (hS : va_S A H0 H locs) (q0 : Nat) {n : Nat} {f : Nat → Int32} (ha : ws[q0]? = some (a, .inl (Y 1, n, .inl f))) (k : Nat) {i x : Int32} (hi : i = nI k) (hk : k < n) (hn : n < 2 ^ 31) (hdg : decode cc pc = .ok (.castore, 1)) (hc : vp_nar .char x = x) (ws1 : va_W) (hw : ws.set q0 (a, .inl (Y 1, n, .inl (upd f k x))) = ws1)
    (kk : ∀ (H1 : Heap) (locs1 : List Loc), va_P D vwCl ws1 H1 → va_D A ws1 → va_S A H0 H1 locs1 → W p l e R s m args below meth c H1 locs1 cells slots Q (F0 m (pc + 1) ls rest)) : W p l e R s m args below meth c H locs cells slots Q (F0 m pc ls (.int x :: .int i :: .ref a :: rest)) := by
  subst hi
  subst hw
  refine va_cast hx hb hK hP hD hS q0 1 ha rfl (vp_in_nI hk hn) hdg (fun H1 locs1 h1 h2 h3 => ?_)
  rw [nI_clamp (by omega)] at h1 h2
  first
    | (rw [hc] at h1 h2; exact kk H1 locs1 h1 h2 h3)
    | exact kk H1 locs1 h1 h2 h3
theorem kalen (hx : p.tables.exec = Jvm.exec) (hb : c.code = cc) (hK : va_K D vwCl (kT Y) s) (hP : va_P D vwCl ws H) (q0 : Nat) {n : Nat} {f : Nat → Int32} (ha : ws[q0]? = some (a, .inl (Y 0, n, .inl f))) (hdg : decode cc pc = .ok (.arraylength, 1))
    (kk : W p l e R s m args below meth c H locs cells slots Q (F0 m (pc + 1) ls (.int (nI n) :: rest))) : W p l e R s m args below meth c H locs cells slots Q (F0 m pc ls (.ref a :: rest)) := va_alen hx hb hK hP q0 0 ha rfl rfl hdg kk
end KB
/-- a truth as the machine has it -/
def kb (P : Prop) [Decidable P] : Int32 := if P then 1 else 0
theorem kb_t {P : Prop} [Decidable P] (h : P) : kb P = 1 := if_pos h
theorem kb_f {P : Prop} [Decidable P] (h : ¬ P) : kb P = 0 := if_neg h
theorem kb_01 (P : Prop) [Decidable P] : kb P = 0 ∨ kb P = 1 := by
  unfold kb
  split
  · exact Or.inr rfl
  · exact Or.inl rfl
def kmax (x y : Int32) : Int32 := if x < y then y else x
def kmin (x y : Int32) : Int32 := if y < x then y else x
/-- a mill's numbers: row q, place k; the scalars are row 19 -/
abbrev kN : Type := Nat → Nat → Int32
def sM (M : kN) (q k : Nat) (v : Int32) : kN := fun q' => if q' = q then upd (M q) k v else M q'
/-- a mill's cells -/
def wM (Y : Nat → ClassId) (a : Nat → Nat) (M : kN) : va_W :=
  [(a 0, .inr (3, [.ref (a 1), .ref (a 2), .ref (a 8), .ref (a 17), .ref (a 20), .int (M 19 0), .int (M 19 1), .int (M 19 2), .int (M 19 3)])),
   (a 1, .inl (Y 0, 7, .inl (M 0))),
   (a 2, .inr (1, [.ref (a 3), .ref (a 4), .ref (a 5), .ref (a 6), .ref (a 7)])),
   (a 3, .inl (Y 0, 6, .inl (M 1))), (a 4, .inl (Y 0, 6, .inl (M 2))), (a 5, .inl (Y 0, 6, .inl (M 3))), (a 6, .inl (Y 0, 6, .inl (M 4))), (a 7, .inl (Y 0, 6, .inl (M 5))),
   (a 8, .inr (0, [.ref (a 9), .ref (a 10), .ref (a 11), .ref (a 12), .ref (a 13), .ref (a 14), .ref (a 15), .ref (a 16), .int (M 19 4)])),
   (a 9, .inl (Y 0, 30, .inl (M 6))), (a 10, .inl (Y 0, 30, .inl (M 7))), (a 11, .inl (Y 0, 30, .inl (M 8))), (a 12, .inl (Y 0, 30, .inl (M 9))), (a 13, .inl (Y 0, 30, .inl (M 10))), (a 14, .inl (Y 0, 30, .inl (M 11))), (a 15, .inl (Y 0, 30, .inl (M 12))), (a 16, .inl (Y 0, 30, .inl (M 13))),
   (a 17, .inr (5, [.ref (a 18), .ref (a 19), .int (M 19 5)])),
   (a 18, .inl (Y 0, 5, .inl (M 14))), (a 19, .inl (Y 0, 5, .inl (M 15))),
   (a 20, .inr (6, [.ref (a 21), .ref (a 22), .ref (a 23), .int (M 19 6), .int (M 19 7)])),
   (a 21, .inl (Y 0, 400, .inl (M 16))), (a 22, .inl (Y 0, 400, .inl (M 17))), (a 23, .inl (Y 0, 400, .inl (M 18)))]
/-- the reference's cells: rows 0 now, 1 then, 2 past, 3 slots, 4 held, 5 pad, 6 orders; the scalars are row 7 -/
def wR (Y : Nat → ClassId) (b : Nat → Nat) (M : kN) : va_W :=
  [(b 0, .inr (8, [.ref (b 1), .ref (b 2), .ref (b 3), .int (M 7 0), .ref (b 4), .ref (b 5), .ref (b 6), .int (M 7 1), .int (M 7 2), .ref (b 7), .int (M 7 3)])),
   (b 1, .inl (Y 0, 1497, .inl (M 0))), (b 2, .inl (Y 0, 1497, .inl (M 1))), (b 3, .inl (Y 0, 8982, .inl (M 2))), (b 4, .inl (Y 0, 2994, .inl (M 3))), (b 5, .inl (Y 2, 2, .inl (M 4))), (b 6, .inl (Y 0, 80, .inl (M 5))), (b 7, .inl (Y 0, 140, .inl (M 6)))]
theorem kJ_nil {D : va_G} {A : Nat → Prop} {ws : va_W} : kJ D A ws [] (fun _ => ws) := fun _ hP hD => ⟨⟨fun k q h => by simp at h, ⟨fun i j p q h => by simp at h, fun k q h => by simp at h⟩⟩, fun w1 H1 _ _ hk => ⟨kP_stay (A := A) (a := []) hP (fun i j p q h => by simp at h) hk, hD⟩⟩
end
section
/-! what the class's methods answer and do, over a mill's numbers -/
abbrev pIn (v lo hi : Int32) : Prop := ¬ v < lo ∧ ¬ hi < v
def nF (M : kN) : Nat := (M 19 4).toNatClampNeg
def nS (M : kN) : Nat := (M 19 5).toNatClampNeg
def nY (M : kN) : Nat := (M 19 6).toNatClampNeg
def nT (M : kN) : Nat := (M 0 0).toNatClampNeg
def gr (M : kN) (f : Nat) : Nat := (M 6 f).toNatClampNeg
def fi (M : kN) (k : Nat) : Nat := (M 16 k).toNatClampNeg
/-- what keeps the class's indices within its rows -/
def cI (M : kN) : Prop := (M 19 4 = nI (nF M) ∧ nF M ≤ 30) ∧ (M 19 5 = nI (nS M) ∧ nS M ≤ 5) ∧ (M 19 6 = nI (nY M) ∧ nY M ≤ 400) ∧ (M 0 0 = nI (nT M) ∧ nT M ≤ 20) ∧ (∀ f, f < nF M → M 6 f = nI (gr M f) ∧ gr M f < 6) ∧ ∀ k, k < nY M → M 16 k = nI (fi M k) ∧ fi M k < nF M
theorem cI.f {M : kN} (h : cI M) : M 19 4 = nI (nF M) := h.1.1
theorem cI.f30 {M : kN} (h : cI M) : nF M ≤ 30 := h.1.2
theorem cI.s {M : kN} (h : cI M) : M 19 5 = nI (nS M) := h.2.1.1
theorem cI.s5 {M : kN} (h : cI M) : nS M ≤ 5 := h.2.1.2
theorem cI.y {M : kN} (h : cI M) : M 19 6 = nI (nY M) := h.2.2.1.1
theorem cI.y400 {M : kN} (h : cI M) : nY M ≤ 400 := h.2.2.1.2
theorem cI.t {M : kN} (h : cI M) : M 0 0 = nI (nT M) := h.2.2.2.1.1
theorem cI.t20 {M : kN} (h : cI M) : nT M ≤ 20 := h.2.2.2.1.2
theorem cI.g {M : kN} (h : cI M) {f : Nat} (hf : f < nF M) : M 6 f = nI (gr M f) ∧ gr M f < 6 := h.2.2.2.2.1 f hf
theorem cI.fk {M : kN} (h : cI M) {k : Nat} (hk : k < nY M) : M 16 k = nI (fi M k) ∧ fi M k < nF M := h.2.2.2.2.2 k hk
theorem cI.of {M N : kN} (h : cI M) (h4 : N 19 4 = M 19 4) (h5 : N 19 5 = M 19 5) (h6 : N 19 6 = M 19 6) (h0 : N 0 0 = M 0 0) (r6 : ∀ k, N 6 k = M 6 k) (r16 : ∀ k, N 16 k = M 16 k) : cI N := by
  have e4 : nF N = nF M := by unfold nF; rw [h4]
  have e5 : nS N = nS M := by unfold nS; rw [h5]
  have e6 : nY N = nY M := by unfold nY; rw [h6]
  have e0 : nT N = nT M := by unfold nT; rw [h0]
  have eg : ∀ f, gr N f = gr M f := fun f => by unfold gr; rw [r6]
  have ef : ∀ f, fi N f = fi M f := fun f => by unfold fi; rw [r16]
  refine ⟨?_, ?_, ?_, ?_, ?_, ?_⟩
  · rw [h4, e4]; exact h.1
  · rw [h5, e5]; exact h.2.1
  · rw [h6, e6]; exact h.2.2.1
  · rw [h0, e0]; exact h.2.2.2.1
  · intro f hf; rw [e4] at hf; rw [r6, eg]; exact h.g hf
  · intro k hk; rw [e6] at hk; rw [r16, ef, e4]; exact h.fk hk
def sHow (now burnt on gone : Int32) : Int32 := if burnt ≤ now then (if on ≤ 0 then (if gone ≤ 0 then 2 else 3) else 1) else 0
def sPur (burnt purity day loss : Int32) : Int32 := kmax 0 (purity - loss * kmax 0 (day - burnt))
abbrev pAhead (bf bb qf qb : Int32) : Prop := (bf = bb ∧ qb < qf) ∨ (¬ bf = bb ∧ bf < bb)
def cHow (M : kN) (f : Nat) (d : Int32) : Int32 := sHow d (M 9 f) (M 10 f) (M 13 f)
def cRoom (M : kN) : Int32 := if 400 ≤ M 19 6 then 0 else M 0 3 - M 19 7
def cLoseCane (M : kN) (f : Nat) : kN := sM (sM M 13 f (M 13 f + M 10 f)) 10 f 0
def cLoseStep (M : kN) (f : Nat) : kN := if M 19 0 - M 9 f ≤ M 0 5 then M else sM (cLoseCane M f) 4 (gr M f) (M 4 (gr M f) + M 10 f)
def cLoseTo (M : kN) : Nat → kN
  | 0 => M
  | k + 1 => cLoseStep (cLoseTo M k) k
def cLose (M : kN) : kN := cLoseTo M (nF M)
theorem cLoseStep_I {M : kN} (h : cI M) (f : Nat) : cI (cLoseStep M f) ∧ nF (cLoseStep M f) = nF M := by
  unfold cLoseStep
  split
  · exact ⟨h, rfl⟩
  · exact ⟨h.of rfl rfl rfl rfl (fun _ => rfl) (fun _ => rfl), rfl⟩
theorem cLoseTo_I {M : kN} (h : cI M) : ∀ k, cI (cLoseTo M k) ∧ nF (cLoseTo M k) = nF M
  | 0 => ⟨h, rfl⟩
  | k + 1 => by
    obtain ⟨h1, h2⟩ := cLoseTo_I h k
    obtain ⟨h3, h4⟩ := cLoseStep_I h1 k
    exact ⟨h3, h4.trans h2⟩
theorem cLose_I {M : kN} (h : cI M) : cI (cLose M) := (cLoseTo_I h _).1
abbrev pCan (M : kN) (f : Nat) : Prop := cHow M f (M 19 0) = 1 ∧ 0 < M 1 (gr M f)
abbrev pAheadM (M : kN) (f b : Nat) : Prop := pAhead (M 9 f) (M 9 b) (M 1 (gr M f)) (M 1 (gr M b))
/-- the better of a field and what was found before -/
def cBetter (M : kN) (k : Nat) (o : Option Nat) : Option Nat := match o with
  | none => some k
  | some b => if pAheadM M k b then some k else some b
/-- the best of the first fields: none, or one -/
def cBest (M : kN) : Nat → Option Nat
  | 0 => none
  | k + 1 => if pCan M k then cBetter M k (cBest M k) else cBest M k
def oI : Option Nat → Int32
  | none => -6
  | some k => nI k
theorem cBest_lt {M : kN} : ∀ {k b : Nat}, cBest M k = some b → b < k
  | 0, b, h => by cases h
  | k + 1, b, h => by
    unfold cBest at h
    split at h
    · unfold cBetter at h
      split at h
      · cases h; omega
      · rename_i b0 hb
        have := cBest_lt hb
        split at h <;> (cases h; omega)
    · have := cBest_lt h
      omega
theorem oI_ne {b : Nat} (h : b < 2 ^ 31) : ¬ oI (some b) = -6 := by
  intro e
  have h1 : (nI b).toInt = (-6 : Int32).toInt := congrArg Int32.toInt e
  rw [nI_toInt h] at h1
  have h2 : (-6 : Int32).toInt = -6 := by decide
  omega
def cNextO (M : kN) : Option Nat := if 0 < cRoom M then cBest M (nF M) else none
theorem cNextO_lt {M : kN} {b : Nat} (h : cNextO M = some b) : b < nF M := by
  unfold cNextO at h
  split at h
  · exact cBest_lt h
  · cases h
def cAppend (M : kN) (f t d : Int32) : kN := if M 19 6 < 400 then sM (sM (sM (sM (sM M 16 (nY M) f) 17 (nY M) t) 18 (nY M) d) 19 6 (M 19 6 + 1)) 19 7 (M 19 7 + t) else M
def cTonnes (M : kN) (f : Nat) : Int32 := kmin (kmin (M 0 1) (M 10 f)) (kmin (M 1 (gr M f)) (cRoom M))
/-- a load leaves its field -/
def cLeaves (M : kN) (f : Nat) : kN := sM (sM (sM (sM M 1 (gr M f) (M 1 (gr M f) - cTonnes M f)) 2 (gr M f) (M 2 (gr M f) + cTonnes M f)) 10 f (M 10 f - cTonnes M f)) 11 f (M 11 f + cTonnes M f)
def cArr (M : kN) (f : Nat) : kN := cAppend (cLeaves M f) (nI f) (cTonnes M f) (M 19 0)
def cBringLoad (M : kN) (f : Nat) : kN := sM (cArr M f) 19 2 (cArr M f 19 2 + 1)
theorem cLeaves_I {M : kN} (h : cI M) (f : Nat) : cI (cLeaves M f) := h.of rfl rfl rfl rfl (fun _ => rfl) (fun _ => rfl)
theorem cAppend_I {M : kN} (h : cI M) {f : Nat} (hf : f < nF M) (t d : Int32) : cI (cAppend M (nI f) t d) ∧ nF (cAppend M (nI f) t d) = nF M := by
  have h30 := h.f30
  unfold cAppend
  split
  · rename_i hc
    rw [h.y] at hc
    have hlt : nY M < 400 := (nI_ltI (by have := h.y400; omega) (by omega)).mp (show nI (nY M) < nI 400 from hc)
    have e6 : nY (sM (sM (sM (sM (sM M 16 (nY M) (nI f)) 17 (nY M) t) 18 (nY M) d) 19 6 (M 19 6 + 1)) 19 7 (M 19 7 + t)) = nY M + 1 := by
      show (M 19 6 + 1).toNatClampNeg = _
      rw [h.y, nI_1, nI_clamp (by omega)]
    refine ⟨⟨h.1, h.2.1, ⟨?_, by rw [e6]; omega⟩, h.2.2.2.1, h.2.2.2.2.1, ?_⟩, rfl⟩
    · rw [e6]
      show M 19 6 + 1 = _
      rw [h.y, nI_1]
    · intro k hk
      rw [e6] at hk
      show upd (M 16) (nY M) (nI f) k = nI (upd (M 16) (nY M) (nI f) k).toNatClampNeg ∧ (upd (M 16) (nY M) (nI f) k).toNatClampNeg < nF M
      unfold upd
      split
      · rw [nI_clamp (by omega)]
        exact ⟨rfl, hf⟩
      · exact h.fk (by omega)
  · exact ⟨h, rfl⟩
theorem cBringLoad_I {M : kN} (h : cI M) {f : Nat} (hf : f < nF M) : cI (cBringLoad M f) ∧ nF (cBringLoad M f) = nF M := by
  obtain ⟨h1, h2⟩ := cAppend_I (cLeaves_I h f) (f := f) hf (cTonnes M f) (M 19 0)
  exact ⟨h1.of rfl rfl rfl rfl (fun _ => rfl) (fun _ => rfl), h2⟩
theorem cBringLoad_0 (M : kN) (f k : Nat) : cBringLoad M f 0 k = M 0 k := by
  show cArr M f 0 k = M 0 k
  unfold cArr cAppend
  split <;> rfl
def cBringStep (M : kN) : kN := match cNextO M with
  | none => M
  | some f => cBringLoad M f
def cBringTo (M : kN) : Nat → kN
  | 0 => M
  | t + 1 => cBringStep (cBringTo M t)
def cBring (M : kN) : kN := cBringTo M (nT M)
theorem cBringStep_n {M : kN} (h : cNextO M = none) : cBringStep M = M := by unfold cBringStep; rw [h]
theorem cBringStep_s {M : kN} {f : Nat} (h : cNextO M = some f) : cBringStep M = cBringLoad M f := by unfold cBringStep; rw [h]
theorem cBringStep_I {M : kN} (h : cI M) : cI (cBringStep M) ∧ nF (cBringStep M) = nF M ∧ ∀ k, cBringStep M 0 k = M 0 k := by
  cases hc : cNextO M with
  | none => rw [cBringStep_n hc]; exact ⟨h, rfl, fun _ => rfl⟩
  | some f => rw [cBringStep_s hc]; exact ⟨(cBringLoad_I h (cNextO_lt hc)).1, (cBringLoad_I h (cNextO_lt hc)).2, cBringLoad_0 M f⟩
theorem cBringTo_I {M : kN} (h : cI M) : ∀ t, cI (cBringTo M t) ∧ nF (cBringTo M t) = nF M ∧ ∀ k, cBringTo M t 0 k = M 0 k
  | 0 => ⟨h, rfl, fun _ => rfl⟩
  | t + 1 => by
    obtain ⟨h1, h2, h3⟩ := cBringTo_I h t
    obtain ⟨h4, h5, h6⟩ := cBringStep_I h1
    exact ⟨h4, h5.trans h2, fun k => (h6 k).trans (h3 k)⟩
theorem cBring_I {M : kN} (h : cI M) : cI (cBring M) := (cBringTo_I h _).1
theorem cBringTo_stop {M : kN} {t : Nat} (h : cNextO (cBringTo M t) = none) : ∀ j, cBringTo M (t + j) = cBringTo M t
  | 0 => rfl
  | j + 1 => by
    have ih := cBringTo_stop h j
    show cBringStep (cBringTo M (t + j)) = _
    rw [ih, cBringStep_n h]
def cStopTo (M : kN) (d : Int32) : Nat → Bool
  | 0 => false
  | k + 1 => cStopTo M d k || decide (pIn d (M 14 k) (M 15 k))
theorem cStopTo_on {M : kN} {d : Int32} {k : Nat} (h : cStopTo M d k = true) : ∀ j, cStopTo M d (k + j) = true
  | 0 => h
  | j + 1 => by
    show (cStopTo M d (k + j) || _) = true
    rw [cStopTo_on h j]; rfl
def cStopped (M : kN) (d : Int32) : Bool := cStopTo M d (nS M)
def cCrushPart (M : kN) (f : Nat) (t : Int32) : kN :=
  sM (sM (sM (sM (sM M 19 1 (M 19 1 + t * sPur (M 9 f) (M 8 f) (M 19 0) (M 0 4) / 100)) 5 (gr M f) (M 5 (gr M f) + t * sPur (M 9 f) (M 8 f) (M 19 0) (M 0 4) * M 0 6 / 100)) 3 (gr M f) (M 3 (gr M f) + t)) 11 f (M 11 f - t)) 12 f (M 12 f + t)
def cTake (M : kN) (k : Nat) (t : Int32) : kN := sM (sM M 17 k (M 17 k - t)) 19 7 (M 19 7 - t)
theorem cCrushPart_I {M : kN} (h : cI M) (f : Nat) (t : Int32) : cI (cCrushPart M f t) := h.of rfl rfl rfl rfl (fun _ => rfl) (fun _ => rfl)
theorem cTake_I {M : kN} (h : cI M) (k : Nat) (t : Int32) : cI (cTake M k t) := h.of rfl rfl rfl rfl (fun _ => rfl) (fun _ => rfl)
/-- the loads at the head of the queue, one after the other: the mill, what it can crush yet, how many were emptied -/
def cCrushTo (M : kN) : Nat → kN × Int32 × Nat
  | 0 => (M, M 0 2, 0)
  | k + 1 => if (cCrushTo M k).2.1 ≤ 0 then cCrushTo M k else
    (cTake (cCrushPart (cCrushTo M k).1 (fi (cCrushTo M k).1 k) (kmin (cCrushTo M k).2.1 ((cCrushTo M k).1 17 k))) k (kmin (cCrushTo M k).2.1 ((cCrushTo M k).1 17 k)),
     (cCrushTo M k).2.1 - kmin (cCrushTo M k).2.1 ((cCrushTo M k).1 17 k),
     if (cCrushTo M k).1 17 k - kmin (cCrushTo M k).2.1 ((cCrushTo M k).1 17 k) = 0 then (cCrushTo M k).2.2 + 1 else (cCrushTo M k).2.2)
theorem cCrushTo_stop {M : kN} {k : Nat} (h : (cCrushTo M k).2.1 ≤ 0) : ∀ j, cCrushTo M (k + j) = cCrushTo M k
  | 0 => rfl
  | j + 1 => by
    have ih := cCrushTo_stop h j
    show (if (cCrushTo M (k + j)).2.1 ≤ 0 then cCrushTo M (k + j) else _) = _
    rw [ih, if_pos h]
theorem cCrushTo_I {M : kN} (h : cI M) : ∀ k, cI (cCrushTo M k).1 ∧ nF (cCrushTo M k).1 = nF M ∧ nY (cCrushTo M k).1 = nY M ∧ (cCrushTo M k).2.2 ≤ k
  | 0 => ⟨h, rfl, rfl, Nat.le_refl _⟩
  | k + 1 => by
    obtain ⟨h1, h2, h3, h4⟩ := cCrushTo_I h k
    unfold cCrushTo
    split
    · exact ⟨h1, h2, h3, by omega⟩
    · refine ⟨cTake_I (cCrushPart_I h1 _ _) _ _, h2, h3, ?_⟩
      dsimp only
      split <;> omega
/-- the loads behind the first d move up, the first j of them -/
def cDropTo (M : kN) (d : Nat) : Nat → kN
  | 0 => M
  | j + 1 => sM (sM (sM (cDropTo M d j) 16 j (cDropTo M d j 16 (d + j))) 17 j (cDropTo M d j 17 (d + j))) 18 j (cDropTo M d j 18 (d + j))
theorem cDropTo_o (M : kN) (d : Nat) {q : Nat} (h16 : q ≠ 16) (h17 : q ≠ 17) (h18 : q ≠ 18) : ∀ j, cDropTo M d j q = M q
  | 0 => rfl
  | j + 1 => by
    show sM (sM (sM (cDropTo M d j) 16 j _) 17 j _) 18 j _ q = _
    simp only [sM, if_neg h16, if_neg h17, if_neg h18]
    exact cDropTo_o M d h16 h17 h18 j
theorem cDropTo_q (M : kN) (d : Nat) {q : Nat} (hq : q = 16 ∨ q = 17 ∨ q = 18) : ∀ j k, cDropTo M d j q k = if k < j then M q (d + k) else M q k
  | 0, k => by simp [cDropTo]
  | j + 1, k => by
    have ih := cDropTo_q M d hq j
    have e : cDropTo M d (j + 1) q k = upd (cDropTo M d j q) j (cDropTo M d j q (d + j)) k := by
      rcases hq with rfl | rfl | rfl <;> rfl
    rw [e, upd]
    split
    · rename_i hk
      subst hk
      rw [ih, if_neg (by omega), if_pos (by omega)]
    · rw [ih]
      by_cases hk : k < j
      · rw [if_pos hk, if_pos (by omega)]
      · rw [if_neg hk, if_neg (by omega)]
def cDrop (M : kN) (d : Nat) : kN := sM (cDropTo M d (nY M - d)) 19 6 (M 19 6 - nI d)
theorem cDrop_I {M : kN} (h : cI M) {d : Nat} (hd : d ≤ nY M) : cI (cDrop M d) ∧ nF (cDrop M d) = nF M ∧ nY (cDrop M d) = nY M - d := by
  have h400 := h.y400
  have h30 := h.f30
  have e19 : ∀ k, k ≠ 6 → cDrop M d 19 k = M 19 k := fun k hk => by
    show upd (cDropTo M d (nY M - d) 19) 6 _ k = _
    rw [upd, if_neg hk, cDropTo_o M d (by decide) (by decide) (by decide)]
  have e6 : cDrop M d 19 6 = nI (nY M - d) := by
    show M 19 6 - nI d = _
    rw [h.y, pk_sub hd]
  have eY : nY (cDrop M d) = nY M - d := by
    unfold nY
    rw [e6, nI_clamp (by omega)]
    rfl
  have eF : nF (cDrop M d) = nF M := by unfold nF; rw [e19 4 (by decide)]
  have eS : nS (cDrop M d) = nS M := by unfold nS; rw [e19 5 (by decide)]
  have er : ∀ q, q ≠ 16 → q ≠ 17 → q ≠ 18 → q ≠ 19 → cDrop M d q = M q := fun q a b c dd => by
    show (if q = 19 then _ else cDropTo M d (nY M - d) q) = _
    rw [if_neg dd, cDropTo_o M d a b c]
  have eT : nT (cDrop M d) = nT M := by unfold nT; rw [er 0 (by decide) (by decide) (by decide) (by decide)]
  refine ⟨⟨?_, ?_, ?_, ?_, ?_, ?_⟩, eF, eY⟩
  · rw [eF, e19 4 (by decide)]; exact h.1
  · rw [eS, e19 5 (by decide)]; exact h.2.1
  · rw [eY]; exact ⟨e6, by omega⟩
  · rw [eT, er 0 (by decide) (by decide) (by decide) (by decide)]; exact h.2.2.2.1
  · intro f hf
    rw [eF] at hf
    unfold gr
    rw [er 6 (by decide) (by decide) (by decide) (by decide)]
    exact h.g hf
  · intro k hk
    rw [eY] at hk
    have ek : cDrop M d 16 k = M 16 (d + k) := by
      show cDropTo M d (nY M - d) 16 k = _
      rw [cDropTo_q M d (Or.inl rfl), if_pos hk]
    unfold fi
    rw [ek, eF]
    exact h.fk (by omega)
def cCrush (M : kN) : kN := cDrop (cCrushTo M (nY M)).1 (cCrushTo M (nY M)).2.2
theorem cCrush_I {M : kN} (h : cI M) : cI (cCrush M) := by
  obtain ⟨h1, h2, h3, h4⟩ := cCrushTo_I h (nY M)
  exact (cDrop_I h1 (by omega)).1
def cRest (M : kN) (idle : Prop) [Decidable idle] : kN := if idle ∨ cStopped M (M 19 0) = true then sM M 19 3 (M 19 3 + 1) else cCrush M
def cDay (M : kN) (idle : Prop) [Decidable idle] : kN := sM (cRest (cBring (cLose M)) idle) 19 0 (cRest (cBring (cLose M)) idle 19 0 + 1)
theorem cRest_I {M : kN} (h : cI M) (idle : Prop) [Decidable idle] : cI (cRest M idle) := by
  unfold cRest
  split
  · exact h.of rfl rfl rfl rfl (fun _ => rfl) (fun _ => rfl)
  · exact cCrush_I h
theorem cDay_I {M : kN} (h : cI M) (idle : Prop) [Decidable idle] : cI (cDay M idle) := (cRest_I (cBring_I (cLose_I h)) idle).of rfl rfl rfl rfl (fun _ => rfl) (fun _ => rfl)
/-- days, the first of them idle -/
def cDays (M : kN) (idle : Int32) : Nat → kN
  | 0 => M
  | k + 1 => cDay (cDays M idle k) (nI k < idle)
theorem cDays_I {M : kN} (h : cI M) (idle : Int32) : ∀ k, cI (cDays M idle k)
  | 0 => h
  | k + 1 => cDay_I (cDays_I h idle k) _
theorem pIn_nI {k b : Nat} (h : k ≤ b) (hb : b < 2 ^ 31) : pIn (nI k) 0 (nI b) := ⟨nI_pos (by omega), nI_nlt h (by omega)⟩
/-- days are let pass: the answer, and the mill then -/
def cPass (M : kN) (days : Int32) : Int32 × kN := if pIn days 1 99 then (if M 19 0 + days ≤ 1000 then (cDays M 0 days.toNatClampNeg 19 0, cDays M 0 days.toNatClampNeg) else (-5, M)) else (-2, M)
theorem pIn_nat {x lo hi : Int32} {a b : Nat} (h : pIn x lo hi) (hl : lo = nI a) (hh : hi = nI b) (ha : a < 2 ^ 31) (hb : b < 2 ^ 31) : ∃ k : Nat, x = nI k ∧ a ≤ k ∧ k ≤ b := by
  obtain ⟨h1, h2⟩ := h
  have h0 : ¬ x < 0 := by
    intro h3
    apply h1
    rw [hl]
    rw [Int32.lt_iff_toInt_lt] at h3 ⊢
    rw [nI_toInt ha]
    have : (0 : Int32).toInt = 0 := by decide
    omega
  obtain ⟨j, hj, rfl⟩ := nI_of h0
  refine ⟨j, rfl, ?_, ?_⟩
  · rw [hl, nI_ltI hj ha] at h1; omega
  · rw [hh, nI_ltI hb hj] at h2; omega
end
section
abbrev rX0_howItIs : Room := kR 0 0 0 0
abbrev rX0_loseCane : Room := kR 0 0 0 0
abbrev rX0_purityOn : Room := kR 1 0 0 21
abbrev rX3_bringLoad : Room := kR 1 0 0 23
abbrev rX3_bringLoads : Room := kR 2 0 0 47
abbrev rX3_crush : Room := kR 3 0 0 69
abbrev rX3_crushPart : Room := kR 2 0 0 45
abbrev rX3_goesAhead : Room := kR 0 0 0 0
abbrev rX3_loseOldCane : Room := kR 1 0 0 22
abbrev rX3_nextField : Room := kR 1 0 0 24
abbrev rX3_passDay : Room := kR 4 0 0 93
abbrev rX3_passDays : Room := kR 5 0 0 114
abbrev rX3_quotaOf : Room := kR 0 0 0 0
abbrev rX3_room : Room := kR 0 0 0 0
abbrev rX5_isStopped : Room := kR 1 0 0 22
abbrev rX6_append : Room := kR 0 0 0 0
abbrev rX6_dropFirst : Room := kR 0 0 0 0
abbrev rX6_takeFrom : Room := kR 1 0 0 22
abbrev rX7_isGrower : Room := kR 1 0 0 22
abbrev rX7_isWithin : Room := kR 0 0 0 0
theorem gfX0_18 {p : Program} {l : Launch} {e : Env} {R : Room} {s : State} {m : MethodId} {args : Array Value} {below : List Frame} {meth : Method} {c : Code} {H : Heap} {locs : List Loc} {cells slots : Nat} {Q : State → Prop} {cc : ByteArray} {pc : Nat} {ls : Array Slot} {rest : List Value} {D : va_G} {Y : Nat → ClassId} {ws : va_W} {a : Nat} (hx : p.tables.exec = Jvm.exec) (hb : c.code = cc) (hta : ∀ w ∈ kAL, w.before args s = true) (hown : s.vm.findClass RX0 = some m.cls) (hK : va_K D vwCl (kT Y) s) (hP : va_P D vwCl ws H) (q0 : Nat) {fs : List Value} {v : Value} (he : ws[q0]? = some (a, .inr (0, fs))) (hv : fs[2]? = some v) (hdg : decode cc pc = .ok (.getfield 18, 3)) (kk : W p l e R s m args below meth c H locs cells slots Q (F0 m (pc + 3) ls (v :: rest))) : W p l e R s m args below meth c H locs cells slots Q (F0 m pc ls (.ref a :: rest)) :=
  va_get (D := D) (ci := 0) (C := RX0) (T := TX0) (N := 9) hx hb hta inA0 hown hK hP q0 he rfl 2 (by decide) (hta _ al_71) (fun _ h9 => h9) hv hdg kk
theorem gfX0_21 {p : Program} {l : Launch} {e : Env} {R : Room} {s : State} {m : MethodId} {args : Array Value} {below : List Frame} {meth : Method} {c : Code} {H : Heap} {locs : List Loc} {cells slots : Nat} {Q : State → Prop} {cc : ByteArray} {pc : Nat} {ls : Array Slot} {rest : List Value} {D : va_G} {Y : Nat → ClassId} {ws : va_W} {a : Nat} (hx : p.tables.exec = Jvm.exec) (hb : c.code = cc) (hta : ∀ w ∈ kAL, w.before args s = true) (hown : s.vm.findClass RX0 = some m.cls) (hK : va_K D vwCl (kT Y) s) (hP : va_P D vwCl ws H) (q0 : Nat) {fs : List Value} {v : Value} (he : ws[q0]? = some (a, .inr (0, fs))) (hv : fs[3]? = some v) (hdg : decode cc pc = .ok (.getfield 21, 3)) (kk : W p l e R s m args below meth c H locs cells slots Q (F0 m (pc + 3) ls (v :: rest))) : W p l e R s m args below meth c H locs cells slots Q (F0 m pc ls (.ref a :: rest)) :=
  va_get (D := D) (ci := 0) (C := RX0) (T := TX0) (N := 9) hx hb hta inA0 hown hK hP q0 he rfl 3 (by decide) (hta _ al_72) (fun _ h9 => h9) hv hdg kk
theorem gfX0_24 {p : Program} {l : Launch} {e : Env} {R : Room} {s : State} {m : MethodId} {args : Array Value} {below : List Frame} {meth : Method} {c : Code} {H : Heap} {locs : List Loc} {cells slots : Nat} {Q : State → Prop} {cc : ByteArray} {pc : Nat} {ls : Array Slot} {rest : List Value} {D : va_G} {Y : Nat → ClassId} {ws : va_W} {a : Nat} (hx : p.tables.exec = Jvm.exec) (hb : c.code = cc) (hta : ∀ w ∈ kAL, w.before args s = true) (hown : s.vm.findClass RX0 = some m.cls) (hK : va_K D vwCl (kT Y) s) (hP : va_P D vwCl ws H) (q0 : Nat) {fs : List Value} {v : Value} (he : ws[q0]? = some (a, .inr (0, fs))) (hv : fs[4]? = some v) (hdg : decode cc pc = .ok (.getfield 24, 3)) (kk : W p l e R s m args below meth c H locs cells slots Q (F0 m (pc + 3) ls (v :: rest))) : W p l e R s m args below meth c H locs cells slots Q (F0 m pc ls (.ref a :: rest)) :=
  va_get (D := D) (ci := 0) (C := RX0) (T := TX0) (N := 9) hx hb hta inA0 hown hK hP q0 he rfl 4 (by decide) (hta _ al_73) (fun _ h9 => h9) hv hdg kk
theorem gfX0_33 {p : Program} {l : Launch} {e : Env} {R : Room} {s : State} {m : MethodId} {args : Array Value} {below : List Frame} {meth : Method} {c : Code} {H : Heap} {locs : List Loc} {cells slots : Nat} {Q : State → Prop} {cc : ByteArray} {pc : Nat} {ls : Array Slot} {rest : List Value} {D : va_G} {Y : Nat → ClassId} {ws : va_W} {a : Nat} (hx : p.tables.exec = Jvm.exec) (hb : c.code = cc) (hta : ∀ w ∈ kAL, w.before args s = true) (hown : s.vm.findClass RX0 = some m.cls) (hK : va_K D vwCl (kT Y) s) (hP : va_P D vwCl ws H) (q0 : Nat) {fs : List Value} {v : Value} (he : ws[q0]? = some (a, .inr (0, fs))) (hv : fs[7]? = some v) (hdg : decode cc pc = .ok (.getfield 33, 3)) (kk : W p l e R s m args below meth c H locs cells slots Q (F0 m (pc + 3) ls (v :: rest))) : W p l e R s m args below meth c H locs cells slots Q (F0 m pc ls (.ref a :: rest)) :=
  va_get (D := D) (ci := 0) (C := RX0) (T := TX0) (N := 9) hx hb hta inA0 hown hK hP q0 he rfl 7 (by decide) (hta _ al_76) (fun _ h9 => h9) hv hdg kk
theorem gfX3_9 {p : Program} {l : Launch} {e : Env} {R : Room} {s : State} {m : MethodId} {args : Array Value} {below : List Frame} {meth : Method} {c : Code} {H : Heap} {locs : List Loc} {cells slots : Nat} {Q : State → Prop} {cc : ByteArray} {pc : Nat} {ls : Array Slot} {rest : List Value} {D : va_G} {Y : Nat → ClassId} {ws : va_W} {a : Nat} (hx : p.tables.exec = Jvm.exec) (hb : c.code = cc) (hta : ∀ w ∈ kAL, w.before args s = true) (hown : s.vm.findClass RX3 = some m.cls) (hK : va_K D vwCl (kT Y) s) (hP : va_P D vwCl ws H) (q0 : Nat) {fs : List Value} {v : Value} (he : ws[q0]? = some (a, .inr (3, fs))) (hv : fs[0]? = some v) (hdg : decode cc pc = .ok (.getfield 9, 3)) (kk : W p l e R s m args below meth c H locs cells slots Q (F0 m (pc + 3) ls (v :: rest))) : W p l e R s m args below meth c H locs cells slots Q (F0 m pc ls (.ref a :: rest)) :=
  va_get (D := D) (ci := 3) (C := RX3) (T := TX3) (N := 9) hx hb hta inA3 hown hK hP q0 he rfl 0 (by decide) (hta _ al_41) (fun _ h9 => h9) hv hdg kk
theorem gfX3_18 {p : Program} {l : Launch} {e : Env} {R : Room} {s : State} {m : MethodId} {args : Array Value} {below : List Frame} {meth : Method} {c : Code} {H : Heap} {locs : List Loc} {cells slots : Nat} {Q : State → Prop} {cc : ByteArray} {pc : Nat} {ls : Array Slot} {rest : List Value} {D : va_G} {Y : Nat → ClassId} {ws : va_W} {a : Nat} (hx : p.tables.exec = Jvm.exec) (hb : c.code = cc) (hta : ∀ w ∈ kAL, w.before args s = true) (hown : s.vm.findClass RX3 = some m.cls) (hK : va_K D vwCl (kT Y) s) (hP : va_P D vwCl ws H) (q0 : Nat) {fs : List Value} {v : Value} (he : ws[q0]? = some (a, .inr (3, fs))) (hv : fs[1]? = some v) (hdg : decode cc pc = .ok (.getfield 18, 3)) (kk : W p l e R s m args below meth c H locs cells slots Q (F0 m (pc + 3) ls (v :: rest))) : W p l e R s m args below meth c H locs cells slots Q (F0 m pc ls (.ref a :: rest)) :=
  va_get (D := D) (ci := 3) (C := RX3) (T := TX3) (N := 9) hx hb hta inA3 hown hK hP q0 he rfl 1 (by decide) (hta _ al_45) (fun _ h9 => h9) hv hdg kk
theorem gfX3_25 {p : Program} {l : Launch} {e : Env} {R : Room} {s : State} {m : MethodId} {args : Array Value} {below : List Frame} {meth : Method} {c : Code} {H : Heap} {locs : List Loc} {cells slots : Nat} {Q : State → Prop} {cc : ByteArray} {pc : Nat} {ls : Array Slot} {rest : List Value} {D : va_G} {Y : Nat → ClassId} {ws : va_W} {a : Nat} (hx : p.tables.exec = Jvm.exec) (hb : c.code = cc) (hta : ∀ w ∈ kAL, w.before args s = true) (hown : s.vm.findClass RX3 = some m.cls) (hK : va_K D vwCl (kT Y) s) (hP : va_P D vwCl ws H) (q0 : Nat) {fs : List Value} {v : Value} (he : ws[q0]? = some (a, .inr (3, fs))) (hv : fs[2]? = some v) (hdg : decode cc pc = .ok (.getfield 25, 3)) (kk : W p l e R s m args below meth c H locs cells slots Q (F0 m (pc + 3) ls (v :: rest))) : W p l e R s m args below meth c H locs cells slots Q (F0 m pc ls (.ref a :: rest)) :=
  va_get (D := D) (ci := 3) (C := RX3) (T := TX3) (N := 9) hx hb hta inA3 hown hK hP q0 he rfl 2 (by decide) (hta _ al_49) (fun _ h9 => h9) hv hdg kk
theorem gfX3_32 {p : Program} {l : Launch} {e : Env} {R : Room} {s : State} {m : MethodId} {args : Array Value} {below : List Frame} {meth : Method} {c : Code} {H : Heap} {locs : List Loc} {cells slots : Nat} {Q : State → Prop} {cc : ByteArray} {pc : Nat} {ls : Array Slot} {rest : List Value} {D : va_G} {Y : Nat → ClassId} {ws : va_W} {a : Nat} (hx : p.tables.exec = Jvm.exec) (hb : c.code = cc) (hta : ∀ w ∈ kAL, w.before args s = true) (hown : s.vm.findClass RX3 = some m.cls) (hK : va_K D vwCl (kT Y) s) (hP : va_P D vwCl ws H) (q0 : Nat) {fs : List Value} {v : Value} (he : ws[q0]? = some (a, .inr (3, fs))) (hv : fs[3]? = some v) (hdg : decode cc pc = .ok (.getfield 32, 3)) (kk : W p l e R s m args below meth c H locs cells slots Q (F0 m (pc + 3) ls (v :: rest))) : W p l e R s m args below meth c H locs cells slots Q (F0 m pc ls (.ref a :: rest)) :=
  va_get (D := D) (ci := 3) (C := RX3) (T := TX3) (N := 9) hx hb hta inA3 hown hK hP q0 he rfl 3 (by decide) (hta _ al_53) (fun _ h9 => h9) hv hdg kk
theorem gfX3_39 {p : Program} {l : Launch} {e : Env} {R : Room} {s : State} {m : MethodId} {args : Array Value} {below : List Frame} {meth : Method} {c : Code} {H : Heap} {locs : List Loc} {cells slots : Nat} {Q : State → Prop} {cc : ByteArray} {pc : Nat} {ls : Array Slot} {rest : List Value} {D : va_G} {Y : Nat → ClassId} {ws : va_W} {a : Nat} (hx : p.tables.exec = Jvm.exec) (hb : c.code = cc) (hta : ∀ w ∈ kAL, w.before args s = true) (hown : s.vm.findClass RX3 = some m.cls) (hK : va_K D vwCl (kT Y) s) (hP : va_P D vwCl ws H) (q0 : Nat) {fs : List Value} {v : Value} (he : ws[q0]? = some (a, .inr (3, fs))) (hv : fs[4]? = some v) (hdg : decode cc pc = .ok (.getfield 39, 3)) (kk : W p l e R s m args below meth c H locs cells slots Q (F0 m (pc + 3) ls (v :: rest))) : W p l e R s m args below meth c H locs cells slots Q (F0 m pc ls (.ref a :: rest)) :=
  va_get (D := D) (ci := 3) (C := RX3) (T := TX3) (N := 9) hx hb hta inA3 hown hK hP q0 he rfl 4 (by decide) (hta _ al_57) (fun _ h9 => h9) hv hdg kk
theorem gfX3_60 {p : Program} {l : Launch} {e : Env} {R : Room} {s : State} {m : MethodId} {args : Array Value} {below : List Frame} {meth : Method} {c : Code} {H : Heap} {locs : List Loc} {cells slots : Nat} {Q : State → Prop} {cc : ByteArray} {pc : Nat} {ls : Array Slot} {rest : List Value} {D : va_G} {Y : Nat → ClassId} {ws : va_W} {a : Nat} (hx : p.tables.exec = Jvm.exec) (hb : c.code = cc) (hta : ∀ w ∈ kAL, w.before args s = true) (hown : s.vm.findClass RX3 = some m.cls) (hK : va_K D vwCl (kT Y) s) (hP : va_P D vwCl ws H) (q0 : Nat) {fs : List Value} {v : Value} (he : ws[q0]? = some (a, .inr (3, fs))) (hv : fs[5]? = some v) (hdg : decode cc pc = .ok (.getfield 60, 3)) (kk : W p l e R s m args below meth c H locs cells slots Q (F0 m (pc + 3) ls (v :: rest))) : W p l e R s m args below meth c H locs cells slots Q (F0 m pc ls (.ref a :: rest)) :=
  va_get (D := D) (ci := 3) (C := RX3) (T := TX3) (N := 9) hx hb hta inA3 hown hK hP q0 he rfl 5 (by decide) (hta _ al_125) (fun _ h9 => h9) hv hdg kk
theorem gfX3_64 {p : Program} {l : Launch} {e : Env} {R : Room} {s : State} {m : MethodId} {args : Array Value} {below : List Frame} {meth : Method} {c : Code} {H : Heap} {locs : List Loc} {cells slots : Nat} {Q : State → Prop} {cc : ByteArray} {pc : Nat} {ls : Array Slot} {rest : List Value} {D : va_G} {Y : Nat → ClassId} {ws : va_W} {a : Nat} (hx : p.tables.exec = Jvm.exec) (hb : c.code = cc) (hta : ∀ w ∈ kAL, w.before args s = true) (hown : s.vm.findClass RX3 = some m.cls) (hK : va_K D vwCl (kT Y) s) (hP : va_P D vwCl ws H) (q0 : Nat) {fs : List Value} {v : Value} (he : ws[q0]? = some (a, .inr (3, fs))) (hv : fs[6]? = some v) (hdg : decode cc pc = .ok (.getfield 64, 3)) (kk : W p l e R s m args below meth c H locs cells slots Q (F0 m (pc + 3) ls (v :: rest))) : W p l e R s m args below meth c H locs cells slots Q (F0 m pc ls (.ref a :: rest)) :=
  va_get (D := D) (ci := 3) (C := RX3) (T := TX3) (N := 9) hx hb hta inA3 hown hK hP q0 he rfl 6 (by decide) (hta _ al_126) (fun _ h9 => h9) hv hdg kk
theorem gfX3_67 {p : Program} {l : Launch} {e : Env} {R : Room} {s : State} {m : MethodId} {args : Array Value} {below : List Frame} {meth : Method} {c : Code} {H : Heap} {locs : List Loc} {cells slots : Nat} {Q : State → Prop} {cc : ByteArray} {pc : Nat} {ls : Array Slot} {rest : List Value} {D : va_G} {Y : Nat → ClassId} {ws : va_W} {a : Nat} (hx : p.tables.exec = Jvm.exec) (hb : c.code = cc) (hta : ∀ w ∈ kAL, w.before args s = true) (hown : s.vm.findClass RX3 = some m.cls) (hK : va_K D vwCl (kT Y) s) (hP : va_P D vwCl ws H) (q0 : Nat) {fs : List Value} {v : Value} (he : ws[q0]? = some (a, .inr (3, fs))) (hv : fs[7]? = some v) (hdg : decode cc pc = .ok (.getfield 67, 3)) (kk : W p l e R s m args below meth c H locs cells slots Q (F0 m (pc + 3) ls (v :: rest))) : W p l e R s m args below meth c H locs cells slots Q (F0 m pc ls (.ref a :: rest)) :=
  va_get (D := D) (ci := 3) (C := RX3) (T := TX3) (N := 9) hx hb hta inA3 hown hK hP q0 he rfl 7 (by decide) (hta _ al_127) (fun _ h9 => h9) hv hdg kk
theorem gfX3_70 {p : Program} {l : Launch} {e : Env} {R : Room} {s : State} {m : MethodId} {args : Array Value} {below : List Frame} {meth : Method} {c : Code} {H : Heap} {locs : List Loc} {cells slots : Nat} {Q : State → Prop} {cc : ByteArray} {pc : Nat} {ls : Array Slot} {rest : List Value} {D : va_G} {Y : Nat → ClassId} {ws : va_W} {a : Nat} (hx : p.tables.exec = Jvm.exec) (hb : c.code = cc) (hta : ∀ w ∈ kAL, w.before args s = true) (hown : s.vm.findClass RX3 = some m.cls) (hK : va_K D vwCl (kT Y) s) (hP : va_P D vwCl ws H) (q0 : Nat) {fs : List Value} {v : Value} (he : ws[q0]? = some (a, .inr (3, fs))) (hv : fs[8]? = some v) (hdg : decode cc pc = .ok (.getfield 70, 3)) (kk : W p l e R s m args below meth c H locs cells slots Q (F0 m (pc + 3) ls (v :: rest))) : W p l e R s m args below meth c H locs cells slots Q (F0 m pc ls (.ref a :: rest)) :=
  va_get (D := D) (ci := 3) (C := RX3) (T := TX3) (N := 9) hx hb hta inA3 hown hK hP q0 he rfl 8 (by decide) (hta _ al_128) (fun _ h9 => h9) hv hdg kk
theorem gfX3_87 {p : Program} {l : Launch} {e : Env} {R : Room} {s : State} {m : MethodId} {args : Array Value} {below : List Frame} {meth : Method} {c : Code} {H : Heap} {locs : List Loc} {cells slots : Nat} {Q : State → Prop} {cc : ByteArray} {pc : Nat} {ls : Array Slot} {rest : List Value} {D : va_G} {Y : Nat → ClassId} {ws : va_W} {a : Nat} (hx : p.tables.exec = Jvm.exec) (hb : c.code = cc) (hta : ∀ w ∈ kAL, w.before args s = true) (hown : s.vm.findClass RX3 = some m.cls) (hK : va_K D vwCl (kT Y) s) (hP : va_P D vwCl ws H) (q0 : Nat) {fs : List Value} {v : Value} (he : ws[q0]? = some (a, .inr (1, fs))) (hv : fs[0]? = some v) (hdg : decode cc pc = .ok (.getfield 87, 3)) (kk : W p l e R s m args below meth c H locs cells slots Q (F0 m (pc + 3) ls (v :: rest))) : W p l e R s m args below meth c H locs cells slots Q (F0 m pc ls (.ref a :: rest)) :=
  va_get (D := D) (ci := 1) (C := RX1) (T := TX1) (N := 5) hx hb hta inA1 hown hK hP q0 he rfl 0 (by decide) (hta _ al_201) (fun _ h9 => h9) hv hdg kk
theorem gfX3_110 {p : Program} {l : Launch} {e : Env} {R : Room} {s : State} {m : MethodId} {args : Array Value} {below : List Frame} {meth : Method} {c : Code} {H : Heap} {locs : List Loc} {cells slots : Nat} {Q : State → Prop} {cc : ByteArray} {pc : Nat} {ls : Array Slot} {rest : List Value} {D : va_G} {Y : Nat → ClassId} {ws : va_W} {a : Nat} (hx : p.tables.exec = Jvm.exec) (hb : c.code = cc) (hta : ∀ w ∈ kAL, w.before args s = true) (hown : s.vm.findClass RX3 = some m.cls) (hK : va_K D vwCl (kT Y) s) (hP : va_P D vwCl ws H) (q0 : Nat) {fs : List Value} {v : Value} (he : ws[q0]? = some (a, .inr (0, fs))) (hv : fs[8]? = some v) (hdg : decode cc pc = .ok (.getfield 110, 3)) (kk : W p l e R s m args below meth c H locs cells slots Q (F0 m (pc + 3) ls (v :: rest))) : W p l e R s m args below meth c H locs cells slots Q (F0 m pc ls (.ref a :: rest)) :=
  va_get (D := D) (ci := 0) (C := RX0) (T := TX0) (N := 9) hx hb hta inA0 hown hK hP q0 he rfl 8 (by decide) (hta _ al_311) (fun _ h9 => h9) hv hdg kk
theorem gfX3_113 {p : Program} {l : Launch} {e : Env} {R : Room} {s : State} {m : MethodId} {args : Array Value} {below : List Frame} {meth : Method} {c : Code} {H : Heap} {locs : List Loc} {cells slots : Nat} {Q : State → Prop} {cc : ByteArray} {pc : Nat} {ls : Array Slot} {rest : List Value} {D : va_G} {Y : Nat → ClassId} {ws : va_W} {a : Nat} (hx : p.tables.exec = Jvm.exec) (hb : c.code = cc) (hta : ∀ w ∈ kAL, w.before args s = true) (hown : s.vm.findClass RX3 = some m.cls) (hK : va_K D vwCl (kT Y) s) (hP : va_P D vwCl ws H) (q0 : Nat) {fs : List Value} {v : Value} (he : ws[q0]? = some (a, .inr (0, fs))) (hv : fs[3]? = some v) (hdg : decode cc pc = .ok (.getfield 113, 3)) (kk : W p l e R s m args below meth c H locs cells slots Q (F0 m (pc + 3) ls (v :: rest))) : W p l e R s m args below meth c H locs cells slots Q (F0 m pc ls (.ref a :: rest)) :=
  va_get (D := D) (ci := 0) (C := RX0) (T := TX0) (N := 9) hx hb hta inA0 hown hK hP q0 he rfl 3 (by decide) (hta _ al_312) (fun _ h9 => h9) hv hdg kk
theorem gfX3_116 {p : Program} {l : Launch} {e : Env} {R : Room} {s : State} {m : MethodId} {args : Array Value} {below : List Frame} {meth : Method} {c : Code} {H : Heap} {locs : List Loc} {cells slots : Nat} {Q : State → Prop} {cc : ByteArray} {pc : Nat} {ls : Array Slot} {rest : List Value} {D : va_G} {Y : Nat → ClassId} {ws : va_W} {a : Nat} (hx : p.tables.exec = Jvm.exec) (hb : c.code = cc) (hta : ∀ w ∈ kAL, w.before args s = true) (hown : s.vm.findClass RX3 = some m.cls) (hK : va_K D vwCl (kT Y) s) (hP : va_P D vwCl ws H) (q0 : Nat) {fs : List Value} {v : Value} (he : ws[q0]? = some (a, .inr (1, fs))) (hv : fs[3]? = some v) (hdg : decode cc pc = .ok (.getfield 116, 3)) (kk : W p l e R s m args below meth c H locs cells slots Q (F0 m (pc + 3) ls (v :: rest))) : W p l e R s m args below meth c H locs cells slots Q (F0 m pc ls (.ref a :: rest)) :=
  va_get (D := D) (ci := 1) (C := RX1) (T := TX1) (N := 5) hx hb hta inA1 hown hK hP q0 he rfl 3 (by decide) (hta _ al_313) (fun _ h9 => h9) hv hdg kk
theorem gfX3_119 {p : Program} {l : Launch} {e : Env} {R : Room} {s : State} {m : MethodId} {args : Array Value} {below : List Frame} {meth : Method} {c : Code} {H : Heap} {locs : List Loc} {cells slots : Nat} {Q : State → Prop} {cc : ByteArray} {pc : Nat} {ls : Array Slot} {rest : List Value} {D : va_G} {Y : Nat → ClassId} {ws : va_W} {a : Nat} (hx : p.tables.exec = Jvm.exec) (hb : c.code = cc) (hta : ∀ w ∈ kAL, w.before args s = true) (hown : s.vm.findClass RX3 = some m.cls) (hK : va_K D vwCl (kT Y) s) (hP : va_P D vwCl ws H) (q0 : Nat) {fs : List Value} {v : Value} (he : ws[q0]? = some (a, .inr (0, fs))) (hv : fs[0]? = some v) (hdg : decode cc pc = .ok (.getfield 119, 3)) (kk : W p l e R s m args below meth c H locs cells slots Q (F0 m (pc + 3) ls (v :: rest))) : W p l e R s m args below meth c H locs cells slots Q (F0 m pc ls (.ref a :: rest)) :=
  va_get (D := D) (ci := 0) (C := RX0) (T := TX0) (N := 9) hx hb hta inA0 hown hK hP q0 he rfl 0 (by decide) (hta _ al_314) (fun _ h9 => h9) hv hdg kk
theorem gfX3_148 {p : Program} {l : Launch} {e : Env} {R : Room} {s : State} {m : MethodId} {args : Array Value} {below : List Frame} {meth : Method} {c : Code} {H : Heap} {locs : List Loc} {cells slots : Nat} {Q : State → Prop} {cc : ByteArray} {pc : Nat} {ls : Array Slot} {rest : List Value} {D : va_G} {Y : Nat → ClassId} {ws : va_W} {a : Nat} (hx : p.tables.exec = Jvm.exec) (hb : c.code = cc) (hta : ∀ w ∈ kAL, w.before args s = true) (hown : s.vm.findClass RX3 = some m.cls) (hK : va_K D vwCl (kT Y) s) (hP : va_P D vwCl ws H) (q0 : Nat) {fs : List Value} {v : Value} (he : ws[q0]? = some (a, .inr (6, fs))) (hv : fs[3]? = some v) (hdg : decode cc pc = .ok (.getfield 148, 3)) (kk : W p l e R s m args below meth c H locs cells slots Q (F0 m (pc + 3) ls (v :: rest))) : W p l e R s m args below meth c H locs cells slots Q (F0 m pc ls (.ref a :: rest)) :=
  va_get (D := D) (ci := 6) (C := RX6) (T := TX6) (N := 5) hx hb hta inA6 hown hK hP q0 he rfl 3 (by decide) (hta _ al_331) (fun _ h9 => h9) hv hdg kk
theorem gfX3_151 {p : Program} {l : Launch} {e : Env} {R : Room} {s : State} {m : MethodId} {args : Array Value} {below : List Frame} {meth : Method} {c : Code} {H : Heap} {locs : List Loc} {cells slots : Nat} {Q : State → Prop} {cc : ByteArray} {pc : Nat} {ls : Array Slot} {rest : List Value} {D : va_G} {Y : Nat → ClassId} {ws : va_W} {a : Nat} (hx : p.tables.exec = Jvm.exec) (hb : c.code = cc) (hta : ∀ w ∈ kAL, w.before args s = true) (hown : s.vm.findClass RX3 = some m.cls) (hK : va_K D vwCl (kT Y) s) (hP : va_P D vwCl ws H) (q0 : Nat) {fs : List Value} {v : Value} (he : ws[q0]? = some (a, .inr (6, fs))) (hv : fs[4]? = some v) (hdg : decode cc pc = .ok (.getfield 151, 3)) (kk : W p l e R s m args below meth c H locs cells slots Q (F0 m (pc + 3) ls (v :: rest))) : W p l e R s m args below meth c H locs cells slots Q (F0 m pc ls (.ref a :: rest)) :=
  va_get (D := D) (ci := 6) (C := RX6) (T := TX6) (N := 5) hx hb hta inA6 hown hK hP q0 he rfl 4 (by decide) (hta _ al_332) (fun _ h9 => h9) hv hdg kk
theorem gfX3_154 {p : Program} {l : Launch} {e : Env} {R : Room} {s : State} {m : MethodId} {args : Array Value} {below : List Frame} {meth : Method} {c : Code} {H : Heap} {locs : List Loc} {cells slots : Nat} {Q : State → Prop} {cc : ByteArray} {pc : Nat} {ls : Array Slot} {rest : List Value} {D : va_G} {Y : Nat → ClassId} {ws : va_W} {a : Nat} (hx : p.tables.exec = Jvm.exec) (hb : c.code = cc) (hta : ∀ w ∈ kAL, w.before args s = true) (hown : s.vm.findClass RX3 = some m.cls) (hK : va_K D vwCl (kT Y) s) (hP : va_P D vwCl ws H) (q0 : Nat) {fs : List Value} {v : Value} (he : ws[q0]? = some (a, .inr (0, fs))) (hv : fs[4]? = some v) (hdg : decode cc pc = .ok (.getfield 154, 3)) (kk : W p l e R s m args below meth c H locs cells slots Q (F0 m (pc + 3) ls (v :: rest))) : W p l e R s m args below meth c H locs cells slots Q (F0 m pc ls (.ref a :: rest)) :=
  va_get (D := D) (ci := 0) (C := RX0) (T := TX0) (N := 9) hx hb hta inA0 hown hK hP q0 he rfl 4 (by decide) (hta _ al_349) (fun _ h9 => h9) hv hdg kk
theorem gfX3_162 {p : Program} {l : Launch} {e : Env} {R : Room} {s : State} {m : MethodId} {args : Array Value} {below : List Frame} {meth : Method} {c : Code} {H : Heap} {locs : List Loc} {cells slots : Nat} {Q : State → Prop} {cc : ByteArray} {pc : Nat} {ls : Array Slot} {rest : List Value} {D : va_G} {Y : Nat → ClassId} {ws : va_W} {a : Nat} (hx : p.tables.exec = Jvm.exec) (hb : c.code = cc) (hta : ∀ w ∈ kAL, w.before args s = true) (hown : s.vm.findClass RX3 = some m.cls) (hK : va_K D vwCl (kT Y) s) (hP : va_P D vwCl ws H) (q0 : Nat) {fs : List Value} {v : Value} (he : ws[q0]? = some (a, .inr (1, fs))) (hv : fs[1]? = some v) (hdg : decode cc pc = .ok (.getfield 162, 3)) (kk : W p l e R s m args below meth c H locs cells slots Q (F0 m (pc + 3) ls (v :: rest))) : W p l e R s m args below meth c H locs cells slots Q (F0 m pc ls (.ref a :: rest)) :=
  va_get (D := D) (ci := 1) (C := RX1) (T := TX1) (N := 5) hx hb hta inA1 hown hK hP q0 he rfl 1 (by decide) (hta _ al_351) (fun _ h9 => h9) hv hdg kk
theorem gfX3_165 {p : Program} {l : Launch} {e : Env} {R : Room} {s : State} {m : MethodId} {args : Array Value} {below : List Frame} {meth : Method} {c : Code} {H : Heap} {locs : List Loc} {cells slots : Nat} {Q : State → Prop} {cc : ByteArray} {pc : Nat} {ls : Array Slot} {rest : List Value} {D : va_G} {Y : Nat → ClassId} {ws : va_W} {a : Nat} (hx : p.tables.exec = Jvm.exec) (hb : c.code = cc) (hta : ∀ w ∈ kAL, w.before args s = true) (hown : s.vm.findClass RX3 = some m.cls) (hK : va_K D vwCl (kT Y) s) (hP : va_P D vwCl ws H) (q0 : Nat) {fs : List Value} {v : Value} (he : ws[q0]? = some (a, .inr (0, fs))) (hv : fs[5]? = some v) (hdg : decode cc pc = .ok (.getfield 165, 3)) (kk : W p l e R s m args below meth c H locs cells slots Q (F0 m (pc + 3) ls (v :: rest))) : W p l e R s m args below meth c H locs cells slots Q (F0 m pc ls (.ref a :: rest)) :=
  va_get (D := D) (ci := 0) (C := RX0) (T := TX0) (N := 9) hx hb hta inA0 hown hK hP q0 he rfl 5 (by decide) (hta _ al_352) (fun _ h9 => h9) hv hdg kk
theorem gfX3_171 {p : Program} {l : Launch} {e : Env} {R : Room} {s : State} {m : MethodId} {args : Array Value} {below : List Frame} {meth : Method} {c : Code} {H : Heap} {locs : List Loc} {cells slots : Nat} {Q : State → Prop} {cc : ByteArray} {pc : Nat} {ls : Array Slot} {rest : List Value} {D : va_G} {Y : Nat → ClassId} {ws : va_W} {a : Nat} (hx : p.tables.exec = Jvm.exec) (hb : c.code = cc) (hta : ∀ w ∈ kAL, w.before args s = true) (hown : s.vm.findClass RX3 = some m.cls) (hK : va_K D vwCl (kT Y) s) (hP : va_P D vwCl ws H) (q0 : Nat) {fs : List Value} {v : Value} (he : ws[q0]? = some (a, .inr (6, fs))) (hv : fs[1]? = some v) (hdg : decode cc pc = .ok (.getfield 171, 3)) (kk : W p l e R s m args below meth c H locs cells slots Q (F0 m (pc + 3) ls (v :: rest))) : W p l e R s m args below meth c H locs cells slots Q (F0 m pc ls (.ref a :: rest)) :=
  va_get (D := D) (ci := 6) (C := RX6) (T := TX6) (N := 5) hx hb hta inA6 hown hK hP q0 he rfl 1 (by decide) (hta _ al_365) (fun _ h9 => h9) hv hdg kk
theorem gfX3_174 {p : Program} {l : Launch} {e : Env} {R : Room} {s : State} {m : MethodId} {args : Array Value} {below : List Frame} {meth : Method} {c : Code} {H : Heap} {locs : List Loc} {cells slots : Nat} {Q : State → Prop} {cc : ByteArray} {pc : Nat} {ls : Array Slot} {rest : List Value} {D : va_G} {Y : Nat → ClassId} {ws : va_W} {a : Nat} (hx : p.tables.exec = Jvm.exec) (hb : c.code = cc) (hta : ∀ w ∈ kAL, w.before args s = true) (hown : s.vm.findClass RX3 = some m.cls) (hK : va_K D vwCl (kT Y) s) (hP : va_P D vwCl ws H) (q0 : Nat) {fs : List Value} {v : Value} (he : ws[q0]? = some (a, .inr (6, fs))) (hv : fs[0]? = some v) (hdg : decode cc pc = .ok (.getfield 174, 3)) (kk : W p l e R s m args below meth c H locs cells slots Q (F0 m (pc + 3) ls (v :: rest))) : W p l e R s m args below meth c H locs cells slots Q (F0 m pc ls (.ref a :: rest)) :=
  va_get (D := D) (ci := 6) (C := RX6) (T := TX6) (N := 5) hx hb hta inA6 hown hK hP q0 he rfl 0 (by decide) (hta _ al_366) (fun _ h9 => h9) hv hdg kk
theorem gfX3_191 {p : Program} {l : Launch} {e : Env} {R : Room} {s : State} {m : MethodId} {args : Array Value} {below : List Frame} {meth : Method} {c : Code} {H : Heap} {locs : List Loc} {cells slots : Nat} {Q : State → Prop} {cc : ByteArray} {pc : Nat} {ls : Array Slot} {rest : List Value} {D : va_G} {Y : Nat → ClassId} {ws : va_W} {a : Nat} (hx : p.tables.exec = Jvm.exec) (hb : c.code = cc) (hta : ∀ w ∈ kAL, w.before args s = true) (hown : s.vm.findClass RX3 = some m.cls) (hK : va_K D vwCl (kT Y) s) (hP : va_P D vwCl ws H) (q0 : Nat) {fs : List Value} {v : Value} (he : ws[q0]? = some (a, .inr (1, fs))) (hv : fs[4]? = some v) (hdg : decode cc pc = .ok (.getfield 191, 3)) (kk : W p l e R s m args below meth c H locs cells slots Q (F0 m (pc + 3) ls (v :: rest))) : W p l e R s m args below meth c H locs cells slots Q (F0 m pc ls (.ref a :: rest)) :=
  va_get (D := D) (ci := 1) (C := RX1) (T := TX1) (N := 5) hx hb hta inA1 hown hK hP q0 he rfl 4 (by decide) (hta _ al_371) (fun _ h9 => h9) hv hdg kk
theorem gfX3_194 {p : Program} {l : Launch} {e : Env} {R : Room} {s : State} {m : MethodId} {args : Array Value} {below : List Frame} {meth : Method} {c : Code} {H : Heap} {locs : List Loc} {cells slots : Nat} {Q : State → Prop} {cc : ByteArray} {pc : Nat} {ls : Array Slot} {rest : List Value} {D : va_G} {Y : Nat → ClassId} {ws : va_W} {a : Nat} (hx : p.tables.exec = Jvm.exec) (hb : c.code = cc) (hta : ∀ w ∈ kAL, w.before args s = true) (hown : s.vm.findClass RX3 = some m.cls) (hK : va_K D vwCl (kT Y) s) (hP : va_P D vwCl ws H) (q0 : Nat) {fs : List Value} {v : Value} (he : ws[q0]? = some (a, .inr (1, fs))) (hv : fs[2]? = some v) (hdg : decode cc pc = .ok (.getfield 194, 3)) (kk : W p l e R s m args below meth c H locs cells slots Q (F0 m (pc + 3) ls (v :: rest))) : W p l e R s m args below meth c H locs cells slots Q (F0 m pc ls (.ref a :: rest)) :=
  va_get (D := D) (ci := 1) (C := RX1) (T := TX1) (N := 5) hx hb hta inA1 hown hK hP q0 he rfl 2 (by decide) (hta _ al_372) (fun _ h9 => h9) hv hdg kk
theorem gfX3_197 {p : Program} {l : Launch} {e : Env} {R : Room} {s : State} {m : MethodId} {args : Array Value} {below : List Frame} {meth : Method} {c : Code} {H : Heap} {locs : List Loc} {cells slots : Nat} {Q : State → Prop} {cc : ByteArray} {pc : Nat} {ls : Array Slot} {rest : List Value} {D : va_G} {Y : Nat → ClassId} {ws : va_W} {a : Nat} (hx : p.tables.exec = Jvm.exec) (hb : c.code = cc) (hta : ∀ w ∈ kAL, w.before args s = true) (hown : s.vm.findClass RX3 = some m.cls) (hK : va_K D vwCl (kT Y) s) (hP : va_P D vwCl ws H) (q0 : Nat) {fs : List Value} {v : Value} (he : ws[q0]? = some (a, .inr (0, fs))) (hv : fs[6]? = some v) (hdg : decode cc pc = .ok (.getfield 197, 3)) (kk : W p l e R s m args below meth c H locs cells slots Q (F0 m (pc + 3) ls (v :: rest))) : W p l e R s m args below meth c H locs cells slots Q (F0 m pc ls (.ref a :: rest)) :=
  va_get (D := D) (ci := 0) (C := RX0) (T := TX0) (N := 9) hx hb hta inA0 hown hK hP q0 he rfl 6 (by decide) (hta _ al_373) (fun _ h9 => h9) hv hdg kk
theorem gfX5_9 {p : Program} {l : Launch} {e : Env} {R : Room} {s : State} {m : MethodId} {args : Array Value} {below : List Frame} {meth : Method} {c : Code} {H : Heap} {locs : List Loc} {cells slots : Nat} {Q : State → Prop} {cc : ByteArray} {pc : Nat} {ls : Array Slot} {rest : List Value} {D : va_G} {Y : Nat → ClassId} {ws : va_W} {a : Nat} (hx : p.tables.exec = Jvm.exec) (hb : c.code = cc) (hta : ∀ w ∈ kAL, w.before args s = true) (hown : s.vm.findClass RX5 = some m.cls) (hK : va_K D vwCl (kT Y) s) (hP : va_P D vwCl ws H) (q0 : Nat) {fs : List Value} {v : Value} (he : ws[q0]? = some (a, .inr (5, fs))) (hv : fs[0]? = some v) (hdg : decode cc pc = .ok (.getfield 9, 3)) (kk : W p l e R s m args below meth c H locs cells slots Q (F0 m (pc + 3) ls (v :: rest))) : W p l e R s m args below meth c H locs cells slots Q (F0 m pc ls (.ref a :: rest)) :=
  va_get (D := D) (ci := 5) (C := RX5) (T := TX5) (N := 3) hx hb hta inA5 hown hK hP q0 he rfl 0 (by decide) (hta _ al_80) (fun _ h9 => h9) hv hdg kk
theorem gfX5_15 {p : Program} {l : Launch} {e : Env} {R : Room} {s : State} {m : MethodId} {args : Array Value} {below : List Frame} {meth : Method} {c : Code} {H : Heap} {locs : List Loc} {cells slots : Nat} {Q : State → Prop} {cc : ByteArray} {pc : Nat} {ls : Array Slot} {rest : List Value} {D : va_G} {Y : Nat → ClassId} {ws : va_W} {a : Nat} (hx : p.tables.exec = Jvm.exec) (hb : c.code = cc) (hta : ∀ w ∈ kAL, w.before args s = true) (hown : s.vm.findClass RX5 = some m.cls) (hK : va_K D vwCl (kT Y) s) (hP : va_P D vwCl ws H) (q0 : Nat) {fs : List Value} {v : Value} (he : ws[q0]? = some (a, .inr (5, fs))) (hv : fs[1]? = some v) (hdg : decode cc pc = .ok (.getfield 15, 3)) (kk : W p l e R s m args below meth c H locs cells slots Q (F0 m (pc + 3) ls (v :: rest))) : W p l e R s m args below meth c H locs cells slots Q (F0 m pc ls (.ref a :: rest)) :=
  va_get (D := D) (ci := 5) (C := RX5) (T := TX5) (N := 3) hx hb hta inA5 hown hK hP q0 he rfl 1 (by decide) (hta _ al_81) (fun _ h9 => h9) hv hdg kk
theorem gfX5_18 {p : Program} {l : Launch} {e : Env} {R : Room} {s : State} {m : MethodId} {args : Array Value} {below : List Frame} {meth : Method} {c : Code} {H : Heap} {locs : List Loc} {cells slots : Nat} {Q : State → Prop} {cc : ByteArray} {pc : Nat} {ls : Array Slot} {rest : List Value} {D : va_G} {Y : Nat → ClassId} {ws : va_W} {a : Nat} (hx : p.tables.exec = Jvm.exec) (hb : c.code = cc) (hta : ∀ w ∈ kAL, w.before args s = true) (hown : s.vm.findClass RX5 = some m.cls) (hK : va_K D vwCl (kT Y) s) (hP : va_P D vwCl ws H) (q0 : Nat) {fs : List Value} {v : Value} (he : ws[q0]? = some (a, .inr (5, fs))) (hv : fs[2]? = some v) (hdg : decode cc pc = .ok (.getfield 18, 3)) (kk : W p l e R s m args below meth c H locs cells slots Q (F0 m (pc + 3) ls (v :: rest))) : W p l e R s m args below meth c H locs cells slots Q (F0 m pc ls (.ref a :: rest)) :=
  va_get (D := D) (ci := 5) (C := RX5) (T := TX5) (N := 3) hx hb hta inA5 hown hK hP q0 he rfl 2 (by decide) (hta _ al_152) (fun _ h9 => h9) hv hdg kk
theorem gfX6_9 {p : Program} {l : Launch} {e : Env} {R : Room} {s : State} {m : MethodId} {args : Array Value} {below : List Frame} {meth : Method} {c : Code} {H : Heap} {locs : List Loc} {cells slots : Nat} {Q : State → Prop} {cc : ByteArray} {pc : Nat} {ls : Array Slot} {rest : List Value} {D : va_G} {Y : Nat → ClassId} {ws : va_W} {a : Nat} (hx : p.tables.exec = Jvm.exec) (hb : c.code = cc) (hta : ∀ w ∈ kAL, w.before args s = true) (hown : s.vm.findClass RX6 = some m.cls) (hK : va_K D vwCl (kT Y) s) (hP : va_P D vwCl ws H) (q0 : Nat) {fs : List Value} {v : Value} (he : ws[q0]? = some (a, .inr (6, fs))) (hv : fs[0]? = some v) (hdg : decode cc pc = .ok (.getfield 9, 3)) (kk : W p l e R s m args below meth c H locs cells slots Q (F0 m (pc + 3) ls (v :: rest))) : W p l e R s m args below meth c H locs cells slots Q (F0 m pc ls (.ref a :: rest)) :=
  va_get (D := D) (ci := 6) (C := RX6) (T := TX6) (N := 5) hx hb hta inA6 hown hK hP q0 he rfl 0 (by decide) (hta _ al_85) (fun _ h9 => h9) hv hdg kk
theorem gfX6_15 {p : Program} {l : Launch} {e : Env} {R : Room} {s : State} {m : MethodId} {args : Array Value} {below : List Frame} {meth : Method} {c : Code} {H : Heap} {locs : List Loc} {cells slots : Nat} {Q : State → Prop} {cc : ByteArray} {pc : Nat} {ls : Array Slot} {rest : List Value} {D : va_G} {Y : Nat → ClassId} {ws : va_W} {a : Nat} (hx : p.tables.exec = Jvm.exec) (hb : c.code = cc) (hta : ∀ w ∈ kAL, w.before args s = true) (hown : s.vm.findClass RX6 = some m.cls) (hK : va_K D vwCl (kT Y) s) (hP : va_P D vwCl ws H) (q0 : Nat) {fs : List Value} {v : Value} (he : ws[q0]? = some (a, .inr (6, fs))) (hv : fs[1]? = some v) (hdg : decode cc pc = .ok (.getfield 15, 3)) (kk : W p l e R s m args below meth c H locs cells slots Q (F0 m (pc + 3) ls (v :: rest))) : W p l e R s m args below meth c H locs cells slots Q (F0 m pc ls (.ref a :: rest)) :=
  va_get (D := D) (ci := 6) (C := RX6) (T := TX6) (N := 5) hx hb hta inA6 hown hK hP q0 he rfl 1 (by decide) (hta _ al_86) (fun _ h9 => h9) hv hdg kk
theorem gfX6_18 {p : Program} {l : Launch} {e : Env} {R : Room} {s : State} {m : MethodId} {args : Array Value} {below : List Frame} {meth : Method} {c : Code} {H : Heap} {locs : List Loc} {cells slots : Nat} {Q : State → Prop} {cc : ByteArray} {pc : Nat} {ls : Array Slot} {rest : List Value} {D : va_G} {Y : Nat → ClassId} {ws : va_W} {a : Nat} (hx : p.tables.exec = Jvm.exec) (hb : c.code = cc) (hta : ∀ w ∈ kAL, w.before args s = true) (hown : s.vm.findClass RX6 = some m.cls) (hK : va_K D vwCl (kT Y) s) (hP : va_P D vwCl ws H) (q0 : Nat) {fs : List Value} {v : Value} (he : ws[q0]? = some (a, .inr (6, fs))) (hv : fs[2]? = some v) (hdg : decode cc pc = .ok (.getfield 18, 3)) (kk : W p l e R s m args below meth c H locs cells slots Q (F0 m (pc + 3) ls (v :: rest))) : W p l e R s m args below meth c H locs cells slots Q (F0 m pc ls (.ref a :: rest)) :=
  va_get (D := D) (ci := 6) (C := RX6) (T := TX6) (N := 5) hx hb hta inA6 hown hK hP q0 he rfl 2 (by decide) (hta _ al_87) (fun _ h9 => h9) hv hdg kk
theorem gfX6_21 {p : Program} {l : Launch} {e : Env} {R : Room} {s : State} {m : MethodId} {args : Array Value} {below : List Frame} {meth : Method} {c : Code} {H : Heap} {locs : List Loc} {cells slots : Nat} {Q : State → Prop} {cc : ByteArray} {pc : Nat} {ls : Array Slot} {rest : List Value} {D : va_G} {Y : Nat → ClassId} {ws : va_W} {a : Nat} (hx : p.tables.exec = Jvm.exec) (hb : c.code = cc) (hta : ∀ w ∈ kAL, w.before args s = true) (hown : s.vm.findClass RX6 = some m.cls) (hK : va_K D vwCl (kT Y) s) (hP : va_P D vwCl ws H) (q0 : Nat) {fs : List Value} {v : Value} (he : ws[q0]? = some (a, .inr (6, fs))) (hv : fs[3]? = some v) (hdg : decode cc pc = .ok (.getfield 21, 3)) (kk : W p l e R s m args below meth c H locs cells slots Q (F0 m (pc + 3) ls (v :: rest))) : W p l e R s m args below meth c H locs cells slots Q (F0 m pc ls (.ref a :: rest)) :=
  va_get (D := D) (ci := 6) (C := RX6) (T := TX6) (N := 5) hx hb hta inA6 hown hK hP q0 he rfl 3 (by decide) (hta _ al_157) (fun _ h9 => h9) hv hdg kk
theorem gfX6_25 {p : Program} {l : Launch} {e : Env} {R : Room} {s : State} {m : MethodId} {args : Array Value} {below : List Frame} {meth : Method} {c : Code} {H : Heap} {locs : List Loc} {cells slots : Nat} {Q : State → Prop} {cc : ByteArray} {pc : Nat} {ls : Array Slot} {rest : List Value} {D : va_G} {Y : Nat → ClassId} {ws : va_W} {a : Nat} (hx : p.tables.exec = Jvm.exec) (hb : c.code = cc) (hta : ∀ w ∈ kAL, w.before args s = true) (hown : s.vm.findClass RX6 = some m.cls) (hK : va_K D vwCl (kT Y) s) (hP : va_P D vwCl ws H) (q0 : Nat) {fs : List Value} {v : Value} (he : ws[q0]? = some (a, .inr (6, fs))) (hv : fs[4]? = some v) (hdg : decode cc pc = .ok (.getfield 25, 3)) (kk : W p l e R s m args below meth c H locs cells slots Q (F0 m (pc + 3) ls (v :: rest))) : W p l e R s m args below meth c H locs cells slots Q (F0 m pc ls (.ref a :: rest)) :=
  va_get (D := D) (ci := 6) (C := RX6) (T := TX6) (N := 5) hx hb hta inA6 hown hK hP q0 he rfl 4 (by decide) (hta _ al_158) (fun _ h9 => h9) hv hdg kk
theorem pfX3_60 {p : Program} {l : Launch} {e : Env} {R : Room} {s : State} {m : MethodId} {args : Array Value} {below : List Frame} {meth : Method} {c : Code} {H : Heap} {locs : List Loc} {cells slots : Nat} {Q : State → Prop} {cc : ByteArray} {pc : Nat} {ls : Array Slot} {rest : List Value} {D : va_G} {Y : Nat → ClassId} {A : Nat → Prop} {H0 : Heap} {ws : va_W} {a : Nat} (hx : p.tables.exec = Jvm.exec) (hb : c.code = cc) (hta : ∀ w ∈ kAL, w.before args s = true) (hown : s.vm.findClass RX3 = some m.cls) (hK : va_K D vwCl (kT Y) s) (hP : va_P D vwCl ws H) (hD : va_D A ws) (hS : va_S A H0 H locs) (q0 : Nat) {fs : List Value} {v : Int32} (he : ws[q0]? = some (a, .inr (3, fs))) (hlen : 5 < fs.length) {ws1 : va_W} (hw : ws.set q0 (a, .inr (3, fs.set 5 (.int v))) = ws1) (hdg : decode cc pc = .ok (.putfield 60, 3)) (kk : ∀ (H1 : Heap) (locs1 : List Loc), va_P D vwCl ws1 H1 → va_D A ws1 → va_S A H0 H1 locs1 → W p l e R s m args below meth c H1 locs1 cells slots Q (F0 m (pc + 3) ls rest)) : W p l e R s m args below meth c H locs cells slots Q (F0 m pc ls (.int v :: .ref a :: rest)) := by
  subst hw
  exact va_put (D := D) (ci := 3) (ty := tyX3 5) (C := RX3) (T := TX3) (N := 9) hx hb hta inA3 tyX3 tyX3_ok nmX3 hown hK hP hD hS q0 he rfl 5 (by decide) (hta _ al_125) (fun _ h9 => h9) rfl (by decide +kernel) rfl rfl hlen hdg kk
theorem pfX3_64 {p : Program} {l : Launch} {e : Env} {R : Room} {s : State} {m : MethodId} {args : Array Value} {below : List Frame} {meth : Method} {c : Code} {H : Heap} {locs : List Loc} {cells slots : Nat} {Q : State → Prop} {cc : ByteArray} {pc : Nat} {ls : Array Slot} {rest : List Value} {D : va_G} {Y : Nat → ClassId} {A : Nat → Prop} {H0 : Heap} {ws : va_W} {a : Nat} (hx : p.tables.exec = Jvm.exec) (hb : c.code = cc) (hta : ∀ w ∈ kAL, w.before args s = true) (hown : s.vm.findClass RX3 = some m.cls) (hK : va_K D vwCl (kT Y) s) (hP : va_P D vwCl ws H) (hD : va_D A ws) (hS : va_S A H0 H locs) (q0 : Nat) {fs : List Value} {v : Int32} (he : ws[q0]? = some (a, .inr (3, fs))) (hlen : 6 < fs.length) {ws1 : va_W} (hw : ws.set q0 (a, .inr (3, fs.set 6 (.int v))) = ws1) (hdg : decode cc pc = .ok (.putfield 64, 3)) (kk : ∀ (H1 : Heap) (locs1 : List Loc), va_P D vwCl ws1 H1 → va_D A ws1 → va_S A H0 H1 locs1 → W p l e R s m args below meth c H1 locs1 cells slots Q (F0 m (pc + 3) ls rest)) : W p l e R s m args below meth c H locs cells slots Q (F0 m pc ls (.int v :: .ref a :: rest)) := by
  subst hw
  exact va_put (D := D) (ci := 3) (ty := tyX3 6) (C := RX3) (T := TX3) (N := 9) hx hb hta inA3 tyX3 tyX3_ok nmX3 hown hK hP hD hS q0 he rfl 6 (by decide) (hta _ al_126) (fun _ h9 => h9) rfl (by decide +kernel) rfl rfl hlen hdg kk
theorem pfX3_67 {p : Program} {l : Launch} {e : Env} {R : Room} {s : State} {m : MethodId} {args : Array Value} {below : List Frame} {meth : Method} {c : Code} {H : Heap} {locs : List Loc} {cells slots : Nat} {Q : State → Prop} {cc : ByteArray} {pc : Nat} {ls : Array Slot} {rest : List Value} {D : va_G} {Y : Nat → ClassId} {A : Nat → Prop} {H0 : Heap} {ws : va_W} {a : Nat} (hx : p.tables.exec = Jvm.exec) (hb : c.code = cc) (hta : ∀ w ∈ kAL, w.before args s = true) (hown : s.vm.findClass RX3 = some m.cls) (hK : va_K D vwCl (kT Y) s) (hP : va_P D vwCl ws H) (hD : va_D A ws) (hS : va_S A H0 H locs) (q0 : Nat) {fs : List Value} {v : Int32} (he : ws[q0]? = some (a, .inr (3, fs))) (hlen : 7 < fs.length) {ws1 : va_W} (hw : ws.set q0 (a, .inr (3, fs.set 7 (.int v))) = ws1) (hdg : decode cc pc = .ok (.putfield 67, 3)) (kk : ∀ (H1 : Heap) (locs1 : List Loc), va_P D vwCl ws1 H1 → va_D A ws1 → va_S A H0 H1 locs1 → W p l e R s m args below meth c H1 locs1 cells slots Q (F0 m (pc + 3) ls rest)) : W p l e R s m args below meth c H locs cells slots Q (F0 m pc ls (.int v :: .ref a :: rest)) := by
  subst hw
  exact va_put (D := D) (ci := 3) (ty := tyX3 7) (C := RX3) (T := TX3) (N := 9) hx hb hta inA3 tyX3 tyX3_ok nmX3 hown hK hP hD hS q0 he rfl 7 (by decide) (hta _ al_127) (fun _ h9 => h9) rfl (by decide +kernel) rfl rfl hlen hdg kk
theorem pfX3_70 {p : Program} {l : Launch} {e : Env} {R : Room} {s : State} {m : MethodId} {args : Array Value} {below : List Frame} {meth : Method} {c : Code} {H : Heap} {locs : List Loc} {cells slots : Nat} {Q : State → Prop} {cc : ByteArray} {pc : Nat} {ls : Array Slot} {rest : List Value} {D : va_G} {Y : Nat → ClassId} {A : Nat → Prop} {H0 : Heap} {ws : va_W} {a : Nat} (hx : p.tables.exec = Jvm.exec) (hb : c.code = cc) (hta : ∀ w ∈ kAL, w.before args s = true) (hown : s.vm.findClass RX3 = some m.cls) (hK : va_K D vwCl (kT Y) s) (hP : va_P D vwCl ws H) (hD : va_D A ws) (hS : va_S A H0 H locs) (q0 : Nat) {fs : List Value} {v : Int32} (he : ws[q0]? = some (a, .inr (3, fs))) (hlen : 8 < fs.length) {ws1 : va_W} (hw : ws.set q0 (a, .inr (3, fs.set 8 (.int v))) = ws1) (hdg : decode cc pc = .ok (.putfield 70, 3)) (kk : ∀ (H1 : Heap) (locs1 : List Loc), va_P D vwCl ws1 H1 → va_D A ws1 → va_S A H0 H1 locs1 → W p l e R s m args below meth c H1 locs1 cells slots Q (F0 m (pc + 3) ls rest)) : W p l e R s m args below meth c H locs cells slots Q (F0 m pc ls (.int v :: .ref a :: rest)) := by
  subst hw
  exact va_put (D := D) (ci := 3) (ty := tyX3 8) (C := RX3) (T := TX3) (N := 9) hx hb hta inA3 tyX3 tyX3_ok nmX3 hown hK hP hD hS q0 he rfl 8 (by decide) (hta _ al_128) (fun _ h9 => h9) rfl (by decide +kernel) rfl rfl hlen hdg kk
theorem pfX6_21 {p : Program} {l : Launch} {e : Env} {R : Room} {s : State} {m : MethodId} {args : Array Value} {below : List Frame} {meth : Method} {c : Code} {H : Heap} {locs : List Loc} {cells slots : Nat} {Q : State → Prop} {cc : ByteArray} {pc : Nat} {ls : Array Slot} {rest : List Value} {D : va_G} {Y : Nat → ClassId} {A : Nat → Prop} {H0 : Heap} {ws : va_W} {a : Nat} (hx : p.tables.exec = Jvm.exec) (hb : c.code = cc) (hta : ∀ w ∈ kAL, w.before args s = true) (hown : s.vm.findClass RX6 = some m.cls) (hK : va_K D vwCl (kT Y) s) (hP : va_P D vwCl ws H) (hD : va_D A ws) (hS : va_S A H0 H locs) (q0 : Nat) {fs : List Value} {v : Int32} (he : ws[q0]? = some (a, .inr (6, fs))) (hlen : 3 < fs.length) {ws1 : va_W} (hw : ws.set q0 (a, .inr (6, fs.set 3 (.int v))) = ws1) (hdg : decode cc pc = .ok (.putfield 21, 3)) (kk : ∀ (H1 : Heap) (locs1 : List Loc), va_P D vwCl ws1 H1 → va_D A ws1 → va_S A H0 H1 locs1 → W p l e R s m args below meth c H1 locs1 cells slots Q (F0 m (pc + 3) ls rest)) : W p l e R s m args below meth c H locs cells slots Q (F0 m pc ls (.int v :: .ref a :: rest)) := by
  subst hw
  exact va_put (D := D) (ci := 6) (ty := tyX6 3) (C := RX6) (T := TX6) (N := 5) hx hb hta inA6 tyX6 tyX6_ok nmX6 hown hK hP hD hS q0 he rfl 3 (by decide) (hta _ al_157) (fun _ h9 => h9) rfl (by decide +kernel) rfl rfl hlen hdg kk
theorem pfX6_25 {p : Program} {l : Launch} {e : Env} {R : Room} {s : State} {m : MethodId} {args : Array Value} {below : List Frame} {meth : Method} {c : Code} {H : Heap} {locs : List Loc} {cells slots : Nat} {Q : State → Prop} {cc : ByteArray} {pc : Nat} {ls : Array Slot} {rest : List Value} {D : va_G} {Y : Nat → ClassId} {A : Nat → Prop} {H0 : Heap} {ws : va_W} {a : Nat} (hx : p.tables.exec = Jvm.exec) (hb : c.code = cc) (hta : ∀ w ∈ kAL, w.before args s = true) (hown : s.vm.findClass RX6 = some m.cls) (hK : va_K D vwCl (kT Y) s) (hP : va_P D vwCl ws H) (hD : va_D A ws) (hS : va_S A H0 H locs) (q0 : Nat) {fs : List Value} {v : Int32} (he : ws[q0]? = some (a, .inr (6, fs))) (hlen : 4 < fs.length) {ws1 : va_W} (hw : ws.set q0 (a, .inr (6, fs.set 4 (.int v))) = ws1) (hdg : decode cc pc = .ok (.putfield 25, 3)) (kk : ∀ (H1 : Heap) (locs1 : List Loc), va_P D vwCl ws1 H1 → va_D A ws1 → va_S A H0 H1 locs1 → W p l e R s m args below meth c H1 locs1 cells slots Q (F0 m (pc + 3) ls rest)) : W p l e R s m args below meth c H locs cells slots Q (F0 m pc ls (.int v :: .ref a :: rest)) := by
  subst hw
  exact va_put (D := D) (ci := 6) (ty := tyX6 4) (C := RX6) (T := TX6) (N := 5) hx hb hta inA6 tyX6 tyX6_ok nmX6 hown hK hP hD hS q0 he rfl 4 (by decide) (hta _ al_158) (fun _ h9 => h9) rfl (by decide +kernel) rfl rfl hlen hdg kk
theorem cwX3_73 {R : Room} {s : State} {args : Array Value} (hta : ∀ w ∈ kAL, w.before args s = true) (hNs : kNs s) (hR : rX7_isWithin.frames + 1 ≤ R.frames ∧ 8 + (3 + 11) + rX7_isWithin.locals ≤ R.locals) : va_CN R s args RX3 73 yX7_isWithin "CaneQuotas" cX7_isWithin 3 (some .boolean) wX7_isWithin rX7_isWithin rX7_isWithin.cells rX7_isWithin.slots 3 ∧ (Cond.static yX7_isWithin).before args s = true ∧ True := ⟨va_cnB 3 hta gyX7_isWithin rfl rfl rfl (hNs _ nest_13) (hta _ al_12) (by decide +kernel) hR, hta _ al_165, trivial⟩
theorem cwX3_94 {R : Room} {s : State} {args : Array Value} (hta : ∀ w ∈ kAL, w.before args s = true) (hR : rX3_passDay.frames + 1 ≤ R.frames ∧ 8 + (2 + 11) + rX3_passDay.locals ≤ R.locals) : CallW R s args RX3 RX3 94 yX3_passDay cX3_passDay 2 none wX3_passDay rX3_passDay rX3_passDay.cells rX3_passDay.slots 1 := cwV 1 hta (al_1 al_303 (al_1 al_304 (al_1 al_305 (al_1 al_25 gyX3_passDay)))) rfl rfl rfl (by decide +kernel) hR
theorem cwX3_98 {R : Room} {s : State} {args : Array Value} (hta : ∀ w ∈ kAL, w.before args s = true) (hR : rX3_loseOldCane.frames + 1 ≤ R.frames ∧ 8 + (2 + 11) + rX3_loseOldCane.locals ≤ R.locals) : CallW R s args RX3 RX3 98 yX3_loseOldCane cX3_loseOldCane 2 none wX3_loseOldCane rX3_loseOldCane rX3_loseOldCane.cells rX3_loseOldCane.slots 0 := cwV 0 hta (al_1 al_307 (al_1 al_308 (al_1 al_309 (al_1 al_25 gyX3_loseOldCane)))) rfl rfl rfl (by decide +kernel) hR
theorem cwX3_101 {R : Room} {s : State} {args : Array Value} (hta : ∀ w ∈ kAL, w.before args s = true) (hR : rX3_bringLoads.frames + 1 ≤ R.frames ∧ 8 + (3 + 11) + rX3_bringLoads.locals ≤ R.locals) : CallW R s args RX3 RX3 101 yX3_bringLoads cX3_bringLoads 3 none wX3_bringLoads rX3_bringLoads rX3_bringLoads.cells rX3_bringLoads.slots 0 := cwV 0 hta (al_1 al_319 (al_1 al_320 (al_1 al_321 (al_1 al_25 gyX3_bringLoads)))) rfl rfl rfl (by decide +kernel) hR
theorem cwX3_104 {R : Room} {s : State} {args : Array Value} (hta : ∀ w ∈ kAL, w.before args s = true) (hR : rX5_isStopped.frames + 1 ≤ R.frames ∧ 8 + (3 + 11) + rX5_isStopped.locals ≤ R.locals) : CallW R s args RX3 RX5 104 yX5_isStopped cX5_isStopped 3 (some .boolean) wX5_isStopped rX5_isStopped rX5_isStopped.cells rX5_isStopped.slots 1 := cwV 1 hta (al_1 al_357 (al_1 al_358 (al_1 al_359 (al_1 al_52 gyX5_isStopped)))) rfl rfl rfl (by decide +kernel) hR
theorem cwX3_107 {R : Room} {s : State} {args : Array Value} (hta : ∀ w ∈ kAL, w.before args s = true) (hR : rX3_crush.frames + 1 ≤ R.frames ∧ 8 + (5 + 11) + rX3_crush.locals ≤ R.locals) : CallW R s args RX3 RX3 107 yX3_crush cX3_crush 5 none wX3_crush rX3_crush rX3_crush.cells rX3_crush.slots 0 := cwV 0 hta (al_1 al_361 (al_1 al_362 (al_1 al_363 (al_1 al_25 gyX3_crush)))) rfl rfl rfl (by decide +kernel) hR
theorem cwX3_122 {R : Room} {s : State} {args : Array Value} (hta : ∀ w ∈ kAL, w.before args s = true) (hR : rX0_loseCane.frames + 1 ≤ R.frames ∧ 8 + (3 + 11) + rX0_loseCane.locals ≤ R.locals) : CallW R s args RX3 RX0 122 yX0_loseCane cX0_loseCane 3 (some .int) wX0_loseCane rX0_loseCane rX0_loseCane.cells rX0_loseCane.slots 1 := cwV 1 hta (al_1 al_315 (al_1 al_316 (al_1 al_317 (al_1 al_48 gyX0_loseCane)))) rfl rfl rfl (by decide +kernel) hR
theorem cwX3_126 {R : Room} {s : State} {args : Array Value} (hta : ∀ w ∈ kAL, w.before args s = true) (hR : rX3_nextField.frames + 1 ≤ R.frames ∧ 8 + (3 + 11) + rX3_nextField.locals ≤ R.locals) : CallW R s args RX3 RX3 126 yX3_nextField cX3_nextField 3 (some .int) wX3_nextField rX3_nextField rX3_nextField.cells rX3_nextField.slots 0 := cwV 0 hta (al_1 al_323 (al_1 al_324 (al_1 al_325 (al_1 al_25 gyX3_nextField)))) rfl rfl rfl (by decide +kernel) hR
theorem cwX3_130 {R : Room} {s : State} {args : Array Value} (hta : ∀ w ∈ kAL, w.before args s = true) (hR : rX3_bringLoad.frames + 1 ≤ R.frames ∧ 8 + (5 + 11) + rX3_bringLoad.locals ≤ R.locals) : CallW R s args RX3 RX3 130 yX3_bringLoad cX3_bringLoad 5 none wX3_bringLoad rX3_bringLoad rX3_bringLoad.cells rX3_bringLoad.slots 1 := cwV 1 hta (al_1 al_345 (al_1 al_346 (al_1 al_347 (al_1 al_25 gyX3_bringLoad)))) rfl rfl rfl (by decide +kernel) hR
theorem cwX3_134 {R : Room} {s : State} {args : Array Value} (hta : ∀ w ∈ kAL, w.before args s = true) (hR : rX3_room.frames + 1 ≤ R.frames ∧ 8 + (1 + 11) + rX3_room.locals ≤ R.locals) : CallW R s args RX3 RX3 134 yX3_room cX3_room 1 (some .int) wX3_room rX3_room rX3_room.cells rX3_room.slots 0 := cwV 0 hta (al_1 al_327 (al_1 al_328 (al_1 al_329 (al_1 al_25 gyX3_room)))) rfl rfl rfl (by decide +kernel) hR
theorem cwX3_137 {R : Room} {s : State} {args : Array Value} (hta : ∀ w ∈ kAL, w.before args s = true) (hR : rX0_howItIs.frames + 1 ≤ R.frames ∧ 8 + (3 + 11) + rX0_howItIs.locals ≤ R.locals) : CallW R s args RX3 RX0 137 yX0_howItIs cX0_howItIs 3 (some .int) wX0_howItIs rX0_howItIs rX0_howItIs.cells rX0_howItIs.slots 2 := cwV 2 hta (al_1 al_333 (al_1 al_334 (al_1 al_335 (al_1 al_48 gyX0_howItIs)))) rfl rfl rfl (by decide +kernel) hR
theorem cwX3_141 {R : Room} {s : State} {args : Array Value} (hta : ∀ w ∈ kAL, w.before args s = true) (hR : rX3_quotaOf.frames + 1 ≤ R.frames ∧ 8 + (2 + 11) + rX3_quotaOf.locals ≤ R.locals) : CallW R s args RX3 RX3 141 yX3_quotaOf cX3_quotaOf 2 (some .int) wX3_quotaOf rX3_quotaOf rX3_quotaOf.cells rX3_quotaOf.slots 1 := cwV 1 hta (al_1 al_337 (al_1 al_338 (al_1 al_339 (al_1 al_25 gyX3_quotaOf)))) rfl rfl rfl (by decide +kernel) hR
theorem cwX3_144 {R : Room} {s : State} {args : Array Value} (hta : ∀ w ∈ kAL, w.before args s = true) (hR : rX3_goesAhead.frames + 1 ≤ R.frames ∧ 8 + (5 + 11) + rX3_goesAhead.locals ≤ R.locals) : CallW R s args RX3 RX3 144 yX3_goesAhead cX3_goesAhead 5 (some .boolean) wX3_goesAhead rX3_goesAhead rX3_goesAhead.cells rX3_goesAhead.slots 2 := cwV 2 hta (al_1 al_341 (al_1 al_342 (al_1 al_343 (al_1 al_25 gyX3_goesAhead)))) rfl rfl rfl (by decide +kernel) hR
theorem cwX3_168 {R : Room} {s : State} {args : Array Value} (hta : ∀ w ∈ kAL, w.before args s = true) (hR : rX6_append.frames + 1 ≤ R.frames ∧ 8 + (4 + 11) + rX6_append.locals ≤ R.locals) : CallW R s args RX3 RX6 168 yX6_append cX6_append 4 none wX6_append rX6_append rX6_append.cells rX6_append.slots 3 := cwV 3 hta (al_1 al_353 (al_1 al_354 (al_1 al_355 (al_1 al_56 gyX6_append)))) rfl rfl rfl (by decide +kernel) hR
theorem cwX3_177 {R : Room} {s : State} {args : Array Value} (hta : ∀ w ∈ kAL, w.before args s = true) (hR : rX3_crushPart.frames + 1 ≤ R.frames ∧ 8 + (5 + 11) + rX3_crushPart.locals ≤ R.locals) : CallW R s args RX3 RX3 177 yX3_crushPart cX3_crushPart 5 none wX3_crushPart rX3_crushPart rX3_crushPart.cells rX3_crushPart.slots 2 := cwV 2 hta (al_1 al_367 (al_1 al_368 (al_1 al_369 (al_1 al_25 gyX3_crushPart)))) rfl rfl rfl (by decide +kernel) hR
theorem cwX3_181 {R : Room} {s : State} {args : Array Value} (hta : ∀ w ∈ kAL, w.before args s = true) (hR : rX6_takeFrom.frames + 1 ≤ R.frames ∧ 8 + (3 + 11) + rX6_takeFrom.locals ≤ R.locals) : CallW R s args RX3 RX6 181 yX6_takeFrom cX6_takeFrom 3 (some .int) wX6_takeFrom rX6_takeFrom rX6_takeFrom.cells rX6_takeFrom.slots 2 := cwV 2 hta (al_1 al_381 (al_1 al_382 (al_1 al_383 (al_1 al_56 gyX6_takeFrom)))) rfl rfl rfl (by decide +kernel) hR
theorem cwX3_184 {R : Room} {s : State} {args : Array Value} (hta : ∀ w ∈ kAL, w.before args s = true) (hR : rX6_dropFirst.frames + 1 ≤ R.frames ∧ 8 + (3 + 11) + rX6_dropFirst.locals ≤ R.locals) : CallW R s args RX3 RX6 184 yX6_dropFirst cX6_dropFirst 3 none wX6_dropFirst rX6_dropFirst rX6_dropFirst.cells rX6_dropFirst.slots 1 := cwV 1 hta (al_1 al_385 (al_1 al_386 (al_1 al_387 (al_1 al_56 gyX6_dropFirst)))) rfl rfl rfl (by decide +kernel) hR
theorem cwX3_187 {R : Room} {s : State} {args : Array Value} (hta : ∀ w ∈ kAL, w.before args s = true) (hR : rX0_purityOn.frames + 1 ≤ R.frames ∧ 8 + (5 + 11) + rX0_purityOn.locals ≤ R.locals) : CallW R s args RX3 RX0 187 yX0_purityOn cX0_purityOn 5 (some .int) wX0_purityOn rX0_purityOn rX0_purityOn.cells rX0_purityOn.slots 3 := cwV 3 hta (al_1 al_374 (al_1 al_375 (al_1 al_376 (al_1 al_48 gyX0_purityOn)))) rfl rfl rfl (by decide +kernel) hR
theorem cwX5_26 {R : Room} {s : State} {args : Array Value} (hta : ∀ w ∈ kAL, w.before args s = true) (hNs : kNs s) (hR : rX7_isWithin.frames + 1 ≤ R.frames ∧ 8 + (3 + 11) + rX7_isWithin.locals ≤ R.locals) : va_CN R s args RX5 26 yX7_isWithin "CaneQuotas" cX7_isWithin 3 (some .boolean) wX7_isWithin rX7_isWithin rX7_isWithin.cells rX7_isWithin.slots 3 ∧ (Cond.static yX7_isWithin).before args s = true ∧ True := ⟨va_cnB 3 hta gyX7_isWithin rfl rfl rfl (hNs _ nest_15) (hta _ al_12) (by decide +kernel) hR, hta _ al_165, trivial⟩
theorem cwX6_32 {R : Room} {s : State} {args : Array Value} (hta : ∀ w ∈ kAL, w.before args s = true) (hNs : kNs s) (hR : rX7_isWithin.frames + 1 ≤ R.frames ∧ 8 + (3 + 11) + rX7_isWithin.locals ≤ R.locals) : va_CN R s args RX6 32 yX7_isWithin "CaneQuotas" cX7_isWithin 3 (some .boolean) wX7_isWithin rX7_isWithin rX7_isWithin.cells rX7_isWithin.slots 3 ∧ (Cond.static yX7_isWithin).before args s = true ∧ True := ⟨va_cnB 3 hta gyX7_isWithin rfl rfl rfl (hNs _ nest_16) (hta _ al_12) (by decide +kernel) hR, hta _ al_165, trivial⟩
theorem cwX7_100 {R : Room} {s : State} {args : Array Value} (hta : ∀ w ∈ kAL, w.before args s = true) (hR : rX7_isWithin.frames + 1 ≤ R.frames ∧ 8 + (3 + 11) + rX7_isWithin.locals ≤ R.locals) : CallB R s args RX7 100 yX7_isWithin cX7_isWithin 3 (some .boolean) wX7_isWithin rX7_isWithin rX7_isWithin.cells rX7_isWithin.slots 3 ∧ (Cond.static yX7_isWithin).before args s = true := cwS 3 hta (al_1 al_204 (al_1 al_165 (al_1 al_12 gyX7_isWithin))) rfl rfl rfl (by decide +kernel) hR
end
section
set_option maxHeartbeats 4000000 in
set_option maxRecDepth 100000 in
theorem c_X7_isWithin (l : Launch) (D : va_G) (Y : Nat → ClassId) (v lo hi : Int32) : kM l yX7_isWithin wX7_isWithin rX7_isWithin D Y ([]) [.int v, .int lo, .int hi] kX0 (kQi D (fun r (_ : Unit) => r = kb (pIn v lo hi)) (fun _ => [])) := by
  refine kentry (cc := cX7_isWithin) (maxL := 3) (ret := (some .boolean)) (by decide +kernel) rfl (Nat.le_of_ble_eq_true rfl) ?_
  intro p e s m args below meth c A Q ls hQ hx hb hr hlocks hml hown hin hta hA hX hK hNs hP hD hS hl
  have hown : s.vm.findClass RX7 = some m.cls := hown
  have hl : lv_has ls 3 [(0, .int v), (1, .int lo), (2, .int hi)] := hl
  refine lv_iload_n hx hb dX7_isWithin_0 rfl (lv_at hl 0 rfl) ?_
  refine lv_iload_n hx hb dX7_isWithin_1 rfl (lv_at hl 1 rfl) ?_
  refine lv_icmp_lt (tgt := 14) hx hb dX7_isWithin_2 (by decide) (fun c1 => ?_) (fun c1 => ?_)
  · refine lv_iconst (v := 0) hx hb dX7_isWithin_14 (by decide) ?_
    exact kzret (()) hQ hx hb hr hlocks hP hS dX7_isWithin_15 (by first | exact Or.inl rfl | exact Or.inr rfl | exact kb_01 _) (by simp [kb, pIn, c1])
  · refine lv_iload_n hx hb dX7_isWithin_5 rfl (lv_at hl 0 rfl) ?_
    refine lv_iload_n hx hb dX7_isWithin_6 rfl (lv_at hl 2 rfl) ?_
    refine lv_icmp_gt (tgt := 14) hx hb dX7_isWithin_7 (by decide) (fun c2 => ?_) (fun c2 => ?_)
    · refine lv_iconst (v := 0) hx hb dX7_isWithin_14 (by decide) ?_
      exact kzret (()) hQ hx hb hr hlocks hP hS dX7_isWithin_15 (by first | exact Or.inl rfl | exact Or.inr rfl | exact kb_01 _) (by simp [kb, pIn, c1, c2])
    · refine lv_iconst (v := 1) hx hb dX7_isWithin_10 (by decide) ?_
      refine lv_goto (tgt := 15) hx hb dX7_isWithin_11 (by decide) ?_
      exact kzret (()) hQ hx hb hr hlocks hP hS dX7_isWithin_15 (by first | exact Or.inl rfl | exact Or.inr rfl | exact kb_01 _) (by simp [kb, pIn, c1, c2])
set_option maxHeartbeats 4000000 in
set_option maxRecDepth 100000 in
theorem c_X7_isGrower (l : Launch) (D : va_G) (Y : Nat → ClassId) (v : Int32) : kM l yX7_isGrower wX7_isGrower rX7_isGrower D Y ([]) [.int v] kX0 (kQi D (fun r (_ : Unit) => r = kb (pIn v 0 5)) (fun _ => [])) := by
  refine kentry (cc := cX7_isGrower) (maxL := 1) (ret := (some .boolean)) (by decide +kernel) rfl (Nat.le_of_ble_eq_true rfl) ?_
  intro p e s m args below meth c A Q ls hQ hx hb hr hlocks hml hown hin hta hA hX hK hNs hP hD hS hl
  have hown : s.vm.findClass RX7 = some m.cls := hown
  have hl : lv_has ls 1 [(0, .int v)] := hl
  refine lv_iload_n hx hb dX7_isGrower_0 rfl (lv_at hl 0 rfl) ?_
  refine lv_iconst (v := 0) hx hb dX7_isGrower_1 (by decide) ?_
  refine lv_iconst (v := 5) hx hb dX7_isGrower_2 (by decide) ?_
  refine kc_i (krS (As := [.int v, .int 0, .int 5]) (rest := []) (c_X7_isWithin l D Y v 0 5) ⟨hx, hb, hml, hown, hta⟩ (cwX7_100 hta ⟨Nat.le_of_ble_eq_true rfl, Nat.le_of_ble_eq_true rfl⟩) kX0b (fun _ _ _ => trivial) hK hNs hP hD (kJ_nil) rfl hl.1 rfl (Nat.le_of_ble_eq_true rfl) dX7_isGrower_3 ⟨Nat.le_of_ble_eq_true rfl, Nat.le_of_ble_eq_true rfl⟩) hP hD hS hA (kJ_nil) (fun _ => rfl) (fun r1 u H locs hw hP hD hS => ?_)
  subst hw
  have hP : va_P D vwCl ([]) H := hP
  have hD : va_D A ([]) := hD
  exact kzret (()) hQ hx hb hr hlocks hP hS dX7_isGrower_6 (by first | exact Or.inl rfl | exact Or.inr rfl | exact kb_01 _) rfl
set_option maxHeartbeats 4000000 in
set_option maxRecDepth 100000 in
theorem c_X3_room (l : Launch) (D : va_G) (Y : Nat → ClassId) (a : Nat → Nat) (M : kN) : kM l yX3_room wX3_room rX3_room D Y (wM Y a M) [.ref (a 0)] kX0 (kQi D (fun r (_ : Unit) => r = cRoom M) (fun _ => wM Y a M)) := by
  refine kentry (cc := cX3_room) (maxL := 1) (ret := (some .int)) (by decide +kernel) rfl (Nat.le_of_ble_eq_true rfl) ?_
  intro p e s m args below meth c A Q ls hQ hx hb hr hlocks hml hown hin hta hA hX hK hNs hP hD hS hl
  have hown : s.vm.findClass RX3 = some m.cls := hown
  have hl : lv_has ls 1 [(0, .ref (a 0))] := hl
  refine lv_aload_n hx hb dX3_room_0 rfl (lv_at hl 0 rfl) ?_
  refine gfX3_39 (v := .ref (a 20)) hx hb hta hown hK hP 0 rfl rfl dX3_room_1 ?_
  refine gfX3_148 (v := .int (M 19 6)) hx hb hta hown hK hP 20 rfl rfl dX3_room_4 ?_
  refine lv_sipush (v := 400) hx hb dX3_room_7 (by decide) ?_
  refine lv_icmp_ge (tgt := 30) hx hb dX3_room_10 (by decide) (fun c1 => ?_) (fun c1 => ?_)
  · refine lv_iconst (v := 0) hx hb dX3_room_30 (by decide) ?_
    exact kiret (()) hQ hx hb hr hlocks hP hS dX3_room_31 (by simp [cRoom, c1])
  · refine lv_aload_n hx hb dX3_room_13 rfl (lv_at hl 0 rfl) ?_
    refine gfX3_9 (v := .ref (a 1)) hx hb hta hown hK hP 0 rfl rfl dX3_room_14 ?_
    refine lv_iconst (v := 3) hx hb dX3_room_17 (by decide) ?_
    refine kiald (f := M 0) hx hb hK hP 1 rfl 3 rfl (by omega) (by omega) dX3_room_18 ?_
    refine lv_aload_n hx hb dX3_room_19 rfl (lv_at hl 0 rfl) ?_
    refine gfX3_39 (v := .ref (a 20)) hx hb hta hown hK hP 0 rfl rfl dX3_room_20 ?_
    refine gfX3_151 (v := .int (M 19 7)) hx hb hta hown hK hP 20 rfl rfl dX3_room_23 ?_
    refine lv_isub hx hb dX3_room_26 ?_
    refine lv_goto (tgt := 31) hx hb dX3_room_27 (by decide) ?_
    exact kiret (()) hQ hx hb hr hlocks hP hS dX3_room_31 (by simp [cRoom, c1])
set_option maxHeartbeats 4000000 in
set_option maxRecDepth 100000 in
theorem c_X3_quotaOf (l : Launch) (D : va_G) (Y : Nat → ClassId) (a : Nat → Nat) (M : kN) (f : Nat) (hf : f < 30) (hg : M 6 f = nI (gr M f) ∧ gr M f < 6) : kM l yX3_quotaOf wX3_quotaOf rX3_quotaOf D Y (wM Y a M) [.ref (a 0), .int (nI f)] kX0 (kQi D (fun r (_ : Unit) => r = M 1 (gr M f)) (fun _ => wM Y a M)) := by
  refine kentry (cc := cX3_quotaOf) (maxL := 2) (ret := (some .int)) (by decide +kernel) rfl (Nat.le_of_ble_eq_true rfl) ?_
  intro p e s m args below meth c A Q ls hQ hx hb hr hlocks hml hown hin hta hA hX hK hNs hP hD hS hl
  have hown : s.vm.findClass RX3 = some m.cls := hown
  have hl : lv_has ls 2 [(0, .ref (a 0)), (1, .int (nI f))] := hl
  refine lv_aload_n hx hb dX3_quotaOf_0 rfl (lv_at hl 0 rfl) ?_
  refine gfX3_18 (v := .ref (a 2)) hx hb hta hown hK hP 0 rfl rfl dX3_quotaOf_1 ?_
  refine gfX3_87 (v := .ref (a 3)) hx hb hta hown hK hP 2 rfl rfl dX3_quotaOf_4 ?_
  refine lv_aload_n hx hb dX3_quotaOf_7 rfl (lv_at hl 0 rfl) ?_
  refine gfX3_25 (v := .ref (a 8)) hx hb hta hown hK hP 0 rfl rfl dX3_quotaOf_8 ?_
  refine gfX3_119 (v := .ref (a 9)) hx hb hta hown hK hP 8 rfl rfl dX3_quotaOf_11 ?_
  refine lv_iload_n hx hb dX3_quotaOf_14 rfl (lv_at hl 1 rfl) ?_
  refine kiald (f := M 6) hx hb hK hP 9 rfl f rfl (by omega) (by omega) dX3_quotaOf_15 ?_
  refine kTop hg.1 ?_
  refine kiald (f := M 1) hx hb hK hP 3 rfl (gr M f) rfl (by omega) (by omega) dX3_quotaOf_16 ?_
  exact kiret (()) hQ hx hb hr hlocks hP hS dX3_quotaOf_17 rfl
set_option maxHeartbeats 4000000 in
set_option maxRecDepth 100000 in
theorem c_X0_howItIs (l : Launch) (D : va_G) (Y : Nat → ClassId) (a : Nat → Nat) (M : kN) (f : Nat) (d : Int32) (hf : f < 30) : kM l yX0_howItIs wX0_howItIs rX0_howItIs D Y (wM Y a M) [.ref (a 8), .int (nI f), .int d] kX0 (kQi D (fun r (_ : Unit) => r = cHow M f d) (fun _ => wM Y a M)) := by
  refine kentry (cc := cX0_howItIs) (maxL := 3) (ret := (some .int)) (by decide +kernel) rfl (Nat.le_of_ble_eq_true rfl) ?_
  intro p e s m args below meth c A Q ls hQ hx hb hr hlocks hml hown hin hta hA hX hK hNs hP hD hS hl
  have hown : s.vm.findClass RX0 = some m.cls := hown
  have hl : lv_has ls 3 [(0, .ref (a 8)), (1, .int (nI f)), (2, .int d)] := hl
  refine lv_iload_n hx hb dX0_howItIs_0 rfl (lv_at hl 2 rfl) ?_
  refine lv_aload_n hx hb dX0_howItIs_1 rfl (lv_at hl 0 rfl) ?_
  refine gfX0_21 (v := .ref (a 12)) hx hb hta hown hK hP 8 rfl rfl dX0_howItIs_2 ?_
  refine lv_iload_n hx hb dX0_howItIs_5 rfl (lv_at hl 1 rfl) ?_
  refine kiald (f := M 9) hx hb hK hP 12 rfl f rfl (by omega) (by omega) dX0_howItIs_6 ?_
  refine lv_icmp_ge (tgt := 12) hx hb dX0_howItIs_7 (by decide) (fun c1 => ?_) (fun c1 => ?_)
  · refine lv_aload_n hx hb dX0_howItIs_12 rfl (lv_at hl 0 rfl) ?_
    refine gfX0_24 (v := .ref (a 13)) hx hb hta hown hK hP 8 rfl rfl dX0_howItIs_13 ?_
    refine lv_iload_n hx hb dX0_howItIs_16 rfl (lv_at hl 1 rfl) ?_
    refine kiald (f := M 10) hx hb hK hP 13 rfl f rfl (by omega) (by omega) dX0_howItIs_17 ?_
    refine lv_if_le (tgt := 23) hx hb dX0_howItIs_18 (by decide) (fun c2 => ?_) (fun c2 => ?_)
    · refine lv_aload_n hx hb dX0_howItIs_23 rfl (lv_at hl 0 rfl) ?_
      refine gfX0_33 (v := .ref (a 16)) hx hb hta hown hK hP 8 rfl rfl dX0_howItIs_24 ?_
      refine lv_iload_n hx hb dX0_howItIs_27 rfl (lv_at hl 1 rfl) ?_
      refine kiald (f := M 13) hx hb hK hP 16 rfl f rfl (by omega) (by omega) dX0_howItIs_28 ?_
      refine lv_if_le (tgt := 36) hx hb dX0_howItIs_29 (by decide) (fun c3 => ?_) (fun c3 => ?_)
      · refine lv_iconst (v := 2) hx hb dX0_howItIs_36 (by decide) ?_
        exact kiret (()) hQ hx hb hr hlocks hP hS dX0_howItIs_37 (by simp [cHow, sHow, c1, c2, c3])
      · refine lv_iconst (v := 3) hx hb dX0_howItIs_32 (by decide) ?_
        refine lv_goto (tgt := 37) hx hb dX0_howItIs_33 (by decide) ?_
        exact kiret (()) hQ hx hb hr hlocks hP hS dX0_howItIs_37 (by simp [cHow, sHow, c1, c2, c3])
    · refine lv_iconst (v := 1) hx hb dX0_howItIs_21 (by decide) ?_
      exact kiret (()) hQ hx hb hr hlocks hP hS dX0_howItIs_22 (by simp [cHow, sHow, c1, c2])
  · refine lv_iconst (v := 0) hx hb dX0_howItIs_10 (by decide) ?_
    exact kiret (()) hQ hx hb hr hlocks hP hS dX0_howItIs_11 (by simp [cHow, sHow, c1])
set_option maxHeartbeats 4000000 in
set_option maxRecDepth 100000 in
theorem c_X0_loseCane (l : Launch) (D : va_G) (Y : Nat → ClassId) (a : Nat → Nat) (M : kN) (f : Nat) (hf : f < 30) : kM l yX0_loseCane wX0_loseCane rX0_loseCane D Y (wM Y a M) [.ref (a 8), .int (nI f)] kX0 (kQi D (fun r u => r = M 10 f ∧ u = cLoseCane M f) (fun u => wM Y a u)) := by
  refine kentry (cc := cX0_loseCane) (maxL := 3) (ret := (some .int)) (by decide +kernel) rfl (Nat.le_of_ble_eq_true rfl) ?_
  intro p e s m args below meth c A Q ls hQ hx hb hr hlocks hml hown hin hta hA hX hK hNs hP hD hS hl
  have hown : s.vm.findClass RX0 = some m.cls := hown
  have hl : lv_has ls 3 [(0, .ref (a 8)), (1, .int (nI f))] := hl
  refine lv_aload_n hx hb dX0_loseCane_0 rfl (lv_at hl 0 rfl) ?_
  refine gfX0_24 (v := .ref (a 13)) hx hb hta hown hK hP 8 rfl rfl dX0_loseCane_1 ?_
  refine lv_iload_n hx hb dX0_loseCane_4 rfl (lv_at hl 1 rfl) ?_
  refine kiald (f := M 10) hx hb hK hP 13 rfl f rfl (by omega) (by omega) dX0_loseCane_5 ?_
  refine lv_istore_n (lv' := [(2, .int (M 10 f)), (0, .ref (a 8)), (1, .int (nI f))]) hx hb dX0_loseCane_6 rfl hl (by decide) rfl (fun ls hl => ?_)
  refine lv_aload_n hx hb dX0_loseCane_7 rfl (lv_at hl 1 rfl) ?_
  refine gfX0_33 (v := .ref (a 16)) hx hb hta hown hK hP 8 rfl rfl dX0_loseCane_8 ?_
  refine lv_iload_n hx hb dX0_loseCane_11 rfl (lv_at hl 2 rfl) ?_
  refine lv_dup2_11 hx hb dX0_loseCane_12 rfl rfl ?_
  refine kiald (f := M 13) hx hb hK hP 16 rfl f rfl (by omega) (by omega) dX0_loseCane_13 ?_
  refine lv_iload_n hx hb dX0_loseCane_14 rfl (lv_at hl 0 rfl) ?_
  refine lv_iadd hx hb dX0_loseCane_15 ?_
  refine kiast (f := M 13) hx hb hK hP hD hS 16 rfl f rfl (by omega) (by omega) dX0_loseCane_16 (wM Y a (sM M 13 f ((M 13 f) + (M 10 f)))) rfl (fun H locs hP hD hS => ?_)
  refine lv_aload_n hx hb dX0_loseCane_17 rfl (lv_at hl 1 rfl) ?_
  refine gfX0_24 (v := .ref (a 13)) hx hb hta hown hK hP 8 rfl rfl dX0_loseCane_18 ?_
  refine lv_iload_n hx hb dX0_loseCane_21 rfl (lv_at hl 2 rfl) ?_
  refine lv_iconst (v := 0) hx hb dX0_loseCane_22 (by decide) ?_
  refine kiast (f := M 10) hx hb hK hP hD hS 13 rfl f rfl (by omega) (by omega) dX0_loseCane_23 (wM Y a (sM (sM M 13 f ((M 13 f) + (M 10 f))) 10 f 0)) rfl (fun H locs hP hD hS => ?_)
  refine lv_iload_n hx hb dX0_loseCane_24 rfl (lv_at hl 0 rfl) ?_
  exact kiret (sM (sM M 13 f ((M 13 f) + (M 10 f))) 10 f 0) hQ hx hb hr hlocks hP hS dX0_loseCane_25 (⟨rfl, rfl⟩)
set_option maxHeartbeats 4000000 in
set_option maxRecDepth 100000 in
theorem c_X0_purityOn (l : Launch) (D : va_G) (Y : Nat → ClassId) (a : Nat → Nat) (M : kN) (f : Nat) (d loss : Int32) (hf : f < 30) : kM l yX0_purityOn wX0_purityOn rX0_purityOn D Y (wM Y a M) [.ref (a 8), .int (nI f), .int d, .int loss] kX0 (kQi D (fun r (_ : Unit) => r = sPur (M 9 f) (M 8 f) d loss) (fun _ => wM Y a M)) := by
  refine kentry (cc := cX0_purityOn) (maxL := 5) (ret := (some .int)) (by decide +kernel) rfl (Nat.le_of_ble_eq_true rfl) ?_
  intro p e s m args below meth c A Q ls hQ hx hb hr hlocks hml hown hin hta hA hX hK hNs hP hD hS hl
  have hown : s.vm.findClass RX0 = some m.cls := hown
  have hl : lv_has ls 5 [(0, .ref (a 8)), (1, .int (nI f)), (2, .int d), (3, .int loss)] := hl
  refine lv_iconst (v := 0) hx hb dX0_purityOn_0 (by decide) ?_
  refine lv_iload_n hx hb dX0_purityOn_1 rfl (lv_at hl 2 rfl) ?_
  refine lv_aload_n hx hb dX0_purityOn_2 rfl (lv_at hl 0 rfl) ?_
  refine gfX0_21 (v := .ref (a 12)) hx hb hta hown hK hP 8 rfl rfl dX0_purityOn_3 ?_
  refine lv_iload_n hx hb dX0_purityOn_6 rfl (lv_at hl 1 rfl) ?_
  refine kiald (f := M 9) hx hb hK hP 12 rfl f rfl (by omega) (by omega) dX0_purityOn_7 ?_
  refine lv_isub hx hb dX0_purityOn_8 ?_
  refine va_mmax hx hb (by rw [hml]; exact hl.1.symm) hown (hta _ al_378) (hta _ al_379) (hta _ al_133) (hta _ al_380) (Nat.le_of_ble_eq_true rfl) (Nat.le_of_ble_eq_true rfl) (Nat.le_of_ble_eq_true rfl) (Nat.le_of_ble_eq_true rfl) dX0_purityOn_9 ?_
  refine kTop (y := kmax 0 (d - (M 9 f))) rfl ?_
  refine lv_istore (lv' := [(4, .int (kmax 0 (d - (M 9 f)))), (0, .ref (a 8)), (1, .int (nI f)), (2, .int d), (3, .int loss)]) hx hb dX0_purityOn_12 hl (by decide) rfl (fun ls hl => ?_)
  refine lv_iconst (v := 0) hx hb dX0_purityOn_14 (by decide) ?_
  refine lv_aload_n hx hb dX0_purityOn_15 rfl (lv_at hl 1 rfl) ?_
  refine gfX0_18 (v := .ref (a 11)) hx hb hta hown hK hP 8 rfl rfl dX0_purityOn_16 ?_
  refine lv_iload_n hx hb dX0_purityOn_19 rfl (lv_at hl 2 rfl) ?_
  refine kiald (f := M 8) hx hb hK hP 11 rfl f rfl (by omega) (by omega) dX0_purityOn_20 ?_
  refine lv_iload_n hx hb dX0_purityOn_21 rfl (lv_at hl 4 rfl) ?_
  refine lv_iload hx hb dX0_purityOn_22 (lv_at hl 0 rfl) ?_
  refine lv_imul hx hb dX0_purityOn_24 ?_
  refine lv_isub hx hb dX0_purityOn_25 ?_
  refine va_mmax hx hb (by rw [hml]; exact hl.1.symm) hown (hta _ al_378) (hta _ al_379) (hta _ al_133) (hta _ al_380) (Nat.le_of_ble_eq_true rfl) (Nat.le_of_ble_eq_true rfl) (Nat.le_of_ble_eq_true rfl) (Nat.le_of_ble_eq_true rfl) dX0_purityOn_26 ?_
  refine kTop (y := kmax 0 ((M 8 f) - (loss * (kmax 0 (d - (M 9 f)))))) rfl ?_
  exact kiret (()) hQ hx hb hr hlocks hP hS dX0_purityOn_29 rfl
set_option maxHeartbeats 4000000 in
set_option maxRecDepth 100000 in
theorem c_X3_goesAhead (l : Launch) (D : va_G) (Y : Nat → ClassId) (a : Nat → Nat) (M : kN) (f b : Nat) (hf : f < 30) (hb0 : b < 30) (hgf : M 6 f = nI (gr M f) ∧ gr M f < 6) (hgb : M 6 b = nI (gr M b) ∧ gr M b < 6) : kM l yX3_goesAhead wX3_goesAhead rX3_goesAhead D Y (wM Y a M) [.ref (a 0), .int (nI f), .int (nI b)] kX0 (kQi D (fun r (_ : Unit) => r = kb (pAheadM M f b)) (fun _ => wM Y a M)) := by
  refine kentry (cc := cX3_goesAhead) (maxL := 5) (ret := (some .boolean)) (by decide +kernel) rfl (Nat.le_of_ble_eq_true rfl) ?_
  intro p e s m args below meth c A Q ls hQ hx hb hr hlocks hml hown hin hta hA hX hK hNs hP hD hS hl
  have hown : s.vm.findClass RX3 = some m.cls := hown
  have hl : lv_has ls 5 [(0, .ref (a 0)), (1, .int (nI f)), (2, .int (nI b))] := hl
  refine lv_aload_n hx hb dX3_goesAhead_0 rfl (lv_at hl 0 rfl) ?_
  refine gfX3_25 (v := .ref (a 8)) hx hb hta hown hK hP 0 rfl rfl dX3_goesAhead_1 ?_
  refine gfX3_113 (v := .ref (a 12)) hx hb hta hown hK hP 8 rfl rfl dX3_goesAhead_4 ?_
  refine lv_astore_n (lv' := [(3, .ref (a 12)), (0, .ref (a 0)), (1, .int (nI f)), (2, .int (nI b))]) hx hb dX3_goesAhead_7 rfl hl (by decide) rfl (fun ls hl => ?_)
  refine lv_aload_n hx hb dX3_goesAhead_8 rfl (lv_at hl 1 rfl) ?_
  refine gfX3_25 (v := .ref (a 8)) hx hb hta hown hK hP 0 rfl rfl dX3_goesAhead_9 ?_
  refine gfX3_119 (v := .ref (a 9)) hx hb hta hown hK hP 8 rfl rfl dX3_goesAhead_12 ?_
  refine lv_astore (lv' := [(4, .ref (a 9)), (3, .ref (a 12)), (0, .ref (a 0)), (1, .int (nI f)), (2, .int (nI b))]) hx hb dX3_goesAhead_15 hl (by decide) rfl (fun ls hl => ?_)
  refine lv_aload_n hx hb dX3_goesAhead_17 rfl (lv_at hl 1 rfl) ?_
  refine lv_iload_n hx hb dX3_goesAhead_18 rfl (lv_at hl 3 rfl) ?_
  refine kiald (f := M 9) hx hb hK hP 12 rfl f rfl (by omega) (by omega) dX3_goesAhead_19 ?_
  refine lv_aload_n hx hb dX3_goesAhead_20 rfl (lv_at hl 1 rfl) ?_
  refine lv_iload_n hx hb dX3_goesAhead_21 rfl (lv_at hl 4 rfl) ?_
  refine kiald (f := M 9) hx hb hK hP 12 rfl b rfl (by omega) (by omega) dX3_goesAhead_22 ?_
  refine lv_icmp_eq (tgt := 41) hx hb dX3_goesAhead_23 (by decide) (fun c1 => ?_) (fun c1 => ?_)
  · refine lv_aload_n hx hb dX3_goesAhead_41 rfl (lv_at hl 2 rfl) ?_
    refine gfX3_18 (v := .ref (a 2)) hx hb hta hown hK hP 0 rfl rfl dX3_goesAhead_42 ?_
    refine gfX3_87 (v := .ref (a 3)) hx hb hta hown hK hP 2 rfl rfl dX3_goesAhead_45 ?_
    refine lv_aload hx hb dX3_goesAhead_48 (lv_at hl 0 rfl) ?_
    refine lv_iload_n hx hb dX3_goesAhead_50 rfl (lv_at hl 3 rfl) ?_
    refine kiald (f := M 6) hx hb hK hP 9 rfl f rfl (by omega) (by omega) dX3_goesAhead_51 ?_
    refine kTop hgf.1 ?_
    refine kiald (f := M 1) hx hb hK hP 3 rfl (gr M f) rfl (by omega) (by omega) dX3_goesAhead_52 ?_
    refine lv_aload_n hx hb dX3_goesAhead_53 rfl (lv_at hl 2 rfl) ?_
    refine gfX3_18 (v := .ref (a 2)) hx hb hta hown hK hP 0 rfl rfl dX3_goesAhead_54 ?_
    refine gfX3_87 (v := .ref (a 3)) hx hb hta hown hK hP 2 rfl rfl dX3_goesAhead_57 ?_
    refine lv_aload hx hb dX3_goesAhead_60 (lv_at hl 0 rfl) ?_
    refine lv_iload_n hx hb dX3_goesAhead_62 rfl (lv_at hl 4 rfl) ?_
    refine kiald (f := M 6) hx hb hK hP 9 rfl b rfl (by omega) (by omega) dX3_goesAhead_63 ?_
    refine kTop hgb.1 ?_
    refine kiald (f := M 1) hx hb hK hP 3 rfl (gr M b) rfl (by omega) (by omega) dX3_goesAhead_64 ?_
    refine lv_icmp_le (tgt := 72) hx hb dX3_goesAhead_65 (by decide) (fun c2 => ?_) (fun c2 => ?_)
    · refine lv_iconst (v := 0) hx hb dX3_goesAhead_72 (by decide) ?_
      exact kzret (()) hQ hx hb hr hlocks hP hS dX3_goesAhead_73 (by first | exact Or.inl rfl | exact Or.inr rfl | exact kb_01 _) (by simp [kb, pAheadM, pAhead, c1, c2])
    · refine lv_iconst (v := 1) hx hb dX3_goesAhead_68 (by decide) ?_
      refine lv_goto (tgt := 73) hx hb dX3_goesAhead_69 (by decide) ?_
      exact kzret (()) hQ hx hb hr hlocks hP hS dX3_goesAhead_73 (by first | exact Or.inl rfl | exact Or.inr rfl | exact kb_01 _) (by simp [kb, pAheadM, pAhead, c1, c2])
  · refine lv_aload_n hx hb dX3_goesAhead_26 rfl (lv_at hl 1 rfl) ?_
    refine lv_iload_n hx hb dX3_goesAhead_27 rfl (lv_at hl 3 rfl) ?_
    refine kiald (f := M 9) hx hb hK hP 12 rfl f rfl (by omega) (by omega) dX3_goesAhead_28 ?_
    refine lv_aload_n hx hb dX3_goesAhead_29 rfl (lv_at hl 1 rfl) ?_
    refine lv_iload_n hx hb dX3_goesAhead_30 rfl (lv_at hl 4 rfl) ?_
    refine kiald (f := M 9) hx hb hK hP 12 rfl b rfl (by omega) (by omega) dX3_goesAhead_31 ?_
    refine lv_icmp_ge (tgt := 39) hx hb dX3_goesAhead_32 (by decide) (fun c3 => ?_) (fun c3 => ?_)
    · refine lv_iconst (v := 0) hx hb dX3_goesAhead_39 (by decide) ?_
      exact kzret (()) hQ hx hb hr hlocks hP hS dX3_goesAhead_40 (by first | exact Or.inl rfl | exact Or.inr rfl | exact kb_01 _) (by simp [kb, pAheadM, pAhead, c1, c3])
    · refine lv_iconst (v := 1) hx hb dX3_goesAhead_35 (by decide) ?_
      refine lv_goto (tgt := 40) hx hb dX3_goesAhead_36 (by decide) ?_
      exact kzret (()) hQ hx hb hr hlocks hP hS dX3_goesAhead_40 (by first | exact Or.inl rfl | exact Or.inr rfl | exact kb_01 _) (by simp [kb, pAheadM, pAhead, c1, c3])
end
section
set_option maxHeartbeats 4000000 in
set_option maxRecDepth 100000 in
theorem c_X6_append (l : Launch) (D : va_G) (Y : Nat → ClassId) (a : Nat → Nat) (M : kN) (f t d : Int32) (hI : cI M) : kM l yX6_append wX6_append rX6_append D Y (wM Y a M) [.ref (a 20), .int f, .int t, .int d] kX0 (kQv D (fun u => u = cAppend M f t d) (fun u => wM Y a u)) := by
  refine kentry (cc := cX6_append) (maxL := 4) (ret := none) (by decide +kernel) rfl (Nat.le_of_ble_eq_true rfl) ?_
  intro p e s m args below meth c A Q ls hQ hx hb hr hlocks hml hown hin hta hA hX hK hNs hP hD hS hl
  have hown : s.vm.findClass RX6 = some m.cls := hown
  have hl : lv_has ls 4 [(0, .ref (a 20)), (1, .int f), (2, .int t), (3, .int d)] := hl
  have h400 := hI.y400
  refine lv_aload_n hx hb dX6_append_0 rfl (lv_at hl 0 rfl) ?_
  refine gfX6_21 (v := .int (M 19 6)) hx hb hta hown hK hP 20 rfl rfl dX6_append_1 ?_
  refine kTop hI.y ?_
  refine lv_sipush (v := 400) hx hb dX6_append_4 (by decide) ?_
  refine lv_icmp_lt (tgt := 11) hx hb dX6_append_7 (by decide) (fun c1 => ?_) (fun c1 => ?_)
  · have c1n : (nY M) < 400 := (nI_ltI (a := nY M) (b := 400) (by omega) (by omega)).mp c1
    refine lv_aload_n hx hb dX6_append_11 rfl (lv_at hl 0 rfl) ?_
    refine gfX6_9 (v := .ref (a 21)) hx hb hta hown hK hP 20 rfl rfl dX6_append_12 ?_
    refine lv_aload_n hx hb dX6_append_15 rfl (lv_at hl 0 rfl) ?_
    refine gfX6_21 (v := .int (M 19 6)) hx hb hta hown hK hP 20 rfl rfl dX6_append_16 ?_
    refine kTop hI.y ?_
    refine lv_iload_n hx hb dX6_append_19 rfl (lv_at hl 1 rfl) ?_
    refine kiast (f := M 16) hx hb hK hP hD hS 21 rfl (nY M) rfl (by omega) (by omega) dX6_append_20 (wM Y a (sM M 16 (nY M) f)) rfl (fun H locs hP hD hS => ?_)
    refine lv_aload_n hx hb dX6_append_21 rfl (lv_at hl 0 rfl) ?_
    refine gfX6_15 (v := .ref (a 22)) hx hb hta hown hK hP 20 rfl rfl dX6_append_22 ?_
    refine lv_aload_n hx hb dX6_append_25 rfl (lv_at hl 0 rfl) ?_
    refine gfX6_21 (v := .int (M 19 6)) hx hb hta hown hK hP 20 rfl rfl dX6_append_26 ?_
    refine kTop hI.y ?_
    refine lv_iload_n hx hb dX6_append_29 rfl (lv_at hl 2 rfl) ?_
    refine kiast (f := M 17) hx hb hK hP hD hS 22 rfl (nY M) rfl (by omega) (by omega) dX6_append_30 (wM Y a (sM (sM M 16 (nY M) f) 17 (nY M) t)) rfl (fun H locs hP hD hS => ?_)
    refine lv_aload_n hx hb dX6_append_31 rfl (lv_at hl 0 rfl) ?_
    refine gfX6_18 (v := .ref (a 23)) hx hb hta hown hK hP 20 rfl rfl dX6_append_32 ?_
    refine lv_aload_n hx hb dX6_append_35 rfl (lv_at hl 0 rfl) ?_
    refine gfX6_21 (v := .int (M 19 6)) hx hb hta hown hK hP 20 rfl rfl dX6_append_36 ?_
    refine kTop hI.y ?_
    refine lv_iload_n hx hb dX6_append_39 rfl (lv_at hl 3 rfl) ?_
    refine kiast (f := M 18) hx hb hK hP hD hS 23 rfl (nY M) rfl (by omega) (by omega) dX6_append_40 (wM Y a (sM (sM (sM M 16 (nY M) f) 17 (nY M) t) 18 (nY M) d)) rfl (fun H locs hP hD hS => ?_)
    refine lv_aload_n hx hb dX6_append_41 rfl (lv_at hl 0 rfl) ?_
    refine lv_dup hx hb dX6_append_42 rfl ?_
    refine gfX6_21 (v := .int (M 19 6)) hx hb hta hown hK hP 20 rfl rfl dX6_append_43 ?_
    refine kTop hI.y ?_
    refine lv_iconst (v := 1) hx hb dX6_append_46 (by decide) ?_
    refine lv_iadd hx hb dX6_append_47 ?_
    refine pfX6_21 (ws1 := wM Y a (sM (sM (sM (sM M 16 (nY M) f) 17 (nY M) t) 18 (nY M) d) 19 6 ((nI (nY M)) + 1))) hx hb hta hown hK hP hD hS 20 rfl (Nat.le_of_ble_eq_true rfl) rfl dX6_append_48 (fun H locs hP hD hS => ?_)
    refine lv_aload_n hx hb dX6_append_51 rfl (lv_at hl 0 rfl) ?_
    refine lv_dup hx hb dX6_append_52 rfl ?_
    refine gfX6_25 (v := .int (M 19 7)) hx hb hta hown hK hP 20 rfl rfl dX6_append_53 ?_
    refine lv_iload_n hx hb dX6_append_56 rfl (lv_at hl 2 rfl) ?_
    refine lv_iadd hx hb dX6_append_57 ?_
    refine pfX6_25 (ws1 := wM Y a (sM (sM (sM (sM (sM M 16 (nY M) f) 17 (nY M) t) 18 (nY M) d) 19 6 ((nI (nY M)) + 1)) 19 7 ((M 19 7) + t))) hx hb hta hown hK hP hD hS 20 rfl (Nat.le_of_ble_eq_true rfl) rfl dX6_append_58 (fun H locs hP hD hS => ?_)
    exact kvret (sM (sM (sM (sM (sM M 16 (nY M) f) 17 (nY M) t) 18 (nY M) d) 19 6 ((nI (nY M)) + 1)) 19 7 ((M 19 7) + t)) hQ hx hb hr hlocks hP hS dX6_append_61 (by unfold cAppend; rw [hI.y]; exact (if_pos c1).symm)
  · have c1n : ¬ (nY M) < 400 := fun h => c1 ((nI_ltI (a := nY M) (b := 400) (by omega) (by omega)).mpr h)
    exact kvret (M) hQ hx hb hr hlocks hP hS dX6_append_10 (by unfold cAppend; rw [hI.y]; exact (if_neg c1).symm)
set_option maxHeartbeats 4000000 in
set_option maxRecDepth 100000 in
theorem c_X6_takeFrom (l : Launch) (D : va_G) (Y : Nat → ClassId) (a : Nat → Nat) (M : kN) (k : Nat) (t : Int32) (hI : cI M) (hk : k < nY M) : kM l yX6_takeFrom wX6_takeFrom rX6_takeFrom D Y (wM Y a M) [.ref (a 20), .int (nI k), .int t] kX0 (kQi D (fun r u => r = M 17 k - t ∧ u = cTake M k t) (fun u => wM Y a u)) := by
  refine kentry (cc := cX6_takeFrom) (maxL := 3) (ret := (some .int)) (by decide +kernel) rfl (Nat.le_of_ble_eq_true rfl) ?_
  intro p e s m args below meth c A Q ls hQ hx hb hr hlocks hml hown hin hta hA hX hK hNs hP hD hS hl
  have hown : s.vm.findClass RX6 = some m.cls := hown
  have hl : lv_has ls 3 [(0, .ref (a 20)), (1, .int (nI k)), (2, .int t)] := hl
  have h400 := hI.y400
  refine lv_iload_n hx hb dX6_takeFrom_0 rfl (lv_at hl 1 rfl) ?_
  refine lv_iconst (v := 0) hx hb dX6_takeFrom_1 (by decide) ?_
  refine lv_aload_n hx hb dX6_takeFrom_2 rfl (lv_at hl 0 rfl) ?_
  refine gfX6_21 (v := .int (M 19 6)) hx hb hta hown hK hP 20 rfl rfl dX6_takeFrom_3 ?_
  refine kTop hI.y ?_
  refine lv_iconst (v := 1) hx hb dX6_takeFrom_6 (by decide) ?_
  refine lv_isub hx hb dX6_takeFrom_7 ?_
  refine kTop (y := nI (nY M - 1)) (pk_sub (a := nY M) (b := 1) (by omega)) ?_
  refine kc_i (krSN (As := [.int (nI k), .int 0, .int (nI (nY M - 1))]) (rest := []) (c_X7_isWithin l D Y (nI k) 0 (nI (nY M - 1))) ⟨hx, hb, hml, hown, hta⟩ (cwX6_32 hta hNs ⟨Nat.le_of_ble_eq_true rfl, Nat.le_of_ble_eq_true rfl⟩) kX0b (fun _ _ _ => trivial) hK hNs hP hD (kJ_nil) rfl hl.1 rfl (Nat.le_of_ble_eq_true rfl) dX6_takeFrom_8 ⟨Nat.le_of_ble_eq_true rfl, Nat.le_of_ble_eq_true rfl⟩) hP hD hS hA (kJ_nil) (fun _ => rfl) (fun r1 u H locs hw hP hD hS => ?_)
  subst hw
  have hP : va_P D vwCl (wM Y a M) H := hP
  have hD : va_D A (wM Y a M) := hD
  refine kTop (kb_t (pIn_nI (by omega) (by omega))) ?_
  refine lv_if_ne (tgt := 16) hx hb dX6_takeFrom_11 (by decide) (fun _ => ?_) (fun h => False.elim (by revert h; decide))
  refine lv_aload_n hx hb dX6_takeFrom_16 rfl (lv_at hl 0 rfl) ?_
  refine gfX6_15 (v := .ref (a 22)) hx hb hta hown hK hP 20 rfl rfl dX6_takeFrom_17 ?_
  refine lv_iload_n hx hb dX6_takeFrom_20 rfl (lv_at hl 1 rfl) ?_
  refine lv_dup2_11 hx hb dX6_takeFrom_21 rfl rfl ?_
  refine kiald (f := M 17) hx hb hK hP 22 rfl k rfl (by omega) (by omega) dX6_takeFrom_22 ?_
  refine lv_iload_n hx hb dX6_takeFrom_23 rfl (lv_at hl 2 rfl) ?_
  refine lv_isub hx hb dX6_takeFrom_24 ?_
  refine kiast (f := M 17) hx hb hK hP hD hS 22 rfl k rfl (by omega) (by omega) dX6_takeFrom_25 (wM Y a (sM M 17 k ((M 17 k) - t))) rfl (fun H locs hP hD hS => ?_)
  refine lv_aload_n hx hb dX6_takeFrom_26 rfl (lv_at hl 0 rfl) ?_
  refine lv_dup hx hb dX6_takeFrom_27 rfl ?_
  refine gfX6_25 (v := .int (M 19 7)) hx hb hta hown hK hP 20 rfl rfl dX6_takeFrom_28 ?_
  refine lv_iload_n hx hb dX6_takeFrom_31 rfl (lv_at hl 2 rfl) ?_
  refine lv_isub hx hb dX6_takeFrom_32 ?_
  refine pfX6_25 (ws1 := wM Y a (sM (sM M 17 k ((M 17 k) - t)) 19 7 ((M 19 7) - t))) hx hb hta hown hK hP hD hS 20 rfl (Nat.le_of_ble_eq_true rfl) rfl dX6_takeFrom_33 (fun H locs hP hD hS => ?_)
  refine lv_aload_n hx hb dX6_takeFrom_36 rfl (lv_at hl 0 rfl) ?_
  refine gfX6_15 (v := .ref (a 22)) hx hb hta hown hK hP 20 rfl rfl dX6_takeFrom_37 ?_
  refine lv_iload_n hx hb dX6_takeFrom_40 rfl (lv_at hl 1 rfl) ?_
  refine kiald (f := upd (M 17) k ((M 17 k) - t)) hx hb hK hP 22 rfl k rfl (by omega) (by omega) dX6_takeFrom_41 ?_
  exact kiret (sM (sM M 17 k ((M 17 k) - t)) 19 7 ((M 19 7) - t)) hQ hx hb hr hlocks hP hS dX6_takeFrom_42 (⟨by simp [upd], rfl⟩)
set_option maxHeartbeats 4000000 in
set_option maxRecDepth 100000 in
theorem c_X6_dropFirst (l : Launch) (D : va_G) (Y : Nat → ClassId) (a : Nat → Nat) (M : kN) (d : Nat) (hI : cI M) (hd : d ≤ nY M) : kM l yX6_dropFirst wX6_dropFirst rX6_dropFirst D Y (wM Y a M) [.ref (a 20), .int (nI d)] kX0 (kQv D (fun u => u = cDrop M d) (fun u => wM Y a u)) := by
  refine kentry (cc := cX6_dropFirst) (maxL := 3) (ret := none) (by decide +kernel) rfl (Nat.le_of_ble_eq_true rfl) ?_
  intro p e s m args below meth c A Q ls hQ hx hb hr hlocks hml hown hin hta hA hX hK hNs hP hD hS hl
  have hown : s.vm.findClass RX6 = some m.cls := hown
  have hl : lv_has ls 3 [(0, .ref (a 20)), (1, .int (nI d))] := hl
  have h400 := hI.y400
  refine lv_iload_n hx hb dX6_dropFirst_0 rfl (lv_at hl 1 rfl) ?_
  refine lv_istore_n (lv' := [(2, .int (nI d)), (0, .ref (a 20)), (1, .int (nI d))]) hx hb dX6_dropFirst_1 rfl hl (by decide) rfl (fun ls hl => ?_)
  have loop2 : ∀ (n : Nat) (j : Nat) (N : kN), nY M - (d + j) < n → cDropTo M d j = N → d + j ≤ nY M → ∀ (H : Heap) (locs : List Loc), va_P D vwCl (wM Y a N) H → va_D A (wM Y a N) → va_S A s.heap H locs → ∀ (ls : Array Slot), lv_has ls 3 [(2, .int (nI (d + j))), (0, .ref (a 20)), (1, .int (nI d))] → W p l e rX6_dropFirst s m args below meth c H locs 0 0 Q (F0 m 2 ls []) := by
    intro n
    induction n with
    | zero => intro j N hmu; exact absurd hmu (Nat.not_lt_zero _)
    | succ n ih =>
      intro j N hmu hN hj H locs hP hD hS ls hl
      have e6 : N 19 6 = nI (nY M) := by rw [← hN, cDropTo_o M d (by decide) (by decide) (by decide)]; exact hI.y
      refine lv_iload_n hx hb dX6_dropFirst_2 rfl (lv_at hl 0 rfl) ?_
      refine lv_aload_n hx hb dX6_dropFirst_3 rfl (lv_at hl 1 rfl) ?_
      refine gfX6_21 (v := .int (N 19 6)) hx hb hta hown hK hP 20 rfl rfl dX6_dropFirst_4 ?_
      refine kTop e6 ?_
      refine lv_icmp_ge (tgt := 58) hx hb dX6_dropFirst_7 (by decide) (fun c1 => ?_) (fun c1 => ?_)
      · have c1n : (nY M) ≤ (d + j) := (nI_leI (a := nY M) (b := d + j) (by omega) (by omega)).mp c1
        refine lv_aload_n hx hb dX6_dropFirst_58 rfl (lv_at hl 1 rfl) ?_
        refine lv_dup hx hb dX6_dropFirst_59 rfl ?_
        refine gfX6_21 (v := .int (N 19 6)) hx hb hta hown hK hP 20 rfl rfl dX6_dropFirst_60 ?_
        refine kTop e6 ?_
        refine lv_iload_n hx hb dX6_dropFirst_63 rfl (lv_at hl 2 rfl) ?_
        refine lv_isub hx hb dX6_dropFirst_64 ?_
        refine pfX6_21 (ws1 := wM Y a (sM N 19 6 ((nI (nY M)) - (nI d)))) hx hb hta hown hK hP hD hS 20 rfl (Nat.le_of_ble_eq_true rfl) rfl dX6_dropFirst_65 (fun H locs hP hD hS => ?_)
        exact kvret (sM N 19 6 ((nI (nY M)) - (nI d))) hQ hx hb hr hlocks hP hS dX6_dropFirst_68 (by have hj2 : j = nY M - d := (by omega); subst hj2; unfold cDrop; rw [hN, hI.y])
      · have c1n : ¬ (nY M) ≤ (d + j) := fun h => c1 ((nI_leI (a := nY M) (b := d + j) (by omega) (by omega)).mpr h)
        refine lv_aload_n hx hb dX6_dropFirst_10 rfl (lv_at hl 1 rfl) ?_
        refine gfX6_9 (v := .ref (a 21)) hx hb hta hown hK hP 20 rfl rfl dX6_dropFirst_11 ?_
        refine lv_iload_n hx hb dX6_dropFirst_14 rfl (lv_at hl 0 rfl) ?_
        refine lv_iload_n hx hb dX6_dropFirst_15 rfl (lv_at hl 2 rfl) ?_
        refine lv_isub hx hb dX6_dropFirst_16 ?_
        refine kTop (y := nI j) ((pk_sub (by omega)).trans (congrArg nI (by omega))) ?_
        refine lv_aload_n hx hb dX6_dropFirst_17 rfl (lv_at hl 1 rfl) ?_
        refine gfX6_9 (v := .ref (a 21)) hx hb hta hown hK hP 20 rfl rfl dX6_dropFirst_18 ?_
        refine lv_iload_n hx hb dX6_dropFirst_21 rfl (lv_at hl 0 rfl) ?_
        refine kiald (f := N 16) hx hb hK hP 21 rfl (d + j) rfl (by omega) (by omega) dX6_dropFirst_22 ?_
        refine kiast (f := N 16) hx hb hK hP hD hS 21 rfl j rfl (by omega) (by omega) dX6_dropFirst_23 (wM Y a (sM N 16 j (N 16 (d + j)))) rfl (fun H locs hP hD hS => ?_)
        refine lv_aload_n hx hb dX6_dropFirst_24 rfl (lv_at hl 1 rfl) ?_
        refine gfX6_15 (v := .ref (a 22)) hx hb hta hown hK hP 20 rfl rfl dX6_dropFirst_25 ?_
        refine lv_iload_n hx hb dX6_dropFirst_28 rfl (lv_at hl 0 rfl) ?_
        refine lv_iload_n hx hb dX6_dropFirst_29 rfl (lv_at hl 2 rfl) ?_
        refine lv_isub hx hb dX6_dropFirst_30 ?_
        refine kTop (y := nI j) ((pk_sub (by omega)).trans (congrArg nI (by omega))) ?_
        refine lv_aload_n hx hb dX6_dropFirst_31 rfl (lv_at hl 1 rfl) ?_
        refine gfX6_15 (v := .ref (a 22)) hx hb hta hown hK hP 20 rfl rfl dX6_dropFirst_32 ?_
        refine lv_iload_n hx hb dX6_dropFirst_35 rfl (lv_at hl 0 rfl) ?_
        refine kiald (f := N 17) hx hb hK hP 22 rfl (d + j) rfl (by omega) (by omega) dX6_dropFirst_36 ?_
        refine kiast (f := N 17) hx hb hK hP hD hS 22 rfl j rfl (by omega) (by omega) dX6_dropFirst_37 (wM Y a (sM (sM N 16 j (N 16 (d + j))) 17 j (N 17 (d + j)))) rfl (fun H locs hP hD hS => ?_)
        refine lv_aload_n hx hb dX6_dropFirst_38 rfl (lv_at hl 1 rfl) ?_
        refine gfX6_18 (v := .ref (a 23)) hx hb hta hown hK hP 20 rfl rfl dX6_dropFirst_39 ?_
        refine lv_iload_n hx hb dX6_dropFirst_42 rfl (lv_at hl 0 rfl) ?_
        refine lv_iload_n hx hb dX6_dropFirst_43 rfl (lv_at hl 2 rfl) ?_
        refine lv_isub hx hb dX6_dropFirst_44 ?_
        refine kTop (y := nI j) ((pk_sub (by omega)).trans (congrArg nI (by omega))) ?_
        refine lv_aload_n hx hb dX6_dropFirst_45 rfl (lv_at hl 1 rfl) ?_
        refine gfX6_18 (v := .ref (a 23)) hx hb hta hown hK hP 20 rfl rfl dX6_dropFirst_46 ?_
        refine lv_iload_n hx hb dX6_dropFirst_49 rfl (lv_at hl 0 rfl) ?_
        refine kiald (f := N 18) hx hb hK hP 23 rfl (d + j) rfl (by omega) (by omega) dX6_dropFirst_50 ?_
        refine kiast (f := N 18) hx hb hK hP hD hS 23 rfl j rfl (by omega) (by omega) dX6_dropFirst_51 (wM Y a (sM (sM (sM N 16 j (N 16 (d + j))) 17 j (N 17 (d + j))) 18 j (N 18 (d + j)))) rfl (fun H locs hP hD hS => ?_)
        refine lv_iinc (v := nI (d + j + 1)) (lv' := [(2, .int (nI (d + j + 1))), (0, .ref (a 20)), (1, .int (nI d))]) hx hb dX6_dropFirst_52 hl (k := 0) rfl (nI_add (d + j) 1) (by decide) rfl (fun ls hl => ?_)
        refine lv_goto (tgt := 2) hx hb dX6_dropFirst_55 (by decide) ?_
        exact ih (j + 1) (sM (sM (sM N 16 j (N 16 (d + j))) 17 j (N 17 (d + j))) 18 j (N 18 (d + j))) (by omega) (by rw [← hN]; rfl) (by omega) _ _ hP hD hS ls (lv_sub hl [0, 1, 2] rfl)
  exact loop2 ((nY M - (d + 0)) + 1) 0 M (Nat.lt_succ_self _) rfl (by omega) _ _ hP hD hS ls (lv_sub hl [0, 1, 2] rfl)
set_option maxHeartbeats 4000000 in
set_option maxRecDepth 100000 in
theorem c_X3_loseOldCane (l : Launch) (D : va_G) (Y : Nat → ClassId) (a : Nat → Nat) (M : kN) (hI : cI M) : kM l yX3_loseOldCane wX3_loseOldCane rX3_loseOldCane D Y (wM Y a M) [.ref (a 0)] kX0 (kQv D (fun u => u = cLose M) (fun u => wM Y a u)) := by
  refine kentry (cc := cX3_loseOldCane) (maxL := 2) (ret := none) (by decide +kernel) rfl (Nat.le_of_ble_eq_true rfl) ?_
  intro p e s m args below meth c A Q ls hQ hx hb hr hlocks hml hown hin hta hA hX hK hNs hP hD hS hl
  have hown : s.vm.findClass RX3 = some m.cls := hown
  have hl : lv_has ls 2 [(0, .ref (a 0))] := hl
  have h30 := hI.f30
  refine lv_iconst (v := 0) hx hb dX3_loseOldCane_0 (by decide) ?_
  refine lv_istore_n (lv' := [(1, .int 0), (0, .ref (a 0))]) hx hb dX3_loseOldCane_1 rfl hl (by decide) rfl (fun ls hl => ?_)
  have loop2 : ∀ (n : Nat) (k : Nat) (N : kN), nF M - k < n → cLoseTo M k = N → k ≤ nF M → ∀ (H : Heap) (locs : List Loc), va_P D vwCl (wM Y a N) H → va_D A (wM Y a N) → va_S A s.heap H locs → ∀ (ls : Array Slot), lv_has ls 2 [(1, .int (nI k)), (0, .ref (a 0))] → W p l e rX3_loseOldCane s m args below meth c H locs 0 0 Q (F0 m 2 ls []) := by
    intro n
    induction n with
    | zero => intro k N hmu; exact absurd hmu (Nat.not_lt_zero _)
    | succ n ih =>
      intro k N hmu hN hk H locs hP hD hS ls hl
      obtain ⟨hIN, eF⟩ : cI N ∧ nF N = nF M := hN ▸ cLoseTo_I hI k
      have e4 : N 19 4 = nI (nF M) := by rw [hIN.f, eF]
      refine lv_iload_n hx hb dX3_loseOldCane_2 rfl (lv_at hl 0 rfl) ?_
      refine lv_aload_n hx hb dX3_loseOldCane_3 rfl (lv_at hl 1 rfl) ?_
      refine gfX3_25 (v := .ref (a 8)) hx hb hta hown hK hP 0 rfl rfl dX3_loseOldCane_4 ?_
      refine gfX3_110 (v := .int (N 19 4)) hx hb hta hown hK hP 8 rfl rfl dX3_loseOldCane_7 ?_
      refine kTop e4 ?_
      refine lv_icmp_ge (tgt := 70) hx hb dX3_loseOldCane_10 (by decide) (fun c1 => ?_) (fun c1 => ?_)
      · have c1n : (nF M) ≤ k := (nI_leI (a := nF M) (b := k) (by omega) (by omega)).mp c1
        exact kvret (N) hQ hx hb hr hlocks hP hS dX3_loseOldCane_70 (by have hk2 : k = nF M := (by omega); subst hk2; exact hN.symm)
      · have c1n : ¬ (nF M) ≤ k := fun h => c1 ((nI_leI (a := nF M) (b := k) (by omega) (by omega)).mpr h)
        have hg := hIN.g (f := k) (by omega)
        refine lv_aload_n hx hb dX3_loseOldCane_13 rfl (lv_at hl 1 rfl) ?_
        refine gfX3_60 (v := .int (N 19 0)) hx hb hta hown hK hP 0 rfl rfl dX3_loseOldCane_14 ?_
        refine lv_aload_n hx hb dX3_loseOldCane_17 rfl (lv_at hl 1 rfl) ?_
        refine gfX3_25 (v := .ref (a 8)) hx hb hta hown hK hP 0 rfl rfl dX3_loseOldCane_18 ?_
        refine gfX3_113 (v := .ref (a 12)) hx hb hta hown hK hP 8 rfl rfl dX3_loseOldCane_21 ?_
        refine lv_iload_n hx hb dX3_loseOldCane_24 rfl (lv_at hl 0 rfl) ?_
        refine kiald (f := N 9) hx hb hK hP 12 rfl k rfl (by omega) (by omega) dX3_loseOldCane_25 ?_
        refine lv_isub hx hb dX3_loseOldCane_26 ?_
        refine lv_aload_n hx hb dX3_loseOldCane_27 rfl (lv_at hl 1 rfl) ?_
        refine gfX3_9 (v := .ref (a 1)) hx hb hta hown hK hP 0 rfl rfl dX3_loseOldCane_28 ?_
        refine lv_iconst (v := 5) hx hb dX3_loseOldCane_31 (by decide) ?_
        refine kiald (f := N 0) hx hb hK hP 1 rfl 5 rfl (by omega) (by omega) dX3_loseOldCane_32 ?_
        refine lv_icmp_le (tgt := 64) hx hb dX3_loseOldCane_33 (by decide) (fun c2 => ?_) (fun c2 => ?_)
        · refine lv_iinc (v := nI (k + 1)) (lv' := [(1, .int (nI (k + 1))), (0, .ref (a 0))]) hx hb dX3_loseOldCane_64 hl (k := 0) rfl (nI_add k 1) (by decide) rfl (fun ls hl => ?_)
          refine lv_goto (tgt := 2) hx hb dX3_loseOldCane_67 (by decide) ?_
          exact ih (k + 1) N (by omega) (by show cLoseStep (cLoseTo M k) k = _; rw [hN]; unfold cLoseStep; exact if_pos c2) (by omega) _ _ hP hD hS ls (lv_sub hl [0, 1] rfl)
        · refine lv_aload_n hx hb dX3_loseOldCane_36 rfl (lv_at hl 1 rfl) ?_
          refine gfX3_18 (v := .ref (a 2)) hx hb hta hown hK hP 0 rfl rfl dX3_loseOldCane_37 ?_
          refine gfX3_116 (v := .ref (a 6)) hx hb hta hown hK hP 2 rfl rfl dX3_loseOldCane_40 ?_
          refine lv_aload_n hx hb dX3_loseOldCane_43 rfl (lv_at hl 1 rfl) ?_
          refine gfX3_25 (v := .ref (a 8)) hx hb hta hown hK hP 0 rfl rfl dX3_loseOldCane_44 ?_
          refine gfX3_119 (v := .ref (a 9)) hx hb hta hown hK hP 8 rfl rfl dX3_loseOldCane_47 ?_
          refine lv_iload_n hx hb dX3_loseOldCane_50 rfl (lv_at hl 0 rfl) ?_
          refine kiald (f := N 6) hx hb hK hP 9 rfl k rfl (by omega) (by omega) dX3_loseOldCane_51 ?_
          refine kTop hg.1 ?_
          refine lv_dup2_11 hx hb dX3_loseOldCane_52 rfl rfl ?_
          refine kiald (f := N 4) hx hb hK hP 6 rfl (gr N k) rfl (hg.2) (by omega) dX3_loseOldCane_53 ?_
          refine lv_aload_n hx hb dX3_loseOldCane_54 rfl (lv_at hl 1 rfl) ?_
          refine gfX3_25 (v := .ref (a 8)) hx hb hta hown hK hP 0 rfl rfl dX3_loseOldCane_55 ?_
          refine lv_iload_n hx hb dX3_loseOldCane_58 rfl (lv_at hl 0 rfl) ?_
          refine kc_i (krV (As := [.int (nI k)]) (rest := [.int (N 4 (gr N k)), .int (nI (gr N k)), .ref (a 6)]) (c_X0_loseCane l D Y a N k (by omega)) ⟨hx, hb, hml, hown, hta⟩ (cwX3_122 hta ⟨Nat.le_of_ble_eq_true rfl, Nat.le_of_ble_eq_true rfl⟩) kX0b (fun _ _ _ => trivial) hK hNs hP hD (kJ_all) (q0 := 8) rfl rfl rfl rfl hl.1 rfl (Nat.le_of_ble_eq_true rfl) dX3_loseOldCane_59 ⟨Nat.le_of_ble_eq_true rfl, Nat.le_of_ble_eq_true rfl⟩) hP hD hS hA (kJ_all) (fun _ => rfl) (fun r3 u H locs hw hP hD hS => ?_)
          obtain ⟨rfl, rfl⟩ := hw
          have hP : va_P D vwCl (wM Y a (cLoseCane N k)) H := hP
          have hD : va_D A (wM Y a (cLoseCane N k)) := hD
          refine lv_iadd hx hb dX3_loseOldCane_62 ?_
          refine kiast (f := (cLoseCane N k) 4) hx hb hK hP hD hS 6 rfl (gr N k) rfl (hg.2) (by omega) dX3_loseOldCane_63 (wM Y a (sM (cLoseCane N k) 4 (gr N k) ((N 4 (gr N k)) + (N 10 k)))) rfl (fun H locs hP hD hS => ?_)
          refine lv_iinc (v := nI (k + 1)) (lv' := [(1, .int (nI (k + 1))), (0, .ref (a 0))]) hx hb dX3_loseOldCane_64 hl (k := 0) rfl (nI_add k 1) (by decide) rfl (fun ls hl => ?_)
          refine lv_goto (tgt := 2) hx hb dX3_loseOldCane_67 (by decide) ?_
          exact ih (k + 1) (sM (cLoseCane N k) 4 (gr N k) ((N 4 (gr N k)) + (N 10 k))) (by omega) (by show cLoseStep (cLoseTo M k) k = _; rw [hN]; unfold cLoseStep; exact if_neg c2) (by omega) _ _ hP hD hS ls (lv_sub hl [0, 1] rfl)
  exact loop2 ((nF M - 0) + 1) 0 M (Nat.lt_succ_self _) rfl (by omega) _ _ hP hD hS ls (lv_sub hl [0, 1] rfl)
set_option maxHeartbeats 4000000 in
set_option maxRecDepth 100000 in
theorem c_X3_nextField (l : Launch) (D : va_G) (Y : Nat → ClassId) (a : Nat → Nat) (M : kN) (hI : cI M) : kM l yX3_nextField wX3_nextField rX3_nextField D Y (wM Y a M) [.ref (a 0)] kX0 (kQi D (fun r (_ : Unit) => r = oI (cNextO M)) (fun _ => wM Y a M)) := by
  refine kentry (cc := cX3_nextField) (maxL := 3) (ret := (some .int)) (by decide +kernel) rfl (Nat.le_of_ble_eq_true rfl) ?_
  intro p e s m args below meth c A Q ls hQ hx hb hr hlocks hml hown hin hta hA hX hK hNs hP hD hS hl
  have hown : s.vm.findClass RX3 = some m.cls := hown
  have hl : lv_has ls 3 [(0, .ref (a 0))] := hl
  have h30 := hI.f30
  refine lv_aload_n hx hb dX3_nextField_0 rfl (lv_at hl 0 rfl) ?_
  refine kc_i (krV (As := []) (rest := []) (c_X3_room l D Y a M) ⟨hx, hb, hml, hown, hta⟩ (cwX3_134 hta ⟨Nat.le_of_ble_eq_true rfl, Nat.le_of_ble_eq_true rfl⟩) kX0b (fun _ _ _ => trivial) hK hNs hP hD (kJ_all) (q0 := 0) rfl rfl rfl rfl hl.1 rfl (Nat.le_of_ble_eq_true rfl) dX3_nextField_1 ⟨Nat.le_of_ble_eq_true rfl, Nat.le_of_ble_eq_true rfl⟩) hP hD hS hA (kJ_all) (fun _ => rfl) (fun r1 u H locs hw hP hD hS => ?_)
  subst hw
  have hP : va_P D vwCl (wM Y a M) H := hP
  have hD : va_D A (wM Y a M) := hD
  refine lv_if_gt (tgt := 10) hx hb dX3_nextField_4 (by decide) (fun c2 => ?_) (fun c2 => ?_)
  · refine lv_bipush (v := (-6)) hx hb dX3_nextField_10 (by decide) ?_
    refine lv_istore_n (lv' := [(1, .int (-6)), (0, .ref (a 0))]) hx hb dX3_nextField_12 rfl hl (by decide) rfl (fun ls hl => ?_)
    refine lv_iconst (v := 0) hx hb dX3_nextField_13 (by decide) ?_
    refine lv_istore_n (lv' := [(2, .int 0), (1, .int (-6)), (0, .ref (a 0))]) hx hb dX3_nextField_14 rfl hl (by decide) rfl (fun ls hl => ?_)
    have loop15 : ∀ (n : Nat) (k : Nat) (o : Option Nat), nF M - k < n → o = cBest M k → k ≤ nF M → ∀ (H : Heap) (locs : List Loc), va_P D vwCl (wM Y a M) H → va_D A (wM Y a M) → va_S A s.heap H locs → ∀ (ls : Array Slot), lv_has ls 3 [(2, .int (nI k)), (1, .int (oI o)), (0, .ref (a 0))] → W p l e rX3_nextField s m args below meth c H locs 0 0 Q (F0 m 15 ls []) := by
      intro n
      induction n with
      | zero => intro k o hmu; exact absurd hmu (Nat.not_lt_zero _)
      | succ n ih =>
        intro k o hmu ho hk H locs hP hD hS ls hl
        refine lv_iload_n hx hb dX3_nextField_15 rfl (lv_at hl 0 rfl) ?_
        refine lv_aload_n hx hb dX3_nextField_16 rfl (lv_at hl 2 rfl) ?_
        refine gfX3_25 (v := .ref (a 8)) hx hb hta hown hK hP 0 rfl rfl dX3_nextField_17 ?_
        refine gfX3_110 (v := .int (M 19 4)) hx hb hta hown hK hP 8 rfl rfl dX3_nextField_20 ?_
        refine kTop hI.f ?_
        refine lv_icmp_ge (tgt := 76) hx hb dX3_nextField_23 (by decide) (fun c3 => ?_) (fun c3 => ?_)
        · have c3n : (nF M) ≤ k := (nI_leI (a := nF M) (b := k) (by omega) (by omega)).mp c3
          refine lv_iload_n hx hb dX3_nextField_76 rfl (lv_at hl 1 rfl) ?_
          exact kiret (()) hQ hx hb hr hlocks hP hS dX3_nextField_77 (by have hk2 : k = nF M := (by omega); subst hk2; unfold cNextO; rw [if_pos c2, ho])
        · have c3n : ¬ (nF M) ≤ k := fun h => c3 ((nI_leI (a := nF M) (b := k) (by omega) (by omega)).mpr h)
          refine lv_aload_n hx hb dX3_nextField_26 rfl (lv_at hl 2 rfl) ?_
          refine gfX3_25 (v := .ref (a 8)) hx hb hta hown hK hP 0 rfl rfl dX3_nextField_27 ?_
          refine lv_iload_n hx hb dX3_nextField_30 rfl (lv_at hl 0 rfl) ?_
          refine lv_aload_n hx hb dX3_nextField_31 rfl (lv_at hl 2 rfl) ?_
          refine gfX3_60 (v := .int (M 19 0)) hx hb hta hown hK hP 0 rfl rfl dX3_nextField_32 ?_
          refine kc_i (krV (As := [.int (nI k), .int (M 19 0)]) (rest := []) (c_X0_howItIs l D Y a M k (M 19 0) (by omega)) ⟨hx, hb, hml, hown, hta⟩ (cwX3_137 hta ⟨Nat.le_of_ble_eq_true rfl, Nat.le_of_ble_eq_true rfl⟩) kX0b (fun _ _ _ => trivial) hK hNs hP hD (kJ_all) (q0 := 8) rfl rfl rfl rfl hl.1 rfl (Nat.le_of_ble_eq_true rfl) dX3_nextField_35 ⟨Nat.le_of_ble_eq_true rfl, Nat.le_of_ble_eq_true rfl⟩) hP hD hS hA (kJ_all) (fun _ => rfl) (fun r4 u H locs hw hP hD hS => ?_)
          subst hw
          have hP : va_P D vwCl (wM Y a M) H := hP
          have hD : va_D A (wM Y a M) := hD
          refine lv_iconst (v := 1) hx hb dX3_nextField_38 (by decide) ?_
          refine lv_icmp_ne (tgt := 70) hx hb dX3_nextField_39 (by decide) (fun c5 => ?_) (fun c5 => ?_)
          · refine lv_iinc (v := nI (k + 1)) (lv' := [(2, .int (nI (k + 1))), (1, .int (oI o)), (0, .ref (a 0))]) hx hb dX3_nextField_70 hl (k := 0) rfl (nI_add k 1) (by decide) rfl (fun ls hl => ?_)
            refine lv_goto (tgt := 15) hx hb dX3_nextField_73 (by decide) ?_
            exact ih (k + 1) o (by omega) (by show _ = (if pCan M k then cBetter M k (cBest M k) else cBest M k); rw [if_neg (fun h => c5 h.1)]; exact ho) (by omega) _ _ hP hD hS ls (lv_sub hl [0, 1, 2] rfl)
          · refine lv_aload_n hx hb dX3_nextField_42 rfl (lv_at hl 2 rfl) ?_
            refine lv_iload_n hx hb dX3_nextField_43 rfl (lv_at hl 0 rfl) ?_
            refine kc_i (krV (As := [.int (nI k)]) (rest := []) (c_X3_quotaOf l D Y a M k (by omega) (hI.g (by omega))) ⟨hx, hb, hml, hown, hta⟩ (cwX3_141 hta ⟨Nat.le_of_ble_eq_true rfl, Nat.le_of_ble_eq_true rfl⟩) kX0b (fun _ _ _ => trivial) hK hNs hP hD (kJ_all) (q0 := 0) rfl rfl rfl rfl hl.1 rfl (Nat.le_of_ble_eq_true rfl) dX3_nextField_44 ⟨Nat.le_of_ble_eq_true rfl, Nat.le_of_ble_eq_true rfl⟩) hP hD hS hA (kJ_all) (fun _ => rfl) (fun r6 u H locs hw hP hD hS => ?_)
            subst hw
            have hP : va_P D vwCl (wM Y a M) H := hP
            have hD : va_D A (wM Y a M) := hD
            refine lv_if_gt (tgt := 53) hx hb dX3_nextField_47 (by decide) (fun c7 => ?_) (fun c7 => ?_)
            · rcases o with _ | b0
              · have hl : lv_has ls 3 [(2, .int (nI k)), (1, .int (-6)), (0, .ref (a 0))] := hl
                refine lv_iload_n hx hb dX3_nextField_53 rfl (lv_at hl 1 rfl) ?_
                refine lv_bipush (v := (-6)) hx hb dX3_nextField_54 (by decide) ?_
                refine lv_icmp_eq (tgt := 68) hx hb dX3_nextField_56 (by decide) (fun _ => ?_) (fun h => absurd rfl h)
                refine lv_iload_n hx hb dX3_nextField_68 rfl (lv_at hl 0 rfl) ?_
                refine lv_istore_n (lv' := [(1, .int (nI k)), (2, .int (nI k)), (0, .ref (a 0))]) hx hb dX3_nextField_69 rfl hl (by decide) rfl (fun ls hl => ?_)
                refine lv_iinc (v := nI (k + 1)) (lv' := [(2, .int (nI (k + 1))), (1, .int (nI k)), (0, .ref (a 0))]) hx hb dX3_nextField_70 hl (k := 1) rfl (nI_add k 1) (by decide) rfl (fun ls hl => ?_)
                refine lv_goto (tgt := 15) hx hb dX3_nextField_73 (by decide) ?_
                exact ih (k + 1) (some k) (by omega) (by show _ = (if pCan M k then cBetter M k (cBest M k) else cBest M k); rw [if_pos ⟨c5, c7⟩, ← ho]; rfl) (by omega) _ _ hP hD hS ls (lv_sub hl [0, 1, 2] rfl)
              · have hl : lv_has ls 3 [(2, .int (nI k)), (1, .int (nI b0)), (0, .ref (a 0))] := hl
                have hb0 : b0 < k := cBest_lt ho.symm
                refine lv_iload_n hx hb dX3_nextField_53 rfl (lv_at hl 1 rfl) ?_
                refine lv_bipush (v := (-6)) hx hb dX3_nextField_54 (by decide) ?_
                refine lv_icmp_eq (tgt := 68) hx hb dX3_nextField_56 (by decide) (fun h => absurd h (oI_ne (by omega))) (fun _ => ?_)
                refine lv_aload_n hx hb dX3_nextField_59 rfl (lv_at hl 2 rfl) ?_
                refine lv_iload_n hx hb dX3_nextField_60 rfl (lv_at hl 0 rfl) ?_
                refine lv_iload_n hx hb dX3_nextField_61 rfl (lv_at hl 1 rfl) ?_
                refine kc_i (krV (As := [.int (nI k), .int (nI b0)]) (rest := []) (c_X3_goesAhead l D Y a M k b0 (by omega) (by omega) (hI.g (by omega)) (hI.g (by omega))) ⟨hx, hb, hml, hown, hta⟩ (cwX3_144 hta ⟨Nat.le_of_ble_eq_true rfl, Nat.le_of_ble_eq_true rfl⟩) kX0b (fun _ _ _ => trivial) hK hNs hP hD (kJ_all) (q0 := 0) rfl rfl rfl rfl hl.1 rfl (Nat.le_of_ble_eq_true rfl) dX3_nextField_62 ⟨Nat.le_of_ble_eq_true rfl, Nat.le_of_ble_eq_true rfl⟩) hP hD hS hA (kJ_all) (fun _ => rfl) (fun r10 u H locs hw hP hD hS => ?_)
                subst hw
                have hP : va_P D vwCl (wM Y a M) H := hP
                have hD : va_D A (wM Y a M) := hD
                by_cases c11 : pAheadM M k b0
                · refine kTop (kb_t c11) ?_
                  refine lv_if_eq (tgt := 70) hx hb dX3_nextField_65 (by decide) (fun h => False.elim (by revert h; decide)) (fun _ => ?_)
                  refine lv_iload_n hx hb dX3_nextField_68 rfl (lv_at hl 0 rfl) ?_
                  refine lv_istore_n (lv' := [(1, .int (nI k)), (2, .int (nI k)), (0, .ref (a 0))]) hx hb dX3_nextField_69 rfl hl (by decide) rfl (fun ls hl => ?_)
                  refine lv_iinc (v := nI (k + 1)) (lv' := [(2, .int (nI (k + 1))), (1, .int (nI k)), (0, .ref (a 0))]) hx hb dX3_nextField_70 hl (k := 1) rfl (nI_add k 1) (by decide) rfl (fun ls hl => ?_)
                  refine lv_goto (tgt := 15) hx hb dX3_nextField_73 (by decide) ?_
                  exact ih (k + 1) (some k) (by omega) (by show _ = (if pCan M k then cBetter M k (cBest M k) else cBest M k); rw [if_pos ⟨c5, c7⟩, ← ho]; exact (if_pos c11).symm) (by omega) _ _ hP hD hS ls (lv_sub hl [0, 1, 2] rfl)
                · refine kTop (kb_f c11) ?_
                  refine lv_if_eq (tgt := 70) hx hb dX3_nextField_65 (by decide) (fun _ => ?_) (fun h => False.elim (by revert h; decide))
                  refine lv_iinc (v := nI (k + 1)) (lv' := [(2, .int (nI (k + 1))), (1, .int (nI b0)), (0, .ref (a 0))]) hx hb dX3_nextField_70 hl (k := 0) rfl (nI_add k 1) (by decide) rfl (fun ls hl => ?_)
                  refine lv_goto (tgt := 15) hx hb dX3_nextField_73 (by decide) ?_
                  exact ih (k + 1) (some b0) (by omega) (by show _ = (if pCan M k then cBetter M k (cBest M k) else cBest M k); rw [if_pos ⟨c5, c7⟩, ← ho]; exact (if_neg c11).symm) (by omega) _ _ hP hD hS ls (lv_sub hl [0, 1, 2] rfl)
            · refine lv_goto (tgt := 70) hx hb dX3_nextField_50 (by decide) ?_
              refine lv_iinc (v := nI (k + 1)) (lv' := [(2, .int (nI (k + 1))), (1, .int (oI o)), (0, .ref (a 0))]) hx hb dX3_nextField_70 hl (k := 0) rfl (nI_add k 1) (by decide) rfl (fun ls hl => ?_)
              refine lv_goto (tgt := 15) hx hb dX3_nextField_73 (by decide) ?_
              exact ih (k + 1) o (by omega) (by show _ = (if pCan M k then cBetter M k (cBest M k) else cBest M k); rw [if_neg (fun h => c7 h.2)]; exact ho) (by omega) _ _ hP hD hS ls (lv_sub hl [0, 1, 2] rfl)
    exact loop15 ((nF M - 0) + 1) 0 none (Nat.lt_succ_self _) rfl (by omega) _ _ hP hD hS ls (lv_sub hl [0, 1, 2] rfl)
  · refine lv_bipush (v := (-6)) hx hb dX3_nextField_7 (by decide) ?_
    exact kiret (()) hQ hx hb hr hlocks hP hS dX3_nextField_9 (by unfold cNextO; rw [if_neg c2]; rfl)
set_option maxHeartbeats 4000000 in
set_option maxRecDepth 100000 in
theorem c_X3_bringLoad (l : Launch) (D : va_G) (Y : Nat → ClassId) (a : Nat → Nat) (M : kN) (f : Nat) (hI : cI M) (hf : f < nF M) : kM l yX3_bringLoad wX3_bringLoad rX3_bringLoad D Y (wM Y a M) [.ref (a 0), .int (nI f)] kX0 (kQv D (fun u => u = cBringLoad M f) (fun u => wM Y a u)) := by
  refine kentry (cc := cX3_bringLoad) (maxL := 5) (ret := none) (by decide +kernel) rfl (Nat.le_of_ble_eq_true rfl) ?_
  intro p e s m args below meth c A Q ls hQ hx hb hr hlocks hml hown hin hta hA hX hK hNs hP hD hS hl
  have hown : s.vm.findClass RX3 = some m.cls := hown
  have hl : lv_has ls 5 [(0, .ref (a 0)), (1, .int (nI f))] := hl
  have h30 := hI.f30
  have hg := hI.g hf
  refine lv_aload_n hx hb dX3_bringLoad_0 rfl (lv_at hl 0 rfl) ?_
  refine gfX3_9 (v := .ref (a 1)) hx hb hta hown hK hP 0 rfl rfl dX3_bringLoad_1 ?_
  refine lv_iconst (v := 1) hx hb dX3_bringLoad_4 (by decide) ?_
  refine kiald (f := M 0) hx hb hK hP 1 rfl 1 rfl (by omega) (by omega) dX3_bringLoad_5 ?_
  refine lv_aload_n hx hb dX3_bringLoad_6 rfl (lv_at hl 0 rfl) ?_
  refine gfX3_25 (v := .ref (a 8)) hx hb hta hown hK hP 0 rfl rfl dX3_bringLoad_7 ?_
  refine gfX3_154 (v := .ref (a 13)) hx hb hta hown hK hP 8 rfl rfl dX3_bringLoad_10 ?_
  refine lv_iload_n hx hb dX3_bringLoad_13 rfl (lv_at hl 1 rfl) ?_
  refine kiald (f := M 10) hx hb hK hP 13 rfl f rfl (by omega) (by omega) dX3_bringLoad_14 ?_
  refine va_mmin hx hb (by rw [hml]; exact hl.1.symm) hown (hta _ al_350) (hta _ al_132) (hta _ al_133) (hta _ al_134) (Nat.le_of_ble_eq_true rfl) (Nat.le_of_ble_eq_true rfl) (Nat.le_of_ble_eq_true rfl) (Nat.le_of_ble_eq_true rfl) dX3_bringLoad_15 ?_
  refine kTop (y := kmin (M 0 1) (M 10 f)) rfl ?_
  refine lv_istore_n (lv' := [(2, .int (kmin (M 0 1) (M 10 f))), (0, .ref (a 0)), (1, .int (nI f))]) hx hb dX3_bringLoad_18 rfl hl (by decide) rfl (fun ls hl => ?_)
  refine lv_iload_n hx hb dX3_bringLoad_19 rfl (lv_at hl 0 rfl) ?_
  refine lv_aload_n hx hb dX3_bringLoad_20 rfl (lv_at hl 1 rfl) ?_
  refine lv_iload_n hx hb dX3_bringLoad_21 rfl (lv_at hl 2 rfl) ?_
  refine kc_i (krV (As := [.int (nI f)]) (rest := [.int (kmin (M 0 1) (M 10 f))]) (c_X3_quotaOf l D Y a M f (by omega) (hg)) ⟨hx, hb, hml, hown, hta⟩ (cwX3_141 hta ⟨Nat.le_of_ble_eq_true rfl, Nat.le_of_ble_eq_true rfl⟩) kX0b (fun _ _ _ => trivial) hK hNs hP hD (kJ_all) (q0 := 0) rfl rfl rfl rfl hl.1 rfl (Nat.le_of_ble_eq_true rfl) dX3_bringLoad_22 ⟨Nat.le_of_ble_eq_true rfl, Nat.le_of_ble_eq_true rfl⟩) hP hD hS hA (kJ_all) (fun _ => rfl) (fun r1 u H locs hw hP hD hS => ?_)
  subst hw
  have hP : va_P D vwCl (wM Y a M) H := hP
  have hD : va_D A (wM Y a M) := hD
  refine lv_aload_n hx hb dX3_bringLoad_25 rfl (lv_at hl 1 rfl) ?_
  refine kc_i (krV (As := []) (rest := [.int (M 1 (gr M f)), .int (kmin (M 0 1) (M 10 f))]) (c_X3_room l D Y a M) ⟨hx, hb, hml, hown, hta⟩ (cwX3_134 hta ⟨Nat.le_of_ble_eq_true rfl, Nat.le_of_ble_eq_true rfl⟩) kX0b (fun _ _ _ => trivial) hK hNs hP hD (kJ_all) (q0 := 0) rfl rfl rfl rfl hl.1 rfl (Nat.le_of_ble_eq_true rfl) dX3_bringLoad_26 ⟨Nat.le_of_ble_eq_true rfl, Nat.le_of_ble_eq_true rfl⟩) hP hD hS hA (kJ_all) (fun _ => rfl) (fun r2 u H locs hw hP hD hS => ?_)
  subst hw
  have hP : va_P D vwCl (wM Y a M) H := hP
  have hD : va_D A (wM Y a M) := hD
  refine va_mmin hx hb (by rw [hml]; exact hl.1.symm) hown (hta _ al_350) (hta _ al_132) (hta _ al_133) (hta _ al_134) (Nat.le_of_ble_eq_true rfl) (Nat.le_of_ble_eq_true rfl) (Nat.le_of_ble_eq_true rfl) (Nat.le_of_ble_eq_true rfl) dX3_bringLoad_29 ?_
  refine kTop (y := kmin (M 1 (gr M f)) (cRoom M)) rfl ?_
  refine va_mmin hx hb (by rw [hml]; exact hl.1.symm) hown (hta _ al_350) (hta _ al_132) (hta _ al_133) (hta _ al_134) (Nat.le_of_ble_eq_true rfl) (Nat.le_of_ble_eq_true rfl) (Nat.le_of_ble_eq_true rfl) (Nat.le_of_ble_eq_true rfl) dX3_bringLoad_32 ?_
  refine kTop (y := kmin (kmin (M 0 1) (M 10 f)) (kmin (M 1 (gr M f)) (cRoom M))) rfl ?_
  refine lv_istore_n (lv' := [(3, .int (kmin (kmin (M 0 1) (M 10 f)) (kmin (M 1 (gr M f)) (cRoom M)))), (2, .int (kmin (M 0 1) (M 10 f))), (0, .ref (a 0)), (1, .int (nI f))]) hx hb dX3_bringLoad_35 rfl hl (by decide) rfl (fun ls hl => ?_)
  refine lv_aload_n hx hb dX3_bringLoad_36 rfl (lv_at hl 2 rfl) ?_
  refine gfX3_25 (v := .ref (a 8)) hx hb hta hown hK hP 0 rfl rfl dX3_bringLoad_37 ?_
  refine gfX3_119 (v := .ref (a 9)) hx hb hta hown hK hP 8 rfl rfl dX3_bringLoad_40 ?_
  refine lv_iload_n hx hb dX3_bringLoad_43 rfl (lv_at hl 3 rfl) ?_
  refine kiald (f := M 6) hx hb hK hP 9 rfl f rfl (by omega) (by omega) dX3_bringLoad_44 ?_
  refine kTop hg.1 ?_
  refine lv_istore (lv' := [(4, .int (nI (gr M f))), (3, .int (kmin (kmin (M 0 1) (M 10 f)) (kmin (M 1 (gr M f)) (cRoom M)))), (2, .int (kmin (M 0 1) (M 10 f))), (0, .ref (a 0)), (1, .int (nI f))]) hx hb dX3_bringLoad_45 hl (by decide) rfl (fun ls hl => ?_)
  refine lv_aload_n hx hb dX3_bringLoad_47 rfl (lv_at hl 3 rfl) ?_
  refine gfX3_18 (v := .ref (a 2)) hx hb hta hown hK hP 0 rfl rfl dX3_bringLoad_48 ?_
  refine gfX3_87 (v := .ref (a 3)) hx hb hta hown hK hP 2 rfl rfl dX3_bringLoad_51 ?_
  refine lv_iload hx hb dX3_bringLoad_54 (lv_at hl 0 rfl) ?_
  refine lv_dup2_11 hx hb dX3_bringLoad_56 rfl rfl ?_
  refine kiald (f := M 1) hx hb hK hP 3 rfl (gr M f) rfl (hg.2) (by omega) dX3_bringLoad_57 ?_
  refine lv_iload_n hx hb dX3_bringLoad_58 rfl (lv_at hl 1 rfl) ?_
  refine lv_isub hx hb dX3_bringLoad_59 ?_
  refine kiast (f := M 1) hx hb hK hP hD hS 3 rfl (gr M f) rfl (hg.2) (by omega) dX3_bringLoad_60 (wM Y a (sM M 1 (gr M f) ((M 1 (gr M f)) - (kmin (kmin (M 0 1) (M 10 f)) (kmin (M 1 (gr M f)) (cRoom M)))))) rfl (fun H locs hP hD hS => ?_)
  refine lv_aload_n hx hb dX3_bringLoad_61 rfl (lv_at hl 3 rfl) ?_
  refine gfX3_18 (v := .ref (a 2)) hx hb hta hown hK hP 0 rfl rfl dX3_bringLoad_62 ?_
  refine gfX3_162 (v := .ref (a 4)) hx hb hta hown hK hP 2 rfl rfl dX3_bringLoad_65 ?_
  refine lv_iload hx hb dX3_bringLoad_68 (lv_at hl 0 rfl) ?_
  refine lv_dup2_11 hx hb dX3_bringLoad_70 rfl rfl ?_
  refine kiald (f := M 2) hx hb hK hP 4 rfl (gr M f) rfl (hg.2) (by omega) dX3_bringLoad_71 ?_
  refine lv_iload_n hx hb dX3_bringLoad_72 rfl (lv_at hl 1 rfl) ?_
  refine lv_iadd hx hb dX3_bringLoad_73 ?_
  refine kiast (f := M 2) hx hb hK hP hD hS 4 rfl (gr M f) rfl (hg.2) (by omega) dX3_bringLoad_74 (wM Y a (sM (sM M 1 (gr M f) ((M 1 (gr M f)) - (kmin (kmin (M 0 1) (M 10 f)) (kmin (M 1 (gr M f)) (cRoom M))))) 2 (gr M f) ((M 2 (gr M f)) + (kmin (kmin (M 0 1) (M 10 f)) (kmin (M 1 (gr M f)) (cRoom M)))))) rfl (fun H locs hP hD hS => ?_)
  refine lv_aload_n hx hb dX3_bringLoad_75 rfl (lv_at hl 3 rfl) ?_
  refine gfX3_25 (v := .ref (a 8)) hx hb hta hown hK hP 0 rfl rfl dX3_bringLoad_76 ?_
  refine gfX3_154 (v := .ref (a 13)) hx hb hta hown hK hP 8 rfl rfl dX3_bringLoad_79 ?_
  refine lv_iload_n hx hb dX3_bringLoad_82 rfl (lv_at hl 4 rfl) ?_
  refine lv_dup2_11 hx hb dX3_bringLoad_83 rfl rfl ?_
  refine kiald (f := M 10) hx hb hK hP 13 rfl f rfl (by omega) (by omega) dX3_bringLoad_84 ?_
  refine lv_iload_n hx hb dX3_bringLoad_85 rfl (lv_at hl 1 rfl) ?_
  refine lv_isub hx hb dX3_bringLoad_86 ?_
  refine kiast (f := M 10) hx hb hK hP hD hS 13 rfl f rfl (by omega) (by omega) dX3_bringLoad_87 (wM Y a (sM (sM (sM M 1 (gr M f) ((M 1 (gr M f)) - (kmin (kmin (M 0 1) (M 10 f)) (kmin (M 1 (gr M f)) (cRoom M))))) 2 (gr M f) ((M 2 (gr M f)) + (kmin (kmin (M 0 1) (M 10 f)) (kmin (M 1 (gr M f)) (cRoom M))))) 10 f ((M 10 f) - (kmin (kmin (M 0 1) (M 10 f)) (kmin (M 1 (gr M f)) (cRoom M)))))) rfl (fun H locs hP hD hS => ?_)
  refine lv_aload_n hx hb dX3_bringLoad_88 rfl (lv_at hl 3 rfl) ?_
  refine gfX3_25 (v := .ref (a 8)) hx hb hta hown hK hP 0 rfl rfl dX3_bringLoad_89 ?_
  refine gfX3_165 (v := .ref (a 14)) hx hb hta hown hK hP 8 rfl rfl dX3_bringLoad_92 ?_
  refine lv_iload_n hx hb dX3_bringLoad_95 rfl (lv_at hl 4 rfl) ?_
  refine lv_dup2_11 hx hb dX3_bringLoad_96 rfl rfl ?_
  refine kiald (f := M 11) hx hb hK hP 14 rfl f rfl (by omega) (by omega) dX3_bringLoad_97 ?_
  refine lv_iload_n hx hb dX3_bringLoad_98 rfl (lv_at hl 1 rfl) ?_
  refine lv_iadd hx hb dX3_bringLoad_99 ?_
  refine kiast (f := M 11) hx hb hK hP hD hS 14 rfl f rfl (by omega) (by omega) dX3_bringLoad_100 (wM Y a (sM (sM (sM (sM M 1 (gr M f) ((M 1 (gr M f)) - (kmin (kmin (M 0 1) (M 10 f)) (kmin (M 1 (gr M f)) (cRoom M))))) 2 (gr M f) ((M 2 (gr M f)) + (kmin (kmin (M 0 1) (M 10 f)) (kmin (M 1 (gr M f)) (cRoom M))))) 10 f ((M 10 f) - (kmin (kmin (M 0 1) (M 10 f)) (kmin (M 1 (gr M f)) (cRoom M))))) 11 f ((M 11 f) + (kmin (kmin (M 0 1) (M 10 f)) (kmin (M 1 (gr M f)) (cRoom M)))))) rfl (fun H locs hP hD hS => ?_)
  refine lv_aload_n hx hb dX3_bringLoad_101 rfl (lv_at hl 3 rfl) ?_
  refine gfX3_39 (v := .ref (a 20)) hx hb hta hown hK hP 0 rfl rfl dX3_bringLoad_102 ?_
  refine lv_iload_n hx hb dX3_bringLoad_105 rfl (lv_at hl 4 rfl) ?_
  refine lv_iload_n hx hb dX3_bringLoad_106 rfl (lv_at hl 1 rfl) ?_
  refine lv_aload_n hx hb dX3_bringLoad_107 rfl (lv_at hl 3 rfl) ?_
  refine gfX3_60 (v := .int (M 19 0)) hx hb hta hown hK hP 0 rfl rfl dX3_bringLoad_108 ?_
  refine kc_v (krV (As := [.int (nI f), .int (kmin (kmin (M 0 1) (M 10 f)) (kmin (M 1 (gr M f)) (cRoom M))), .int (M 19 0)]) (rest := []) (c_X6_append l D Y a (sM (sM (sM (sM M 1 (gr M f) ((M 1 (gr M f)) - (kmin (kmin (M 0 1) (M 10 f)) (kmin (M 1 (gr M f)) (cRoom M))))) 2 (gr M f) ((M 2 (gr M f)) + (kmin (kmin (M 0 1) (M 10 f)) (kmin (M 1 (gr M f)) (cRoom M))))) 10 f ((M 10 f) - (kmin (kmin (M 0 1) (M 10 f)) (kmin (M 1 (gr M f)) (cRoom M))))) 11 f ((M 11 f) + (kmin (kmin (M 0 1) (M 10 f)) (kmin (M 1 (gr M f)) (cRoom M))))) (nI f) (kmin (kmin (M 0 1) (M 10 f)) (kmin (M 1 (gr M f)) (cRoom M))) (M 19 0) (cLeaves_I hI f)) ⟨hx, hb, hml, hown, hta⟩ (cwX3_168 hta ⟨Nat.le_of_ble_eq_true rfl, Nat.le_of_ble_eq_true rfl⟩) kX0b (fun _ _ _ => trivial) hK hNs hP hD (kJ_all) (q0 := 20) rfl rfl rfl rfl hl.1 rfl (Nat.le_of_ble_eq_true rfl) dX3_bringLoad_111 ⟨Nat.le_of_ble_eq_true rfl, Nat.le_of_ble_eq_true rfl⟩) hP hD hS hA (kJ_all) (fun _ => rfl) (fun u H locs hw hP hD hS => ?_)
  subst hw
  have hP : va_P D vwCl (wM Y a (cAppend (sM (sM (sM (sM M 1 (gr M f) ((M 1 (gr M f)) - (kmin (kmin (M 0 1) (M 10 f)) (kmin (M 1 (gr M f)) (cRoom M))))) 2 (gr M f) ((M 2 (gr M f)) + (kmin (kmin (M 0 1) (M 10 f)) (kmin (M 1 (gr M f)) (cRoom M))))) 10 f ((M 10 f) - (kmin (kmin (M 0 1) (M 10 f)) (kmin (M 1 (gr M f)) (cRoom M))))) 11 f ((M 11 f) + (kmin (kmin (M 0 1) (M 10 f)) (kmin (M 1 (gr M f)) (cRoom M))))) (nI f) (kmin (kmin (M 0 1) (M 10 f)) (kmin (M 1 (gr M f)) (cRoom M))) (M 19 0))) H := hP
  have hD : va_D A (wM Y a (cAppend (sM (sM (sM (sM M 1 (gr M f) ((M 1 (gr M f)) - (kmin (kmin (M 0 1) (M 10 f)) (kmin (M 1 (gr M f)) (cRoom M))))) 2 (gr M f) ((M 2 (gr M f)) + (kmin (kmin (M 0 1) (M 10 f)) (kmin (M 1 (gr M f)) (cRoom M))))) 10 f ((M 10 f) - (kmin (kmin (M 0 1) (M 10 f)) (kmin (M 1 (gr M f)) (cRoom M))))) 11 f ((M 11 f) + (kmin (kmin (M 0 1) (M 10 f)) (kmin (M 1 (gr M f)) (cRoom M))))) (nI f) (kmin (kmin (M 0 1) (M 10 f)) (kmin (M 1 (gr M f)) (cRoom M))) (M 19 0))) := hD
  refine lv_aload_n hx hb dX3_bringLoad_114 rfl (lv_at hl 3 rfl) ?_
  refine lv_dup hx hb dX3_bringLoad_115 rfl ?_
  refine gfX3_67 (v := .int ((cAppend (sM (sM (sM (sM M 1 (gr M f) ((M 1 (gr M f)) - (kmin (kmin (M 0 1) (M 10 f)) (kmin (M 1 (gr M f)) (cRoom M))))) 2 (gr M f) ((M 2 (gr M f)) + (kmin (kmin (M 0 1) (M 10 f)) (kmin (M 1 (gr M f)) (cRoom M))))) 10 f ((M 10 f) - (kmin (kmin (M 0 1) (M 10 f)) (kmin (M 1 (gr M f)) (cRoom M))))) 11 f ((M 11 f) + (kmin (kmin (M 0 1) (M 10 f)) (kmin (M 1 (gr M f)) (cRoom M))))) (nI f) (kmin (kmin (M 0 1) (M 10 f)) (kmin (M 1 (gr M f)) (cRoom M))) (M 19 0)) 19 2)) hx hb hta hown hK hP 0 rfl rfl dX3_bringLoad_116 ?_
  refine lv_iconst (v := 1) hx hb dX3_bringLoad_119 (by decide) ?_
  refine lv_iadd hx hb dX3_bringLoad_120 ?_
  refine pfX3_67 (ws1 := wM Y a (sM (cAppend (sM (sM (sM (sM M 1 (gr M f) ((M 1 (gr M f)) - (kmin (kmin (M 0 1) (M 10 f)) (kmin (M 1 (gr M f)) (cRoom M))))) 2 (gr M f) ((M 2 (gr M f)) + (kmin (kmin (M 0 1) (M 10 f)) (kmin (M 1 (gr M f)) (cRoom M))))) 10 f ((M 10 f) - (kmin (kmin (M 0 1) (M 10 f)) (kmin (M 1 (gr M f)) (cRoom M))))) 11 f ((M 11 f) + (kmin (kmin (M 0 1) (M 10 f)) (kmin (M 1 (gr M f)) (cRoom M))))) (nI f) (kmin (kmin (M 0 1) (M 10 f)) (kmin (M 1 (gr M f)) (cRoom M))) (M 19 0)) 19 2 (((cAppend (sM (sM (sM (sM M 1 (gr M f) ((M 1 (gr M f)) - (kmin (kmin (M 0 1) (M 10 f)) (kmin (M 1 (gr M f)) (cRoom M))))) 2 (gr M f) ((M 2 (gr M f)) + (kmin (kmin (M 0 1) (M 10 f)) (kmin (M 1 (gr M f)) (cRoom M))))) 10 f ((M 10 f) - (kmin (kmin (M 0 1) (M 10 f)) (kmin (M 1 (gr M f)) (cRoom M))))) 11 f ((M 11 f) + (kmin (kmin (M 0 1) (M 10 f)) (kmin (M 1 (gr M f)) (cRoom M))))) (nI f) (kmin (kmin (M 0 1) (M 10 f)) (kmin (M 1 (gr M f)) (cRoom M))) (M 19 0)) 19 2) + 1))) hx hb hta hown hK hP hD hS 0 rfl (Nat.le_of_ble_eq_true rfl) rfl dX3_bringLoad_121 (fun H locs hP hD hS => ?_)
  exact kvret (sM (cAppend (sM (sM (sM (sM M 1 (gr M f) ((M 1 (gr M f)) - (kmin (kmin (M 0 1) (M 10 f)) (kmin (M 1 (gr M f)) (cRoom M))))) 2 (gr M f) ((M 2 (gr M f)) + (kmin (kmin (M 0 1) (M 10 f)) (kmin (M 1 (gr M f)) (cRoom M))))) 10 f ((M 10 f) - (kmin (kmin (M 0 1) (M 10 f)) (kmin (M 1 (gr M f)) (cRoom M))))) 11 f ((M 11 f) + (kmin (kmin (M 0 1) (M 10 f)) (kmin (M 1 (gr M f)) (cRoom M))))) (nI f) (kmin (kmin (M 0 1) (M 10 f)) (kmin (M 1 (gr M f)) (cRoom M))) (M 19 0)) 19 2 (((cAppend (sM (sM (sM (sM M 1 (gr M f) ((M 1 (gr M f)) - (kmin (kmin (M 0 1) (M 10 f)) (kmin (M 1 (gr M f)) (cRoom M))))) 2 (gr M f) ((M 2 (gr M f)) + (kmin (kmin (M 0 1) (M 10 f)) (kmin (M 1 (gr M f)) (cRoom M))))) 10 f ((M 10 f) - (kmin (kmin (M 0 1) (M 10 f)) (kmin (M 1 (gr M f)) (cRoom M))))) 11 f ((M 11 f) + (kmin (kmin (M 0 1) (M 10 f)) (kmin (M 1 (gr M f)) (cRoom M))))) (nI f) (kmin (kmin (M 0 1) (M 10 f)) (kmin (M 1 (gr M f)) (cRoom M))) (M 19 0)) 19 2) + 1)) hQ hx hb hr hlocks hP hS dX3_bringLoad_124 rfl
end
section
set_option maxHeartbeats 4000000 in
set_option maxRecDepth 100000 in
theorem c_X3_bringLoads (l : Launch) (D : va_G) (Y : Nat → ClassId) (a : Nat → Nat) (M : kN) (hI : cI M) : kM l yX3_bringLoads wX3_bringLoads rX3_bringLoads D Y (wM Y a M) [.ref (a 0)] kX0 (kQv D (fun u => u = cBring M) (fun u => wM Y a u)) := by
  refine kentry (cc := cX3_bringLoads) (maxL := 3) (ret := none) (by decide +kernel) rfl (Nat.le_of_ble_eq_true rfl) ?_
  intro p e s m args below meth c A Q ls hQ hx hb hr hlocks hml hown hin hta hA hX hK hNs hP hD hS hl
  have hown : s.vm.findClass RX3 = some m.cls := hown
  have hl : lv_has ls 3 [(0, .ref (a 0))] := hl
  have h20 := hI.t20
  refine lv_iconst (v := 0) hx hb dX3_bringLoads_0 (by decide) ?_
  refine lv_istore_n (lv' := [(1, .int 0), (0, .ref (a 0))]) hx hb dX3_bringLoads_1 rfl hl (by decide) rfl (fun ls hl => ?_)
  have loop2 : ∀ (n : Nat) (t : Nat) (N : kN), nT M - t < n → cBringTo M t = N → t ≤ nT M → ∀ (H : Heap) (locs : List Loc), va_P D vwCl (wM Y a N) H → va_D A (wM Y a N) → va_S A s.heap H locs → ∀ (ls : Array Slot), lv_has ls 3 [(1, .int (nI t)), (0, .ref (a 0))] → W p l e rX3_bringLoads s m args below meth c H locs 0 0 Q (F0 m 2 ls []) := by
    intro n
    induction n with
    | zero => intro t N hmu; exact absurd hmu (Nat.not_lt_zero _)
    | succ n ih =>
      intro t N hmu hN ht H locs hP hD hS ls hl
      obtain ⟨hIN, eF, e0⟩ : cI N ∧ nF N = nF M ∧ ∀ k, N 0 k = M 0 k := hN ▸ cBringTo_I hI t
      have eT : N 0 0 = nI (nT M) := by rw [e0, hI.t]
      refine lv_iload_n hx hb dX3_bringLoads_2 rfl (lv_at hl 0 rfl) ?_
      refine lv_aload_n hx hb dX3_bringLoads_3 rfl (lv_at hl 1 rfl) ?_
      refine gfX3_9 (v := .ref (a 1)) hx hb hta hown hK hP 0 rfl rfl dX3_bringLoads_4 ?_
      refine lv_iconst (v := 0) hx hb dX3_bringLoads_7 (by decide) ?_
      refine kiald (f := N 0) hx hb hK hP 1 rfl 0 rfl (by omega) (by omega) dX3_bringLoads_8 ?_
      refine kTop eT ?_
      refine lv_icmp_ge (tgt := 35) hx hb dX3_bringLoads_9 (by decide) (fun c1 => ?_) (fun c1 => ?_)
      · have c1n : (nT M) ≤ t := (nI_leI (a := nT M) (b := t) (by omega) (by omega)).mp c1
        exact kvret (N) hQ hx hb hr hlocks hP hS dX3_bringLoads_35 (by have ht2 : t = nT M := (by omega); subst ht2; exact hN.symm)
      · have c1n : ¬ (nT M) ≤ t := fun h => c1 ((nI_leI (a := nT M) (b := t) (by omega) (by omega)).mpr h)
        refine lv_aload_n hx hb dX3_bringLoads_12 rfl (lv_at hl 1 rfl) ?_
        refine kc_i (krV (As := []) (rest := []) (c_X3_nextField l D Y a N hIN) ⟨hx, hb, hml, hown, hta⟩ (cwX3_126 hta ⟨Nat.le_of_ble_eq_true rfl, Nat.le_of_ble_eq_true rfl⟩) kX0b (fun _ _ _ => trivial) hK hNs hP hD (kJ_all) (q0 := 0) rfl rfl rfl rfl hl.1 rfl (Nat.le_of_ble_eq_true rfl) dX3_bringLoads_13 ⟨Nat.le_of_ble_eq_true rfl, Nat.le_of_ble_eq_true rfl⟩) hP hD hS hA (kJ_all) (fun _ => rfl) (fun r2 u H locs hw hP hD hS => ?_)
        subst hw
        have hP : va_P D vwCl (wM Y a N) H := hP
        have hD : va_D A (wM Y a N) := hD
        rcases hc : cNextO N with _ | f
        · refine kTop (y := (-6)) rfl ?_
          refine lv_istore_n (lv' := [(2, .int (-6)), (1, .int (nI t)), (0, .ref (a 0))]) hx hb dX3_bringLoads_16 rfl hl (by decide) rfl (fun ls hl => ?_)
          refine lv_iload_n hx hb dX3_bringLoads_17 rfl (lv_at hl 0 rfl) ?_
          refine lv_bipush (v := (-6)) hx hb dX3_bringLoads_18 (by decide) ?_
          refine lv_icmp_ne (tgt := 24) hx hb dX3_bringLoads_20 (by decide) (fun h => absurd rfl h) (fun _ => ?_)
          exact kvret (N) hQ hx hb hr hlocks hP hS dX3_bringLoads_23 (by have e := cBringTo_stop (M := M) (t := t) (by rw [hN]; exact hc) (nT M - t); rw [show t + (nT M - t) = nT M by omega, hN] at e; exact e.symm)
        · refine kTop (y := nI f) rfl ?_
          have hfN : f < nF N := cNextO_lt hc
          have h30N := hIN.f30
          refine lv_istore_n (lv' := [(2, .int (nI f)), (1, .int (nI t)), (0, .ref (a 0))]) hx hb dX3_bringLoads_16 rfl hl (by decide) rfl (fun ls hl => ?_)
          refine lv_iload_n hx hb dX3_bringLoads_17 rfl (lv_at hl 0 rfl) ?_
          refine lv_bipush (v := (-6)) hx hb dX3_bringLoads_18 (by decide) ?_
          refine lv_icmp_ne (tgt := 24) hx hb dX3_bringLoads_20 (by decide) (fun _ => ?_) (fun h => absurd h (oI_ne (by omega)))
          refine lv_aload_n hx hb dX3_bringLoads_24 rfl (lv_at hl 2 rfl) ?_
          refine lv_iload_n hx hb dX3_bringLoads_25 rfl (lv_at hl 0 rfl) ?_
          refine kc_v (krV (As := [.int (nI f)]) (rest := []) (c_X3_bringLoad l D Y a N f hIN hfN) ⟨hx, hb, hml, hown, hta⟩ (cwX3_130 hta ⟨Nat.le_of_ble_eq_true rfl, Nat.le_of_ble_eq_true rfl⟩) kX0b (fun _ _ _ => trivial) hK hNs hP hD (kJ_all) (q0 := 0) rfl rfl rfl rfl hl.1 rfl (Nat.le_of_ble_eq_true rfl) dX3_bringLoads_26 ⟨Nat.le_of_ble_eq_true rfl, Nat.le_of_ble_eq_true rfl⟩) hP hD hS hA (kJ_all) (fun _ => rfl) (fun u H locs hw hP hD hS => ?_)
          subst hw
          have hP : va_P D vwCl (wM Y a (cBringLoad N f)) H := hP
          have hD : va_D A (wM Y a (cBringLoad N f)) := hD
          refine lv_iinc (v := nI (t + 1)) (lv' := [(1, .int (nI (t + 1))), (2, .int (nI f)), (0, .ref (a 0))]) hx hb dX3_bringLoads_29 hl (k := 1) rfl (nI_add t 1) (by decide) rfl (fun ls hl => ?_)
          refine lv_goto (tgt := 2) hx hb dX3_bringLoads_32 (by decide) ?_
          exact ih (t + 1) (cBringLoad N f) (by omega) (by show cBringStep (cBringTo M t) = _; rw [hN, cBringStep_s hc]) (by omega) _ _ hP hD hS ls (lv_sub hl [0, 2] rfl)
  exact loop2 ((nT M - 0) + 1) 0 M (Nat.lt_succ_self _) rfl (by omega) _ _ hP hD hS ls (lv_sub hl [0, 1] rfl)
set_option maxHeartbeats 4000000 in
set_option maxRecDepth 100000 in
theorem c_X5_isStopped (l : Launch) (D : va_G) (Y : Nat → ClassId) (a : Nat → Nat) (M : kN) (d : Int32) (hI : cI M) : kM l yX5_isStopped wX5_isStopped rX5_isStopped D Y (wM Y a M) [.ref (a 17), .int d] kX0 (kQi D (fun r (_ : Unit) => r = kb (cStopped M d = true)) (fun _ => wM Y a M)) := by
  refine kentry (cc := cX5_isStopped) (maxL := 3) (ret := (some .boolean)) (by decide +kernel) rfl (Nat.le_of_ble_eq_true rfl) ?_
  intro p e s m args below meth c A Q ls hQ hx hb hr hlocks hml hown hin hta hA hX hK hNs hP hD hS hl
  have hown : s.vm.findClass RX5 = some m.cls := hown
  have hl : lv_has ls 3 [(0, .ref (a 17)), (1, .int d)] := hl
  have h5 := hI.s5
  refine lv_iconst (v := 0) hx hb dX5_isStopped_0 (by decide) ?_
  refine lv_istore_n (lv' := [(2, .int 0), (0, .ref (a 17)), (1, .int d)]) hx hb dX5_isStopped_1 rfl hl (by decide) rfl (fun ls hl => ?_)
  have loop2 : ∀ (n : Nat) (k : Nat), nS M - k < n → cStopTo M d k = false → k ≤ nS M → ∀ (H : Heap) (locs : List Loc), va_P D vwCl (wM Y a M) H → va_D A (wM Y a M) → va_S A s.heap H locs → ∀ (ls : Array Slot), lv_has ls 3 [(2, .int (nI k)), (0, .ref (a 17)), (1, .int d)] → W p l e rX5_isStopped s m args below meth c H locs 0 0 Q (F0 m 2 ls []) := by
    intro n
    induction n with
    | zero => intro k hmu; exact absurd hmu (Nat.not_lt_zero _)
    | succ n ih =>
      intro k hmu ho hk H locs hP hD hS ls hl
      refine lv_iload_n hx hb dX5_isStopped_2 rfl (lv_at hl 0 rfl) ?_
      refine lv_aload_n hx hb dX5_isStopped_3 rfl (lv_at hl 1 rfl) ?_
      refine gfX5_18 (v := .int (M 19 5)) hx hb hta hown hK hP 17 rfl rfl dX5_isStopped_4 ?_
      refine kTop hI.s ?_
      refine lv_icmp_ge (tgt := 37) hx hb dX5_isStopped_7 (by decide) (fun c1 => ?_) (fun c1 => ?_)
      · have c1n : (nS M) ≤ k := (nI_leI (a := nS M) (b := k) (by omega) (by omega)).mp c1
        refine lv_iconst (v := 0) hx hb dX5_isStopped_37 (by decide) ?_
        exact kzret (()) hQ hx hb hr hlocks hP hS dX5_isStopped_38 (by first | exact Or.inl rfl | exact Or.inr rfl | exact kb_01 _) (by have hk2 : k = nS M := (by omega); subst hk2; refine (kb_f ?_).symm; unfold cStopped; rw [ho]; decide)
      · have c1n : ¬ (nS M) ≤ k := fun h => c1 ((nI_leI (a := nS M) (b := k) (by omega) (by omega)).mpr h)
        refine lv_iload_n hx hb dX5_isStopped_10 rfl (lv_at hl 2 rfl) ?_
        refine lv_aload_n hx hb dX5_isStopped_11 rfl (lv_at hl 1 rfl) ?_
        refine gfX5_9 (v := .ref (a 18)) hx hb hta hown hK hP 17 rfl rfl dX5_isStopped_12 ?_
        refine lv_iload_n hx hb dX5_isStopped_15 rfl (lv_at hl 0 rfl) ?_
        refine kiald (f := M 14) hx hb hK hP 18 rfl k rfl (by omega) (by omega) dX5_isStopped_16 ?_
        refine lv_aload_n hx hb dX5_isStopped_17 rfl (lv_at hl 1 rfl) ?_
        refine gfX5_15 (v := .ref (a 19)) hx hb hta hown hK hP 17 rfl rfl dX5_isStopped_18 ?_
        refine lv_iload_n hx hb dX5_isStopped_21 rfl (lv_at hl 0 rfl) ?_
        refine kiald (f := M 15) hx hb hK hP 19 rfl k rfl (by omega) (by omega) dX5_isStopped_22 ?_
        refine kc_i (krSN (As := [.int d, .int (M 14 k), .int (M 15 k)]) (rest := []) (c_X7_isWithin l D Y d (M 14 k) (M 15 k)) ⟨hx, hb, hml, hown, hta⟩ (cwX5_26 hta hNs ⟨Nat.le_of_ble_eq_true rfl, Nat.le_of_ble_eq_true rfl⟩) kX0b (fun _ _ _ => trivial) hK hNs hP hD (kJ_nil) rfl hl.1 rfl (Nat.le_of_ble_eq_true rfl) dX5_isStopped_23 ⟨Nat.le_of_ble_eq_true rfl, Nat.le_of_ble_eq_true rfl⟩) hP hD hS hA (kJ_nil) (fun _ => rfl) (fun r2 u H locs hw hP hD hS => ?_)
        subst hw
        have hP : va_P D vwCl (wM Y a M) H := hP
        have hD : va_D A (wM Y a M) := hD
        by_cases c3 : pIn d (M 14 k) (M 15 k)
        · refine kTop (kb_t c3) ?_
          refine lv_if_eq (tgt := 31) hx hb dX5_isStopped_26 (by decide) (fun h => False.elim (by revert h; decide)) (fun _ => ?_)
          refine lv_iconst (v := 1) hx hb dX5_isStopped_29 (by decide) ?_
          exact kzret (()) hQ hx hb hr hlocks hP hS dX5_isStopped_30 (by first | exact Or.inl rfl | exact Or.inr rfl | exact kb_01 _) (by refine (kb_t ?_).symm; have e : cStopTo M d (k + 1) = true := by { show (cStopTo M d k || decide (pIn d (M 14 k) (M 15 k))) = true; rw [decide_eq_true c3, Bool.or_true] }; have e2 := cStopTo_on e (nS M - (k + 1)); rw [show k + 1 + (nS M - (k + 1)) = nS M by omega] at e2; exact e2)
        · refine kTop (kb_f c3) ?_
          refine lv_if_eq (tgt := 31) hx hb dX5_isStopped_26 (by decide) (fun _ => ?_) (fun h => False.elim (by revert h; decide))
          refine lv_iinc (v := nI (k + 1)) (lv' := [(2, .int (nI (k + 1))), (0, .ref (a 17)), (1, .int d)]) hx hb dX5_isStopped_31 hl (k := 0) rfl (nI_add k 1) (by decide) rfl (fun ls hl => ?_)
          refine lv_goto (tgt := 2) hx hb dX5_isStopped_34 (by decide) ?_
          exact ih (k + 1) (by omega) (by show (cStopTo M d k || decide (pIn d (M 14 k) (M 15 k))) = false; rw [ho]; simp only [decide_eq_false c3]; rfl) (by omega) _ _ hP hD hS ls (lv_sub hl [0, 1, 2] rfl)
  exact loop2 ((nS M - 0) + 1) 0 (Nat.lt_succ_self _) rfl (by omega) _ _ hP hD hS ls (lv_sub hl [0, 1, 2] rfl)
set_option maxHeartbeats 4000000 in
set_option maxRecDepth 100000 in
theorem c_X3_crushPart (l : Launch) (D : va_G) (Y : Nat → ClassId) (a : Nat → Nat) (M : kN) (f : Nat) (t : Int32) (hf : f < 30) (hg : M 6 f = nI (gr M f) ∧ gr M f < 6) : kM l yX3_crushPart wX3_crushPart rX3_crushPart D Y (wM Y a M) [.ref (a 0), .int (nI f), .int t] kX0 (kQv D (fun u => u = cCrushPart M f t) (fun u => wM Y a u)) := by
  refine kentry (cc := cX3_crushPart) (maxL := 5) (ret := none) (by decide +kernel) rfl (Nat.le_of_ble_eq_true rfl) ?_
  intro p e s m args below meth c A Q ls hQ hx hb hr hlocks hml hown hin hta hA hX hK hNs hP hD hS hl
  have hown : s.vm.findClass RX3 = some m.cls := hown
  have hl : lv_has ls 5 [(0, .ref (a 0)), (1, .int (nI f)), (2, .int t)] := hl
  refine lv_aload_n hx hb dX3_crushPart_0 rfl (lv_at hl 0 rfl) ?_
  refine gfX3_25 (v := .ref (a 8)) hx hb hta hown hK hP 0 rfl rfl dX3_crushPart_1 ?_
  refine gfX3_119 (v := .ref (a 9)) hx hb hta hown hK hP 8 rfl rfl dX3_crushPart_4 ?_
  refine lv_iload_n hx hb dX3_crushPart_7 rfl (lv_at hl 1 rfl) ?_
  refine kiald (f := M 6) hx hb hK hP 9 rfl f rfl (by omega) (by omega) dX3_crushPart_8 ?_
  refine kTop hg.1 ?_
  refine lv_istore_n (lv' := [(3, .int (nI (gr M f))), (0, .ref (a 0)), (1, .int (nI f)), (2, .int t)]) hx hb dX3_crushPart_9 rfl hl (by decide) rfl (fun ls hl => ?_)
  refine lv_aload_n hx hb dX3_crushPart_10 rfl (lv_at hl 1 rfl) ?_
  refine gfX3_25 (v := .ref (a 8)) hx hb hta hown hK hP 0 rfl rfl dX3_crushPart_11 ?_
  refine lv_iload_n hx hb dX3_crushPart_14 rfl (lv_at hl 2 rfl) ?_
  refine lv_aload_n hx hb dX3_crushPart_15 rfl (lv_at hl 1 rfl) ?_
  refine gfX3_60 (v := .int (M 19 0)) hx hb hta hown hK hP 0 rfl rfl dX3_crushPart_16 ?_
  refine lv_aload_n hx hb dX3_crushPart_19 rfl (lv_at hl 1 rfl) ?_
  refine gfX3_9 (v := .ref (a 1)) hx hb hta hown hK hP 0 rfl rfl dX3_crushPart_20 ?_
  refine lv_iconst (v := 4) hx hb dX3_crushPart_23 (by decide) ?_
  refine kiald (f := M 0) hx hb hK hP 1 rfl 4 rfl (by omega) (by omega) dX3_crushPart_24 ?_
  refine kc_i (krV (As := [.int (nI f), .int (M 19 0), .int (M 0 4)]) (rest := []) (c_X0_purityOn l D Y a M f (M 19 0) (M 0 4) (hf)) ⟨hx, hb, hml, hown, hta⟩ (cwX3_187 hta ⟨Nat.le_of_ble_eq_true rfl, Nat.le_of_ble_eq_true rfl⟩) kX0b (fun _ _ _ => trivial) hK hNs hP hD (kJ_all) (q0 := 8) rfl rfl rfl rfl hl.1 rfl (Nat.le_of_ble_eq_true rfl) dX3_crushPart_25 ⟨Nat.le_of_ble_eq_true rfl, Nat.le_of_ble_eq_true rfl⟩) hP hD hS hA (kJ_all) (fun _ => rfl) (fun r1 u H locs hw hP hD hS => ?_)
  subst hw
  have hP : va_P D vwCl (wM Y a M) H := hP
  have hD : va_D A (wM Y a M) := hD
  refine lv_istore (lv' := [(4, .int (sPur (M 9 f) (M 8 f) (M 19 0) (M 0 4))), (3, .int (nI (gr M f))), (0, .ref (a 0)), (1, .int (nI f)), (2, .int t)]) hx hb dX3_crushPart_28 hl (by decide) rfl (fun ls hl => ?_)
  refine lv_aload_n hx hb dX3_crushPart_30 rfl (lv_at hl 2 rfl) ?_
  refine lv_dup hx hb dX3_crushPart_31 rfl ?_
  refine gfX3_64 (v := .int (M 19 1)) hx hb hta hown hK hP 0 rfl rfl dX3_crushPart_32 ?_
  refine lv_iload_n hx hb dX3_crushPart_35 rfl (lv_at hl 4 rfl) ?_
  refine lv_iload hx hb dX3_crushPart_36 (lv_at hl 0 rfl) ?_
  refine lv_imul hx hb dX3_crushPart_38 ?_
  refine lv_bipush (v := 100) hx hb dX3_crushPart_39 (by decide) ?_
  refine lv_idiv hx hb dX3_crushPart_41 (by decide) ?_
  refine lv_iadd hx hb dX3_crushPart_42 ?_
  refine pfX3_64 (ws1 := wM Y a (sM M 19 1 ((M 19 1) + ((t * (sPur (M 9 f) (M 8 f) (M 19 0) (M 0 4))) / 100)))) hx hb hta hown hK hP hD hS 0 rfl (Nat.le_of_ble_eq_true rfl) rfl dX3_crushPart_43 (fun H locs hP hD hS => ?_)
  refine lv_aload_n hx hb dX3_crushPart_46 rfl (lv_at hl 2 rfl) ?_
  refine gfX3_18 (v := .ref (a 2)) hx hb hta hown hK hP 0 rfl rfl dX3_crushPart_47 ?_
  refine gfX3_191 (v := .ref (a 7)) hx hb hta hown hK hP 2 rfl rfl dX3_crushPart_50 ?_
  refine lv_iload_n hx hb dX3_crushPart_53 rfl (lv_at hl 1 rfl) ?_
  refine lv_dup2_11 hx hb dX3_crushPart_54 rfl rfl ?_
  refine kiald (f := M 5) hx hb hK hP 7 rfl (gr M f) rfl (hg.2) (by omega) dX3_crushPart_55 ?_
  refine lv_iload_n hx hb dX3_crushPart_56 rfl (lv_at hl 4 rfl) ?_
  refine lv_iload hx hb dX3_crushPart_57 (lv_at hl 0 rfl) ?_
  refine lv_imul hx hb dX3_crushPart_59 ?_
  refine lv_aload_n hx hb dX3_crushPart_60 rfl (lv_at hl 2 rfl) ?_
  refine gfX3_9 (v := .ref (a 1)) hx hb hta hown hK hP 0 rfl rfl dX3_crushPart_61 ?_
  refine lv_bipush (v := 6) hx hb dX3_crushPart_64 (by decide) ?_
  refine kiald (f := M 0) hx hb hK hP 1 rfl 6 rfl (by omega) (by omega) dX3_crushPart_66 ?_
  refine lv_imul hx hb dX3_crushPart_67 ?_
  refine lv_bipush (v := 100) hx hb dX3_crushPart_68 (by decide) ?_
  refine lv_idiv hx hb dX3_crushPart_70 (by decide) ?_
  refine lv_iadd hx hb dX3_crushPart_71 ?_
  refine kiast (f := M 5) hx hb hK hP hD hS 7 rfl (gr M f) rfl (hg.2) (by omega) dX3_crushPart_72 (wM Y a (sM (sM M 19 1 ((M 19 1) + ((t * (sPur (M 9 f) (M 8 f) (M 19 0) (M 0 4))) / 100))) 5 (gr M f) ((M 5 (gr M f)) + (((t * (sPur (M 9 f) (M 8 f) (M 19 0) (M 0 4))) * (M 0 6)) / 100)))) rfl (fun H locs hP hD hS => ?_)
  refine lv_aload_n hx hb dX3_crushPart_73 rfl (lv_at hl 2 rfl) ?_
  refine gfX3_18 (v := .ref (a 2)) hx hb hta hown hK hP 0 rfl rfl dX3_crushPart_74 ?_
  refine gfX3_194 (v := .ref (a 5)) hx hb hta hown hK hP 2 rfl rfl dX3_crushPart_77 ?_
  refine lv_iload_n hx hb dX3_crushPart_80 rfl (lv_at hl 1 rfl) ?_
  refine lv_dup2_11 hx hb dX3_crushPart_81 rfl rfl ?_
  refine kiald (f := M 3) hx hb hK hP 5 rfl (gr M f) rfl (hg.2) (by omega) dX3_crushPart_82 ?_
  refine lv_iload_n hx hb dX3_crushPart_83 rfl (lv_at hl 4 rfl) ?_
  refine lv_iadd hx hb dX3_crushPart_84 ?_
  refine kiast (f := M 3) hx hb hK hP hD hS 5 rfl (gr M f) rfl (hg.2) (by omega) dX3_crushPart_85 (wM Y a (sM (sM (sM M 19 1 ((M 19 1) + ((t * (sPur (M 9 f) (M 8 f) (M 19 0) (M 0 4))) / 100))) 5 (gr M f) ((M 5 (gr M f)) + (((t * (sPur (M 9 f) (M 8 f) (M 19 0) (M 0 4))) * (M 0 6)) / 100))) 3 (gr M f) ((M 3 (gr M f)) + t))) rfl (fun H locs hP hD hS => ?_)
  refine lv_aload_n hx hb dX3_crushPart_86 rfl (lv_at hl 2 rfl) ?_
  refine gfX3_25 (v := .ref (a 8)) hx hb hta hown hK hP 0 rfl rfl dX3_crushPart_87 ?_
  refine gfX3_165 (v := .ref (a 14)) hx hb hta hown hK hP 8 rfl rfl dX3_crushPart_90 ?_
  refine lv_iload_n hx hb dX3_crushPart_93 rfl (lv_at hl 3 rfl) ?_
  refine lv_dup2_11 hx hb dX3_crushPart_94 rfl rfl ?_
  refine kiald (f := M 11) hx hb hK hP 14 rfl f rfl (by omega) (by omega) dX3_crushPart_95 ?_
  refine lv_iload_n hx hb dX3_crushPart_96 rfl (lv_at hl 4 rfl) ?_
  refine lv_isub hx hb dX3_crushPart_97 ?_
  refine kiast (f := M 11) hx hb hK hP hD hS 14 rfl f rfl (by omega) (by omega) dX3_crushPart_98 (wM Y a (sM (sM (sM (sM M 19 1 ((M 19 1) + ((t * (sPur (M 9 f) (M 8 f) (M 19 0) (M 0 4))) / 100))) 5 (gr M f) ((M 5 (gr M f)) + (((t * (sPur (M 9 f) (M 8 f) (M 19 0) (M 0 4))) * (M 0 6)) / 100))) 3 (gr M f) ((M 3 (gr M f)) + t)) 11 f ((M 11 f) - t))) rfl (fun H locs hP hD hS => ?_)
  refine lv_aload_n hx hb dX3_crushPart_99 rfl (lv_at hl 2 rfl) ?_
  refine gfX3_25 (v := .ref (a 8)) hx hb hta hown hK hP 0 rfl rfl dX3_crushPart_100 ?_
  refine gfX3_197 (v := .ref (a 15)) hx hb hta hown hK hP 8 rfl rfl dX3_crushPart_103 ?_
  refine lv_iload_n hx hb dX3_crushPart_106 rfl (lv_at hl 3 rfl) ?_
  refine lv_dup2_11 hx hb dX3_crushPart_107 rfl rfl ?_
  refine kiald (f := M 12) hx hb hK hP 15 rfl f rfl (by omega) (by omega) dX3_crushPart_108 ?_
  refine lv_iload_n hx hb dX3_crushPart_109 rfl (lv_at hl 4 rfl) ?_
  refine lv_iadd hx hb dX3_crushPart_110 ?_
  refine kiast (f := M 12) hx hb hK hP hD hS 15 rfl f rfl (by omega) (by omega) dX3_crushPart_111 (wM Y a (sM (sM (sM (sM (sM M 19 1 ((M 19 1) + ((t * (sPur (M 9 f) (M 8 f) (M 19 0) (M 0 4))) / 100))) 5 (gr M f) ((M 5 (gr M f)) + (((t * (sPur (M 9 f) (M 8 f) (M 19 0) (M 0 4))) * (M 0 6)) / 100))) 3 (gr M f) ((M 3 (gr M f)) + t)) 11 f ((M 11 f) - t)) 12 f ((M 12 f) + t))) rfl (fun H locs hP hD hS => ?_)
  exact kvret (sM (sM (sM (sM (sM M 19 1 ((M 19 1) + ((t * (sPur (M 9 f) (M 8 f) (M 19 0) (M 0 4))) / 100))) 5 (gr M f) ((M 5 (gr M f)) + (((t * (sPur (M 9 f) (M 8 f) (M 19 0) (M 0 4))) * (M 0 6)) / 100))) 3 (gr M f) ((M 3 (gr M f)) + t)) 11 f ((M 11 f) - t)) 12 f ((M 12 f) + t)) hQ hx hb hr hlocks hP hS dX3_crushPart_112 rfl
end
section
set_option maxHeartbeats 4000000 in
set_option maxRecDepth 100000 in
theorem c_X3_crush (l : Launch) (D : va_G) (Y : Nat → ClassId) (a : Nat → Nat) (M : kN) (hI : cI M) : kM l yX3_crush wX3_crush rX3_crush D Y (wM Y a M) [.ref (a 0)] kX0 (kQv D (fun u => u = cCrush M) (fun u => wM Y a u)) := by
  refine kentry (cc := cX3_crush) (maxL := 5) (ret := none) (by decide +kernel) rfl (Nat.le_of_ble_eq_true rfl) ?_
  intro p e s m args below meth c A Q ls hQ hx hb hr hlocks hml hown hin hta hA hX hK hNs hP hD hS hl
  have hown : s.vm.findClass RX3 = some m.cls := hown
  have hl : lv_has ls 5 [(0, .ref (a 0))] := hl
  have h400 := hI.y400
  refine lv_aload_n hx hb dX3_crush_0 rfl (lv_at hl 0 rfl) ?_
  refine gfX3_9 (v := .ref (a 1)) hx hb hta hown hK hP 0 rfl rfl dX3_crush_1 ?_
  refine lv_iconst (v := 2) hx hb dX3_crush_4 (by decide) ?_
  refine kiald (f := M 0) hx hb hK hP 1 rfl 2 rfl (by omega) (by omega) dX3_crush_5 ?_
  refine lv_istore_n (lv' := [(1, .int (M 0 2)), (0, .ref (a 0))]) hx hb dX3_crush_6 rfl hl (by decide) rfl (fun ls hl => ?_)
  refine lv_iconst (v := 0) hx hb dX3_crush_7 (by decide) ?_
  refine lv_istore_n (lv' := [(2, .int 0), (1, .int (M 0 2)), (0, .ref (a 0))]) hx hb dX3_crush_8 rfl hl (by decide) rfl (fun ls hl => ?_)
  refine lv_iconst (v := 0) hx hb dX3_crush_9 (by decide) ?_
  refine lv_istore_n (lv' := [(3, .int 0), (2, .int 0), (1, .int (M 0 2)), (0, .ref (a 0))]) hx hb dX3_crush_10 rfl hl (by decide) rfl (fun ls hl => ?_)
  have loop11 : ∀ (n : Nat) (k : Nat) (N : kN) (rest : Int32) (em : Nat), nY M - k < n → cCrushTo M k = (N, rest, em) → k ≤ nY M → ∀ (H : Heap) (locs : List Loc), va_P D vwCl (wM Y a N) H → va_D A (wM Y a N) → va_S A s.heap H locs → ∀ (ls : Array Slot), lv_has ls 5 [(3, .int (nI k)), (2, .int (nI em)), (1, .int rest), (0, .ref (a 0))] → W p l e rX3_crush s m args below meth c H locs 0 0 Q (F0 m 11 ls []) := by
    intro n
    induction n with
    | zero => intro k N rest em hmu; exact absurd hmu (Nat.not_lt_zero _)
    | succ n ih =>
      intro k N rest em hmu hX hk H locs hP hD hS ls hl
      obtain ⟨hIN, eF, eY, hem⟩ : cI N ∧ nF N = nF M ∧ nY N = nY M ∧ em ≤ k := by have h := cCrushTo_I hI k; rw [hX] at h; exact h
      have e6 : N 19 6 = nI (nY M) := by rw [hIN.y, eY]
      have h30N := hIN.f30
      refine lv_iload_n hx hb dX3_crush_11 rfl (lv_at hl 0 rfl) ?_
      refine lv_aload_n hx hb dX3_crush_12 rfl (lv_at hl 3 rfl) ?_
      refine gfX3_39 (v := .ref (a 20)) hx hb hta hown hK hP 0 rfl rfl dX3_crush_13 ?_
      refine gfX3_148 (v := .int (N 19 6)) hx hb hta hown hK hP 20 rfl rfl dX3_crush_16 ?_
      refine kTop e6 ?_
      refine lv_icmp_ge (tgt := 83) hx hb dX3_crush_19 (by decide) (fun c1 => ?_) (fun c1 => ?_)
      · have c1n : (nY M) ≤ k := (nI_leI (a := nY M) (b := k) (by omega) (by omega)).mp c1
        refine lv_aload_n hx hb dX3_crush_83 rfl (lv_at hl 3 rfl) ?_
        refine gfX3_39 (v := .ref (a 20)) hx hb hta hown hK hP 0 rfl rfl dX3_crush_84 ?_
        refine lv_iload_n hx hb dX3_crush_87 rfl (lv_at hl 1 rfl) ?_
        refine kc_v (krV (As := [.int (nI em)]) (rest := []) (c_X6_dropFirst l D Y a N em hIN (by omega)) ⟨hx, hb, hml, hown, hta⟩ (cwX3_184 hta ⟨Nat.le_of_ble_eq_true rfl, Nat.le_of_ble_eq_true rfl⟩) kX0b (fun _ _ _ => trivial) hK hNs hP hD (kJ_all) (q0 := 20) rfl rfl rfl rfl hl.1 rfl (Nat.le_of_ble_eq_true rfl) dX3_crush_88 ⟨Nat.le_of_ble_eq_true rfl, Nat.le_of_ble_eq_true rfl⟩) hP hD hS hA (kJ_all) (fun _ => rfl) (fun u H locs hw hP hD hS => ?_)
        subst hw
        have hP : va_P D vwCl (wM Y a (cDrop N em)) H := hP
        have hD : va_D A (wM Y a (cDrop N em)) := hD
        exact kvret (cDrop N em) hQ hx hb hr hlocks hP hS dX3_crush_91 (by have e : cCrushTo M (nY M) = (N, rest, em) := by { have hk2 : k = nY M := (by omega); subst hk2; exact hX }; unfold cCrush; rw [e])
      · have c1n : ¬ (nY M) ≤ k := fun h => c1 ((nI_leI (a := nY M) (b := k) (by omega) (by omega)).mpr h)
        have hfi := hIN.fk (k := k) (by omega)
        refine lv_iload_n hx hb dX3_crush_22 rfl (lv_at hl 2 rfl) ?_
        refine lv_if_le (tgt := 83) hx hb dX3_crush_23 (by decide) (fun c3 => ?_) (fun c3 => ?_)
        · refine lv_aload_n hx hb dX3_crush_83 rfl (lv_at hl 3 rfl) ?_
          refine gfX3_39 (v := .ref (a 20)) hx hb hta hown hK hP 0 rfl rfl dX3_crush_84 ?_
          refine lv_iload_n hx hb dX3_crush_87 rfl (lv_at hl 1 rfl) ?_
          refine kc_v (krV (As := [.int (nI em)]) (rest := []) (c_X6_dropFirst l D Y a N em hIN (by omega)) ⟨hx, hb, hml, hown, hta⟩ (cwX3_184 hta ⟨Nat.le_of_ble_eq_true rfl, Nat.le_of_ble_eq_true rfl⟩) kX0b (fun _ _ _ => trivial) hK hNs hP hD (kJ_all) (q0 := 20) rfl rfl rfl rfl hl.1 rfl (Nat.le_of_ble_eq_true rfl) dX3_crush_88 ⟨Nat.le_of_ble_eq_true rfl, Nat.le_of_ble_eq_true rfl⟩) hP hD hS hA (kJ_all) (fun _ => rfl) (fun u H locs hw hP hD hS => ?_)
          subst hw
          have hP : va_P D vwCl (wM Y a (cDrop N em)) H := hP
          have hD : va_D A (wM Y a (cDrop N em)) := hD
          exact kvret (cDrop N em) hQ hx hb hr hlocks hP hS dX3_crush_91 (by have e : cCrushTo M (nY M) = (N, rest, em) := by { have e2 := cCrushTo_stop (M := M) (k := k) (by rw [hX]; exact c3) (nY M - k); rw [show k + (nY M - k) = nY M by omega] at e2; exact e2.trans hX }; unfold cCrush; rw [e])
        · refine lv_iload_n hx hb dX3_crush_26 rfl (lv_at hl 2 rfl) ?_
          refine lv_aload_n hx hb dX3_crush_27 rfl (lv_at hl 3 rfl) ?_
          refine gfX3_39 (v := .ref (a 20)) hx hb hta hown hK hP 0 rfl rfl dX3_crush_28 ?_
          refine gfX3_171 (v := .ref (a 22)) hx hb hta hown hK hP 20 rfl rfl dX3_crush_31 ?_
          refine lv_iload_n hx hb dX3_crush_34 rfl (lv_at hl 0 rfl) ?_
          refine kiald (f := N 17) hx hb hK hP 22 rfl k rfl (by omega) (by omega) dX3_crush_35 ?_
          refine va_mmin hx hb (by rw [hml]; exact hl.1.symm) hown (hta _ al_350) (hta _ al_132) (hta _ al_133) (hta _ al_134) (Nat.le_of_ble_eq_true rfl) (Nat.le_of_ble_eq_true rfl) (Nat.le_of_ble_eq_true rfl) (Nat.le_of_ble_eq_true rfl) dX3_crush_36 ?_
          refine kTop (y := kmin rest (N 17 k)) rfl ?_
          refine lv_istore (lv' := [(4, .int (kmin rest (N 17 k))), (3, .int (nI k)), (2, .int (nI em)), (1, .int rest), (0, .ref (a 0))]) hx hb dX3_crush_39 hl (by decide) rfl (fun ls hl => ?_)
          refine lv_aload_n hx hb dX3_crush_41 rfl (lv_at hl 4 rfl) ?_
          refine lv_aload_n hx hb dX3_crush_42 rfl (lv_at hl 4 rfl) ?_
          refine gfX3_39 (v := .ref (a 20)) hx hb hta hown hK hP 0 rfl rfl dX3_crush_43 ?_
          refine gfX3_174 (v := .ref (a 21)) hx hb hta hown hK hP 20 rfl rfl dX3_crush_46 ?_
          refine lv_iload_n hx hb dX3_crush_49 rfl (lv_at hl 1 rfl) ?_
          refine kiald (f := N 16) hx hb hK hP 21 rfl k rfl (by omega) (by omega) dX3_crush_50 ?_
          refine kTop hfi.1 ?_
          refine lv_iload hx hb dX3_crush_51 (lv_at hl 0 rfl) ?_
          refine kc_v (krV (As := [.int (nI (fi N k)), .int (kmin rest (N 17 k))]) (rest := []) (c_X3_crushPart l D Y a N (fi N k) (kmin rest (N 17 k)) (by have := hfi.2; omega) (hIN.g hfi.2)) ⟨hx, hb, hml, hown, hta⟩ (cwX3_177 hta ⟨Nat.le_of_ble_eq_true rfl, Nat.le_of_ble_eq_true rfl⟩) kX0b (fun _ _ _ => trivial) hK hNs hP hD (kJ_all) (q0 := 0) rfl rfl rfl rfl hl.1 rfl (Nat.le_of_ble_eq_true rfl) dX3_crush_53 ⟨Nat.le_of_ble_eq_true rfl, Nat.le_of_ble_eq_true rfl⟩) hP hD hS hA (kJ_all) (fun _ => rfl) (fun u H locs hw hP hD hS => ?_)
          subst hw
          have hP : va_P D vwCl (wM Y a (cCrushPart N (fi N k) (kmin rest (N 17 k)))) H := hP
          have hD : va_D A (wM Y a (cCrushPart N (fi N k) (kmin rest (N 17 k)))) := hD
          refine lv_iload_n hx hb dX3_crush_56 rfl (lv_at hl 3 rfl) ?_
          refine lv_iload hx hb dX3_crush_57 (lv_at hl 0 rfl) ?_
          refine lv_isub hx hb dX3_crush_59 ?_
          refine lv_istore_n (lv' := [(1, .int (rest - (kmin rest (N 17 k)))), (4, .int (kmin rest (N 17 k))), (3, .int (nI k)), (2, .int (nI em)), (0, .ref (a 0))]) hx hb dX3_crush_60 rfl hl (by decide) rfl (fun ls hl => ?_)
          refine lv_aload_n hx hb dX3_crush_61 rfl (lv_at hl 4 rfl) ?_
          refine gfX3_39 (v := .ref (a 20)) hx hb hta hown hK hP 0 rfl rfl dX3_crush_62 ?_
          refine lv_iload_n hx hb dX3_crush_65 rfl (lv_at hl 2 rfl) ?_
          refine lv_iload hx hb dX3_crush_66 (lv_at hl 1 rfl) ?_
          refine kc_i (krV (As := [.int (nI k), .int (kmin rest (N 17 k))]) (rest := []) (c_X6_takeFrom l D Y a (cCrushPart N (fi N k) (kmin rest (N 17 k))) k (kmin rest (N 17 k)) (cCrushPart_I hIN _ _) (by show k < nY N; omega)) ⟨hx, hb, hml, hown, hta⟩ (cwX3_181 hta ⟨Nat.le_of_ble_eq_true rfl, Nat.le_of_ble_eq_true rfl⟩) kX0b (fun _ _ _ => trivial) hK hNs hP hD (kJ_all) (q0 := 20) rfl rfl rfl rfl hl.1 rfl (Nat.le_of_ble_eq_true rfl) dX3_crush_68 ⟨Nat.le_of_ble_eq_true rfl, Nat.le_of_ble_eq_true rfl⟩) hP hD hS hA (kJ_all) (fun _ => rfl) (fun r6 u H locs hw hP hD hS => ?_)
          obtain ⟨rfl, rfl⟩ := hw
          have hP : va_P D vwCl (wM Y a (cTake (cCrushPart N (fi N k) (kmin rest (N 17 k))) k (kmin rest (N 17 k)))) H := hP
          have hD : va_D A (wM Y a (cTake (cCrushPart N (fi N k) (kmin rest (N 17 k))) k (kmin rest (N 17 k)))) := hD
          refine lv_if_ne (tgt := 77) hx hb dX3_crush_71 (by decide) (fun c7 => ?_) (fun c7 => ?_)
          · refine lv_iinc (v := nI (k + 1)) (lv' := [(3, .int (nI (k + 1))), (1, .int (rest - (kmin rest (N 17 k)))), (4, .int (kmin rest (N 17 k))), (2, .int (nI em)), (0, .ref (a 0))]) hx hb dX3_crush_77 hl (k := 2) rfl (nI_add k 1) (by decide) rfl (fun ls hl => ?_)
            refine lv_goto (tgt := 11) hx hb dX3_crush_80 (by decide) ?_
            exact ih (k + 1) (cTake (cCrushPart N (fi N k) (kmin rest (N 17 k))) k (kmin rest (N 17 k))) (rest - (kmin rest (N 17 k))) em (by omega) (by show (if (cCrushTo M k).2.1 ≤ 0 then cCrushTo M k else _) = _; rw [hX, if_neg c3]; dsimp only; have q3 : ¬ N 17 k - kmin rest (N 17 k) = 0 := c7; rw [if_neg q3]) (by omega) _ _ hP hD hS ls (lv_sub hl [0, 3, 1, 4] rfl)
          · refine lv_iinc (v := nI (em + 1)) (lv' := [(2, .int (nI (em + 1))), (1, .int (rest - (kmin rest (N 17 k)))), (4, .int (kmin rest (N 17 k))), (3, .int (nI k)), (0, .ref (a 0))]) hx hb dX3_crush_74 hl (k := 3) rfl (nI_add em 1) (by decide) rfl (fun ls hl => ?_)
            refine lv_iinc (v := nI (k + 1)) (lv' := [(3, .int (nI (k + 1))), (2, .int (nI (em + 1))), (1, .int (rest - (kmin rest (N 17 k)))), (4, .int (kmin rest (N 17 k))), (0, .ref (a 0))]) hx hb dX3_crush_77 hl (k := 3) rfl (nI_add k 1) (by decide) rfl (fun ls hl => ?_)
            refine lv_goto (tgt := 11) hx hb dX3_crush_80 (by decide) ?_
            exact ih (k + 1) (cTake (cCrushPart N (fi N k) (kmin rest (N 17 k))) k (kmin rest (N 17 k))) (rest - (kmin rest (N 17 k))) (em + 1) (by omega) (by show (if (cCrushTo M k).2.1 ≤ 0 then cCrushTo M k else _) = _; rw [hX, if_neg c3]; dsimp only; have q3 :  N 17 k - kmin rest (N 17 k) = 0 := c7; rw [if_pos q3]) (by omega) _ _ hP hD hS ls (lv_sub hl [0, 1, 2, 4] rfl)
  exact loop11 ((nY M - 0) + 1) 0 M (M 0 2) 0 (Nat.lt_succ_self _) rfl (by omega) _ _ hP hD hS ls (lv_sub hl [0, 1, 2, 3] rfl)
set_option maxHeartbeats 4000000 in
set_option maxRecDepth 100000 in
theorem c_X3_passDay (l : Launch) (D : va_G) (Y : Nat → ClassId) (a : Nat → Nat) (M : kN) (P : Prop) [Decidable P] (hI : cI M) : kM l yX3_passDay wX3_passDay rX3_passDay D Y (wM Y a M) [.ref (a 0), .int (kb P)] kX0 (kQv D (fun u => u = cDay M P) (fun u => wM Y a u)) := by
  refine kentry (cc := cX3_passDay) (maxL := 2) (ret := none) (by decide +kernel) rfl (Nat.le_of_ble_eq_true rfl) ?_
  intro p e s m args below meth c A Q ls hQ hx hb hr hlocks hml hown hin hta hA hX hK hNs hP hD hS hl
  have hown : s.vm.findClass RX3 = some m.cls := hown
  have hl : lv_has ls 2 [(0, .ref (a 0)), (1, .int (kb P))] := hl
  refine lv_aload_n hx hb dX3_passDay_0 rfl (lv_at hl 0 rfl) ?_
  refine kc_v (krV (As := []) (rest := []) (c_X3_loseOldCane l D Y a M hI) ⟨hx, hb, hml, hown, hta⟩ (cwX3_98 hta ⟨Nat.le_of_ble_eq_true rfl, Nat.le_of_ble_eq_true rfl⟩) kX0b (fun _ _ _ => trivial) hK hNs hP hD (kJ_all) (q0 := 0) rfl rfl rfl rfl hl.1 rfl (Nat.le_of_ble_eq_true rfl) dX3_passDay_1 ⟨Nat.le_of_ble_eq_true rfl, Nat.le_of_ble_eq_true rfl⟩) hP hD hS hA (kJ_all) (fun _ => rfl) (fun N1 H locs hw hP hD hS => ?_)
  have hN1 := hw
  have hP : va_P D vwCl (wM Y a N1) H := hP
  have hD : va_D A (wM Y a N1) := hD
  refine lv_aload_n hx hb dX3_passDay_4 rfl (lv_at hl 0 rfl) ?_
  refine kc_v (krV (As := []) (rest := []) (c_X3_bringLoads l D Y a N1 (hN1 ▸ cLose_I hI)) ⟨hx, hb, hml, hown, hta⟩ (cwX3_101 hta ⟨Nat.le_of_ble_eq_true rfl, Nat.le_of_ble_eq_true rfl⟩) kX0b (fun _ _ _ => trivial) hK hNs hP hD (kJ_all) (q0 := 0) rfl rfl rfl rfl hl.1 rfl (Nat.le_of_ble_eq_true rfl) dX3_passDay_5 ⟨Nat.le_of_ble_eq_true rfl, Nat.le_of_ble_eq_true rfl⟩) hP hD hS hA (kJ_all) (fun _ => rfl) (fun N2 H locs hw hP hD hS => ?_)
  have hN2 := hw
  have hP : va_P D vwCl (wM Y a N2) H := hP
  have hD : va_D A (wM Y a N2) := hD
  refine lv_iload_n hx hb dX3_passDay_8 rfl (lv_at hl 1 rfl) ?_
  by_cases c3 : P
  · refine kTop (kb_t c3) ?_
    refine lv_if_ne (tgt := 26) hx hb dX3_passDay_9 (by decide) (fun _ => ?_) (fun h => False.elim (by revert h; decide))
    refine lv_aload_n hx hb dX3_passDay_26 rfl (lv_at hl 0 rfl) ?_
    refine lv_dup hx hb dX3_passDay_27 rfl ?_
    refine gfX3_70 (v := .int (N2 19 3)) hx hb hta hown hK hP 0 rfl rfl dX3_passDay_28 ?_
    refine lv_iconst (v := 1) hx hb dX3_passDay_31 (by decide) ?_
    refine lv_iadd hx hb dX3_passDay_32 ?_
    refine pfX3_70 (ws1 := wM Y a (sM N2 19 3 ((N2 19 3) + 1))) hx hb hta hown hK hP hD hS 0 rfl (Nat.le_of_ble_eq_true rfl) rfl dX3_passDay_33 (fun H locs hP hD hS => ?_)
    refine lv_goto (tgt := 43) hx hb dX3_passDay_36 (by decide) ?_
    refine lv_aload_n hx hb dX3_passDay_43 rfl (lv_at hl 0 rfl) ?_
    refine lv_dup hx hb dX3_passDay_44 rfl ?_
    refine gfX3_60 (v := .int (N2 19 0)) hx hb hta hown hK hP 0 rfl rfl dX3_passDay_45 ?_
    refine lv_iconst (v := 1) hx hb dX3_passDay_48 (by decide) ?_
    refine lv_iadd hx hb dX3_passDay_49 ?_
    refine pfX3_60 (ws1 := wM Y a (sM (sM N2 19 3 ((N2 19 3) + 1)) 19 0 ((N2 19 0) + 1))) hx hb hta hown hK hP hD hS 0 rfl (Nat.le_of_ble_eq_true rfl) rfl dX3_passDay_50 (fun H locs hP hD hS => ?_)
    exact kvret (sM (sM N2 19 3 ((N2 19 3) + 1)) 19 0 ((N2 19 0) + 1)) hQ hx hb hr hlocks hP hS dX3_passDay_53 (by subst hN1; subst hN2; unfold cDay cRest; rw [if_pos (Or.inl c3)] <;> rfl)
  · refine kTop (kb_f c3) ?_
    refine lv_if_ne (tgt := 26) hx hb dX3_passDay_9 (by decide) (fun h => False.elim (by revert h; decide)) (fun _ => ?_)
    refine lv_aload_n hx hb dX3_passDay_12 rfl (lv_at hl 0 rfl) ?_
    refine gfX3_32 (v := .ref (a 17)) hx hb hta hown hK hP 0 rfl rfl dX3_passDay_13 ?_
    refine lv_aload_n hx hb dX3_passDay_16 rfl (lv_at hl 0 rfl) ?_
    refine gfX3_60 (v := .int (N2 19 0)) hx hb hta hown hK hP 0 rfl rfl dX3_passDay_17 ?_
    refine kc_i (krV (As := [.int (N2 19 0)]) (rest := []) (c_X5_isStopped l D Y a N2 (N2 19 0) (hN2 ▸ cBring_I (hN1 ▸ cLose_I hI))) ⟨hx, hb, hml, hown, hta⟩ (cwX3_104 hta ⟨Nat.le_of_ble_eq_true rfl, Nat.le_of_ble_eq_true rfl⟩) kX0b (fun _ _ _ => trivial) hK hNs hP hD (kJ_all) (q0 := 17) rfl rfl rfl rfl hl.1 rfl (Nat.le_of_ble_eq_true rfl) dX3_passDay_20 ⟨Nat.le_of_ble_eq_true rfl, Nat.le_of_ble_eq_true rfl⟩) hP hD hS hA (kJ_all) (fun _ => rfl) (fun r4 u H locs hw hP hD hS => ?_)
    subst hw
    have hP : va_P D vwCl (wM Y a N2) H := hP
    have hD : va_D A (wM Y a N2) := hD
    by_cases c5 : cStopped N2 (N2 19 0) = true
    · refine kTop (kb_t c5) ?_
      refine lv_if_eq (tgt := 39) hx hb dX3_passDay_23 (by decide) (fun h => False.elim (by revert h; decide)) (fun _ => ?_)
      refine lv_aload_n hx hb dX3_passDay_26 rfl (lv_at hl 0 rfl) ?_
      refine lv_dup hx hb dX3_passDay_27 rfl ?_
      refine gfX3_70 (v := .int (N2 19 3)) hx hb hta hown hK hP 0 rfl rfl dX3_passDay_28 ?_
      refine lv_iconst (v := 1) hx hb dX3_passDay_31 (by decide) ?_
      refine lv_iadd hx hb dX3_passDay_32 ?_
      refine pfX3_70 (ws1 := wM Y a (sM N2 19 3 ((N2 19 3) + 1))) hx hb hta hown hK hP hD hS 0 rfl (Nat.le_of_ble_eq_true rfl) rfl dX3_passDay_33 (fun H locs hP hD hS => ?_)
      refine lv_goto (tgt := 43) hx hb dX3_passDay_36 (by decide) ?_
      refine lv_aload_n hx hb dX3_passDay_43 rfl (lv_at hl 0 rfl) ?_
      refine lv_dup hx hb dX3_passDay_44 rfl ?_
      refine gfX3_60 (v := .int (N2 19 0)) hx hb hta hown hK hP 0 rfl rfl dX3_passDay_45 ?_
      refine lv_iconst (v := 1) hx hb dX3_passDay_48 (by decide) ?_
      refine lv_iadd hx hb dX3_passDay_49 ?_
      refine pfX3_60 (ws1 := wM Y a (sM (sM N2 19 3 ((N2 19 3) + 1)) 19 0 ((N2 19 0) + 1))) hx hb hta hown hK hP hD hS 0 rfl (Nat.le_of_ble_eq_true rfl) rfl dX3_passDay_50 (fun H locs hP hD hS => ?_)
      exact kvret (sM (sM N2 19 3 ((N2 19 3) + 1)) 19 0 ((N2 19 0) + 1)) hQ hx hb hr hlocks hP hS dX3_passDay_53 (by subst hN1; subst hN2; unfold cDay cRest; rw [if_pos (Or.inr c5)] <;> rfl)
    · refine kTop (kb_f c5) ?_
      refine lv_if_eq (tgt := 39) hx hb dX3_passDay_23 (by decide) (fun _ => ?_) (fun h => False.elim (by revert h; decide))
      refine lv_aload_n hx hb dX3_passDay_39 rfl (lv_at hl 0 rfl) ?_
      refine kc_v (krV (As := []) (rest := []) (c_X3_crush l D Y a N2 (hN2 ▸ cBring_I (hN1 ▸ cLose_I hI))) ⟨hx, hb, hml, hown, hta⟩ (cwX3_107 hta ⟨Nat.le_of_ble_eq_true rfl, Nat.le_of_ble_eq_true rfl⟩) kX0b (fun _ _ _ => trivial) hK hNs hP hD (kJ_all) (q0 := 0) rfl rfl rfl rfl hl.1 rfl (Nat.le_of_ble_eq_true rfl) dX3_passDay_40 ⟨Nat.le_of_ble_eq_true rfl, Nat.le_of_ble_eq_true rfl⟩) hP hD hS hA (kJ_all) (fun _ => rfl) (fun N3 H locs hw hP hD hS => ?_)
      have hN3 := hw
      have hP : va_P D vwCl (wM Y a N3) H := hP
      have hD : va_D A (wM Y a N3) := hD
      refine lv_aload_n hx hb dX3_passDay_43 rfl (lv_at hl 0 rfl) ?_
      refine lv_dup hx hb dX3_passDay_44 rfl ?_
      refine gfX3_60 (v := .int (N3 19 0)) hx hb hta hown hK hP 0 rfl rfl dX3_passDay_45 ?_
      refine lv_iconst (v := 1) hx hb dX3_passDay_48 (by decide) ?_
      refine lv_iadd hx hb dX3_passDay_49 ?_
      refine pfX3_60 (ws1 := wM Y a (sM N3 19 0 ((N3 19 0) + 1))) hx hb hta hown hK hP hD hS 0 rfl (Nat.le_of_ble_eq_true rfl) rfl dX3_passDay_50 (fun H locs hP hD hS => ?_)
      exact kvret (sM N3 19 0 ((N3 19 0) + 1)) hQ hx hb hr hlocks hP hS dX3_passDay_53 (by subst hN1; subst hN2; subst hN3; unfold cDay cRest; rw [if_neg (fun h => h.elim c3 c5)] <;> rfl)
end
section
set_option maxHeartbeats 4000000 in
set_option maxRecDepth 100000 in
theorem c_X3_passDays (l : Launch) (D : va_G) (Y : Nat → ClassId) (a : Nat → Nat) (M : kN) (days : Int32) (hI : cI M) : kM l yX3_passDays wX3_passDays rX3_passDays D Y (wM Y a M) [.ref (a 0), .int days] kX0 (kQi D (fun r u => r = (cPass M days).1 ∧ u = (cPass M days).2) (fun u => wM Y a u)) := by
  refine kentry (cc := cX3_passDays) (maxL := 3) (ret := (some .int)) (by decide +kernel) rfl (Nat.le_of_ble_eq_true rfl) ?_
  intro p e s m args below meth c A Q ls hQ hx hb hr hlocks hml hown hin hta hA hX hK hNs hP hD hS hl
  have hown : s.vm.findClass RX3 = some m.cls := hown
  have hl : lv_has ls 3 [(0, .ref (a 0)), (1, .int days)] := hl
  refine lv_iload_n hx hb dX3_passDays_0 rfl (lv_at hl 1 rfl) ?_
  refine lv_iconst (v := 1) hx hb dX3_passDays_1 (by decide) ?_
  refine lv_bipush (v := 99) hx hb dX3_passDays_2 (by decide) ?_
  refine kc_i (krSN (As := [.int days, .int 1, .int 99]) (rest := []) (c_X7_isWithin l D Y days 1 99) ⟨hx, hb, hml, hown, hta⟩ (cwX3_73 hta hNs ⟨Nat.le_of_ble_eq_true rfl, Nat.le_of_ble_eq_true rfl⟩) kX0b (fun _ _ _ => trivial) hK hNs hP hD (kJ_nil) rfl hl.1 rfl (Nat.le_of_ble_eq_true rfl) dX3_passDays_4 ⟨Nat.le_of_ble_eq_true rfl, Nat.le_of_ble_eq_true rfl⟩) hP hD hS hA (kJ_nil) (fun _ => rfl) (fun r1 u H locs hw hP hD hS => ?_)
  subst hw
  have hP : va_P D vwCl (wM Y a M) H := hP
  have hD : va_D A (wM Y a M) := hD
  by_cases c2 : pIn days 1 99
  · refine kTop (kb_t c2) ?_
    refine lv_if_ne (tgt := 13) hx hb dX3_passDays_7 (by decide) (fun _ => ?_) (fun h => False.elim (by revert h; decide))
    refine lv_aload_n hx hb dX3_passDays_13 rfl (lv_at hl 0 rfl) ?_
    refine gfX3_60 (v := .int (M 19 0)) hx hb hta hown hK hP 0 rfl rfl dX3_passDays_14 ?_
    refine lv_iload_n hx hb dX3_passDays_17 rfl (lv_at hl 1 rfl) ?_
    refine lv_iadd hx hb dX3_passDays_18 ?_
    refine lv_sipush (v := 1000) hx hb dX3_passDays_19 (by decide) ?_
    refine lv_icmp_le (tgt := 28) hx hb dX3_passDays_22 (by decide) (fun c3 => ?_) (fun c3 => ?_)
    · obtain ⟨dn, rfl, hd1, hd2⟩ := pIn_nat c2 (show (1 : Int32) = nI 1 from rfl) (show (99 : Int32) = nI 99 from rfl) (by omega) (by omega)
      refine lv_iconst (v := 0) hx hb dX3_passDays_28 (by decide) ?_
      refine lv_istore_n (lv' := [(2, .int 0), (0, .ref (a 0)), (1, .int (nI dn))]) hx hb dX3_passDays_29 rfl hl (by decide) rfl (fun ls hl => ?_)
      have loop30 : ∀ (n : Nat) (i : Nat) (N : kN), dn - i < n → cDays M 0 i = N → i ≤ dn → ∀ (H : Heap) (locs : List Loc), va_P D vwCl (wM Y a N) H → va_D A (wM Y a N) → va_S A s.heap H locs → ∀ (ls : Array Slot), lv_has ls 3 [(2, .int (nI i)), (0, .ref (a 0)), (1, .int (nI dn))] → W p l e rX3_passDays s m args below meth c H locs 0 0 Q (F0 m 30 ls []) := by
        intro n
        induction n with
        | zero => intro i N hmu; exact absurd hmu (Nat.not_lt_zero _)
        | succ n ih =>
          intro i N hmu hN hi H locs hP hD hS ls hl
          have hIN : cI N := hN ▸ cDays_I hI 0 i
          refine lv_iload_n hx hb dX3_passDays_30 rfl (lv_at hl 0 rfl) ?_
          refine lv_iload_n hx hb dX3_passDays_31 rfl (lv_at hl 2 rfl) ?_
          refine lv_icmp_ge (tgt := 46) hx hb dX3_passDays_32 (by decide) (fun c4 => ?_) (fun c4 => ?_)
          · have c4n : dn ≤ i := (nI_leI (a := dn) (b := i) (by omega) (by omega)).mp c4
            refine lv_aload_n hx hb dX3_passDays_46 rfl (lv_at hl 1 rfl) ?_
            refine gfX3_60 (v := .int (N 19 0)) hx hb hta hown hK hP 0 rfl rfl dX3_passDays_47 ?_
            exact kiret (N) hQ hx hb hr hlocks hP hS dX3_passDays_50 (by have hi2 : i = dn := (by omega); subst hi2; unfold cPass; rw [if_pos c2, if_pos c3, nI_clamp (by omega), hN]; exact ⟨rfl, rfl⟩)
          · have c4n : ¬ dn ≤ i := fun h => c4 ((nI_leI (a := dn) (b := i) (by omega) (by omega)).mpr h)
            refine lv_aload_n hx hb dX3_passDays_35 rfl (lv_at hl 1 rfl) ?_
            refine lv_iconst (v := 0) hx hb dX3_passDays_36 (by decide) ?_
            refine kTop (y := kb (nI i < 0)) (kb_f (nI_pos (by omega))).symm ?_
            refine kc_v (krV (As := [.int (kb (nI i < 0))]) (rest := []) (c_X3_passDay l D Y a N (nI i < 0) hIN) ⟨hx, hb, hml, hown, hta⟩ (cwX3_94 hta ⟨Nat.le_of_ble_eq_true rfl, Nat.le_of_ble_eq_true rfl⟩) kX0b (fun _ _ _ => trivial) hK hNs hP hD (kJ_all) (q0 := 0) rfl rfl rfl rfl hl.1 rfl (Nat.le_of_ble_eq_true rfl) dX3_passDays_37 ⟨Nat.le_of_ble_eq_true rfl, Nat.le_of_ble_eq_true rfl⟩) hP hD hS hA (kJ_all) (fun _ => rfl) (fun u H locs hw hP hD hS => ?_)
            subst hw
            have hP : va_P D vwCl (wM Y a (cDay N (nI i < 0))) H := hP
            have hD : va_D A (wM Y a (cDay N (nI i < 0))) := hD
            refine lv_iinc (v := nI (i + 1)) (lv' := [(2, .int (nI (i + 1))), (0, .ref (a 0)), (1, .int (nI dn))]) hx hb dX3_passDays_40 hl (k := 0) rfl (nI_add i 1) (by decide) rfl (fun ls hl => ?_)
            refine lv_goto (tgt := 30) hx hb dX3_passDays_43 (by decide) ?_
            exact ih (i + 1) (cDay N (nI i < 0)) (by omega) (by rw [← hN]; rfl) (by omega) _ _ hP hD hS ls (lv_sub hl [0, 1, 2] rfl)
      exact loop30 ((dn - 0) + 1) 0 M (Nat.lt_succ_self _) rfl (by omega) _ _ hP hD hS ls (lv_sub hl [0, 1, 2] rfl)
    · refine lv_bipush (v := (-5)) hx hb dX3_passDays_25 (by decide) ?_
      exact kiret (M) hQ hx hb hr hlocks hP hS dX3_passDays_27 (by unfold cPass; rw [if_pos c2, if_neg c3]; exact ⟨rfl, rfl⟩)
  · refine kTop (kb_f c2) ?_
    refine lv_if_ne (tgt := 13) hx hb dX3_passDays_7 (by decide) (fun h => False.elim (by revert h; decide)) (fun _ => ?_)
    refine lv_bipush (v := (-2)) hx hb dX3_passDays_10 (by decide) ?_
    exact kiret (M) hQ hx hb hr hlocks hP hS dX3_passDays_12 (by unfold cPass; rw [if_neg c2]; exact ⟨rfl, rfl⟩)
end
