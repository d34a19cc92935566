theorem al_10 : Cond.classLink RL 7 RX7 ∈ kAL := al_in (List.mem_of_getElem? (i := 51) (by decide +kernel)) rfl
theorem al_11 : Cond.instantiable RX7 5 ∈ kAL := al_in (List.mem_of_getElem? (i := 52) (by decide +kernel)) rfl
theorem al_12 : Cond.initialized RX7 ∈ kAL := al_in (List.mem_of_getElem? (i := 36) (by decide +kernel)) rfl
theorem al_13 : Cond.classLink RL 10 RX8 ∈ kAL := al_in (List.mem_of_getElem? (i := 707) (by decide +kernel)) rfl
theorem al_14 : Cond.instantiable RX8 11 ∈ kAL := al_in (List.mem_of_getElem? (i := 708) (by decide +kernel)) rfl
theorem al_15 : Cond.initialized RX8 ∈ kAL := al_in (List.mem_of_getElem? (i := 44) (by decide +kernel)) rfl
theorem al_16 : Cond.constantLong RL 83 (4294967295) ∈ kAL := al_in (List.mem_of_getElem? (i := 985) (by decide +kernel)) rfl
theorem al_17 : Cond.methodLink RL 9 yX7_init ∈ kAL := al_in (List.mem_of_getElem? (i := 53) (by decide +kernel)) rfl
theorem al_18 : Cond.instanceMethod yX7_init ∈ kAL := al_in (List.mem_of_getElem? (i := 54) (by decide +kernel)) rfl
theorem al_19 : Cond.code yX7_init cX7_init 1 none ∈ kAL := al_in (List.mem_of_getElem? (i := 55) (by decide +kernel)) rfl
theorem al_20 : Cond.methodLink RX7 1 objectInit ∈ kAL := al_in (List.mem_of_getElem? (i := 56) (by decide +kernel)) rfl
theorem al_21 : Cond.instanceMethod objectInit ∈ kAL := al_in (List.mem_of_getElem? (i := 57) (by decide +kernel)) rfl
theorem al_22 : Cond.code objectInit ⟨#[0xb1]⟩ 1 none ∈ kAL := al_in (List.mem_of_getElem? (i := 58) (by decide +kernel)) rfl
theorem al_23 : Cond.classLink RX7 7 RX3 ∈ kAL := al_in (List.mem_of_getElem? (i := 59) (by decide +kernel)) rfl
theorem al_24 : Cond.instantiable RX3 9 ∈ kAL := al_in (List.mem_of_getElem? (i := 60) (by decide +kernel)) rfl
theorem al_25 : Cond.initialized RX3 ∈ kAL := al_in (List.mem_of_getElem? (i := 37) (by decide +kernel)) rfl
theorem al_26 : Cond.fieldLink RX7 10 "CaneQuotas" "mill" "LCaneQuotas$Mill;" ∈ kAL := al_in (List.mem_of_getElem? (i := 263) (by decide +kernel)) rfl
theorem al_27 : Cond.fieldLink RX7 16 "CaneQuotas" "trial" "LCaneQuotas$Mill;" ∈ kAL := al_in (List.mem_of_getElem? (i := 264) (by decide +kernel)) rfl
theorem al_28 : Cond.classLink RX7 19 RX2 ∈ kAL := al_in (List.mem_of_getElem? (i := 215) (by decide +kernel)) rfl
theorem al_29 : Cond.instantiable RX2 3 ∈ kAL := al_in (List.mem_of_getElem? (i := 216) (by decide +kernel)) rfl
theorem al_30 : Cond.initialized RX2 ∈ kAL := al_in (List.mem_of_getElem? (i := 42) (by decide +kernel)) rfl
theorem al_31 : Cond.fieldLink RX7 22 "CaneQuotas" "history" "LCaneQuotas$History;" ∈ kAL := al_in (List.mem_of_getElem? (i := 265) (by decide +kernel)) rfl
theorem al_32 : Cond.fieldLink RX7 26 "CaneQuotas" "slots" "[LCaneQuotas$Mill;" ∈ kAL := al_in (List.mem_of_getElem? (i := 266) (by decide +kernel)) rfl
theorem al_33 : Cond.classLink RX7 30 RX4 ∈ kAL := al_in (List.mem_of_getElem? (i := 234) (by decide +kernel)) rfl
theorem al_34 : Cond.instantiable RX4 6 ∈ kAL := al_in (List.mem_of_getElem? (i := 235) (by decide +kernel)) rfl
theorem al_35 : Cond.initialized RX4 ∈ kAL := al_in (List.mem_of_getElem? (i := 43) (by decide +kernel)) rfl
theorem al_36 : Cond.fieldLink RX7 33 "CaneQuotas" "pad" "LCaneQuotas$Pad;" ∈ kAL := al_in (List.mem_of_getElem? (i := 267) (by decide +kernel)) rfl
theorem al_37 : Cond.instanceMethod yX3_init ∈ kAL := al_in (List.mem_of_getElem? (i := 62) (by decide +kernel)) rfl
theorem al_38 : Cond.code yX3_init cX3_init 1 none ∈ kAL := al_in (List.mem_of_getElem? (i := 63) (by decide +kernel)) rfl
theorem al_39 : Cond.methodLink RX3 3 objectInit ∈ kAL := al_in (List.mem_of_getElem? (i := 64) (by decide +kernel)) rfl
theorem al_40 : Cond.arrayClass .int ∈ kAL := al_in (List.mem_of_getElem? (i := 92) (by decide +kernel)) rfl
theorem al_41 : Cond.fieldLink RX3 9 "CaneQuotas$Mill" "settings" "[I" ∈ kAL := al_in (List.mem_of_getElem? (i := 180) (by decide +kernel)) rfl
theorem al_42 : Cond.classLink RX3 15 RX1 ∈ kAL := al_in (List.mem_of_getElem? (i := 65) (by decide +kernel)) rfl
theorem al_43 : Cond.instantiable RX1 5 ∈ kAL := al_in (List.mem_of_getElem? (i := 66) (by decide +kernel)) rfl
theorem al_44 : Cond.initialized RX1 ∈ kAL := al_in (List.mem_of_getElem? (i := 38) (by decide +kernel)) rfl
theorem al_45 : Cond.fieldLink RX3 18 "CaneQuotas$Mill" "growers" "LCaneQuotas$Growers;" ∈ kAL := al_in (List.mem_of_getElem? (i := 182) (by decide +kernel)) rfl
theorem al_46 : Cond.classLink RX3 22 RX0 ∈ kAL := al_in (List.mem_of_getElem? (i := 93) (by decide +kernel)) rfl
theorem al_47 : Cond.instantiable RX0 9 ∈ kAL := al_in (List.mem_of_getElem? (i := 94) (by decide +kernel)) rfl
theorem al_48 : Cond.initialized RX0 ∈ kAL := al_in (List.mem_of_getElem? (i := 39) (by decide +kernel)) rfl
theorem al_49 : Cond.fieldLink RX3 25 "CaneQuotas$Mill" "fields" "LCaneQuotas$Fields;" ∈ kAL := al_in (List.mem_of_getElem? (i := 184) (by decide +kernel)) rfl
theorem al_50 : Cond.classLink RX3 29 RX5 ∈ kAL := al_in (List.mem_of_getElem? (i := 137) (by decide +kernel)) rfl
theorem al_51 : Cond.instantiable RX5 3 ∈ kAL := al_in (List.mem_of_getElem? (i := 138) (by decide +kernel)) rfl
theorem al_52 : Cond.initialized RX5 ∈ kAL := al_in (List.mem_of_getElem? (i := 40) (by decide +kernel)) rfl
theorem al_53 : Cond.fieldLink RX3 32 "CaneQuotas$Mill" "stops" "LCaneQuotas$Stops;" ∈ kAL := al_in (List.mem_of_getElem? (i := 186) (by decide +kernel)) rfl
theorem al_54 : Cond.classLink RX3 36 RX6 ∈ kAL := al_in (List.mem_of_getElem? (i := 154) (by decide +kernel)) rfl
theorem al_55 : Cond.instantiable RX6 5 ∈ kAL := al_in (List.mem_of_getElem? (i := 155) (by decide +kernel)) rfl
theorem al_56 : Cond.initialized RX6 ∈ kAL := al_in (List.mem_of_getElem? (i := 41) (by decide +kernel)) rfl
theorem al_57 : Cond.fieldLink RX3 39 "CaneQuotas$Mill" "yard" "LCaneQuotas$Yard;" ∈ kAL := al_in (List.mem_of_getElem? (i := 188) (by decide +kernel)) rfl
theorem al_58 : Cond.instanceMethod yX1_init ∈ kAL := al_in (List.mem_of_getElem? (i := 68) (by decide +kernel)) rfl
theorem al_59 : Cond.code yX1_init cX1_init 1 none ∈ kAL := al_in (List.mem_of_getElem? (i := 69) (by decide +kernel)) rfl
theorem al_60 : Cond.methodLink RX1 3 objectInit ∈ kAL := al_in (List.mem_of_getElem? (i := 70) (by decide +kernel)) rfl
theorem al_61 : Cond.fieldLink RX1 9 "CaneQuotas$Growers" "quota" "[I" ∈ kAL := al_in (List.mem_of_getElem? (i := 71) (by decide +kernel)) rfl
theorem al_62 : Cond.fieldLink RX1 15 "CaneQuotas$Growers" "brought" "[I" ∈ kAL := al_in (List.mem_of_getElem? (i := 73) (by decide +kernel)) rfl
theorem al_63 : Cond.fieldLink RX1 18 "CaneQuotas$Growers" "crushed" "[I" ∈ kAL := al_in (List.mem_of_getElem? (i := 75) (by decide +kernel)) rfl
theorem al_64 : Cond.fieldLink RX1 21 "CaneQuotas$Growers" "lost" "[I" ∈ kAL := al_in (List.mem_of_getElem? (i := 77) (by decide +kernel)) rfl
theorem al_65 : Cond.fieldLink RX1 24 "CaneQuotas$Growers" "paid" "[I" ∈ kAL := al_in (List.mem_of_getElem? (i := 79) (by decide +kernel)) rfl
theorem al_66 : Cond.instanceMethod yX0_init ∈ kAL := al_in (List.mem_of_getElem? (i := 96) (by decide +kernel)) rfl
theorem al_67 : Cond.code yX0_init cX0_init 1 none ∈ kAL := al_in (List.mem_of_getElem? (i := 97) (by decide +kernel)) rfl
theorem al_68 : Cond.methodLink RX0 3 objectInit ∈ kAL := al_in (List.mem_of_getElem? (i := 98) (by decide +kernel)) rfl
theorem al_69 : Cond.fieldLink RX0 9 "CaneQuotas$Fields" "grower" "[I" ∈ kAL := al_in (List.mem_of_getElem? (i := 99) (by decide +kernel)) rfl
theorem al_70 : Cond.fieldLink RX0 15 "CaneQuotas$Fields" "tonnes" "[I" ∈ kAL := al_in (List.mem_of_getElem? (i := 101) (by decide +kernel)) rfl
theorem al_71 : Cond.fieldLink RX0 18 "CaneQuotas$Fields" "purity" "[I" ∈ kAL := al_in (List.mem_of_getElem? (i := 103) (by decide +kernel)) rfl
theorem al_72 : Cond.fieldLink RX0 21 "CaneQuotas$Fields" "burnt" "[I" ∈ kAL := al_in (List.mem_of_getElem? (i := 105) (by decide +kernel)) rfl
theorem al_73 : Cond.fieldLink RX0 24 "CaneQuotas$Fields" "left" "[I" ∈ kAL := al_in (List.mem_of_getElem? (i := 107) (by decide +kernel)) rfl
theorem al_74 : Cond.fieldLink RX0 27 "CaneQuotas$Fields" "inYard" "[I" ∈ kAL := al_in (List.mem_of_getElem? (i := 109) (by decide +kernel)) rfl
theorem al_75 : Cond.fieldLink RX0 30 "CaneQuotas$Fields" "crushed" "[I" ∈ kAL := al_in (List.mem_of_getElem? (i := 111) (by decide +kernel)) rfl
theorem al_76 : Cond.fieldLink RX0 33 "CaneQuotas$Fields" "lost" "[I" ∈ kAL := al_in (List.mem_of_getElem? (i := 113) (by decide +kernel)) rfl
theorem al_77 : Cond.instanceMethod yX5_init ∈ kAL := al_in (List.mem_of_getElem? (i := 140) (by decide +kernel)) rfl
theorem al_78 : Cond.code yX5_init cX5_init 1 none ∈ kAL := al_in (List.mem_of_getElem? (i := 141) (by decide +kernel)) rfl
theorem al_79 : Cond.methodLink RX5 3 objectInit ∈ kAL := al_in (List.mem_of_getElem? (i := 142) (by decide +kernel)) rfl
theorem al_80 : Cond.fieldLink RX5 9 "CaneQuotas$Stops" "first" "[I" ∈ kAL := al_in (List.mem_of_getElem? (i := 143) (by decide +kernel)) rfl
theorem al_81 : Cond.fieldLink RX5 15 "CaneQuotas$Stops" "last" "[I" ∈ kAL := al_in (List.mem_of_getElem? (i := 144) (by decide +kernel)) rfl
theorem al_82 : Cond.instanceMethod yX6_init ∈ kAL := al_in (List.mem_of_getElem? (i := 157) (by decide +kernel)) rfl
theorem al_83 : Cond.code yX6_init cX6_init 1 none ∈ kAL := al_in (List.mem_of_getElem? (i := 158) (by decide +kernel)) rfl
theorem al_84 : Cond.methodLink RX6 3 objectInit ∈ kAL := al_in (List.mem_of_getElem? (i := 159) (by decide +kernel)) rfl
theorem al_85 : Cond.fieldLink RX6 9 "CaneQuotas$Yard" "field" "[I" ∈ kAL := al_in (List.mem_of_getElem? (i := 160) (by decide +kernel)) rfl
theorem al_86 : Cond.fieldLink RX6 15 "CaneQuotas$Yard" "tonnes" "[I" ∈ kAL := al_in (List.mem_of_getElem? (i := 162) (by decide +kernel)) rfl
theorem al_87 : Cond.fieldLink RX6 18 "CaneQuotas$Yard" "day" "[I" ∈ kAL := al_in (List.mem_of_getElem? (i := 164) (by decide +kernel)) rfl
theorem al_88 : Cond.instanceMethod yX2_init ∈ kAL := al_in (List.mem_of_getElem? (i := 218) (by decide +kernel)) rfl
theorem al_89 : Cond.code yX2_init cX2_init 1 none ∈ kAL := al_in (List.mem_of_getElem? (i := 219) (by decide +kernel)) rfl
theorem al_90 : Cond.methodLink RX2 3 objectInit ∈ kAL := al_in (List.mem_of_getElem? (i := 220) (by decide +kernel)) rfl
theorem al_91 : Cond.classLink RX2 11 RX3 ∈ kAL := al_in (List.mem_of_getElem? (i := 221) (by decide +kernel)) rfl
theorem al_92 : Cond.fieldLink RX2 13 "CaneQuotas$History" "states" "[LCaneQuotas$Mill;" ∈ kAL := al_in (List.mem_of_getElem? (i := 223) (by decide +kernel)) rfl
theorem al_93 : Cond.instanceMethod yX4_init ∈ kAL := al_in (List.mem_of_getElem? (i := 237) (by decide +kernel)) rfl
theorem al_94 : Cond.code yX4_init cX4_init 1 none ∈ kAL := al_in (List.mem_of_getElem? (i := 238) (by decide +kernel)) rfl
theorem al_95 : Cond.methodLink RX4 3 objectInit ∈ kAL := al_in (List.mem_of_getElem? (i := 239) (by decide +kernel)) rfl
theorem al_96 : Cond.arrayClass .char ∈ kAL := al_in (List.mem_of_getElem? (i := 262) (by decide +kernel)) rfl
theorem al_97 : Cond.fieldLink RX4 9 "CaneQuotas$Pad" "signs" "[C" ∈ kAL := al_in (List.mem_of_getElem? (i := 240) (by decide +kernel)) rfl
theorem al_98 : Cond.fieldLink RX4 15 "CaneQuotas$Pad" "values" "[I" ∈ kAL := al_in (List.mem_of_getElem? (i := 246) (by decide +kernel)) rfl
theorem al_99 : Cond.methodLink RL 12 yX8_init ∈ kAL := al_in (List.mem_of_getElem? (i := 709) (by decide +kernel)) rfl
theorem al_100 : Cond.instanceMethod yX8_init ∈ kAL := al_in (List.mem_of_getElem? (i := 710) (by decide +kernel)) rfl
theorem al_101 : Cond.code yX8_init cX8_init 2 none ∈ kAL := al_in (List.mem_of_getElem? (i := 711) (by decide +kernel)) rfl
theorem al_102 : Cond.methodLink RX8 1 objectInit ∈ kAL := al_in (List.mem_of_getElem? (i := 712) (by decide +kernel)) rfl
theorem al_103 : Cond.fieldLink RX8 7 "CaneQuotasModel" "now" "[I" ∈ kAL := al_in (List.mem_of_getElem? (i := 713) (by decide +kernel)) rfl
theorem al_104 : Cond.fieldLink RX8 13 "CaneQuotasModel" "then" "[I" ∈ kAL := al_in (List.mem_of_getElem? (i := 714) (by decide +kernel)) rfl
theorem al_105 : Cond.fieldLink RX8 16 "CaneQuotasModel" "past" "[I" ∈ kAL := al_in (List.mem_of_getElem? (i := 715) (by decide +kernel)) rfl
theorem al_106 : Cond.fieldLink RX8 19 "CaneQuotasModel" "slots" "[I" ∈ kAL := al_in (List.mem_of_getElem? (i := 717) (by decide +kernel)) rfl
theorem al_107 : Cond.arrayClass .boolean ∈ kAL := al_in (List.mem_of_getElem? (i := 747) (by decide +kernel)) rfl
theorem al_108 : Cond.fieldLink RX8 22 "CaneQuotasModel" "held" "[Z" ∈ kAL := al_in (List.mem_of_getElem? (i := 718) (by decide +kernel)) rfl
theorem al_109 : Cond.fieldLink RX8 26 "CaneQuotasModel" "pad" "[I" ∈ kAL := al_in (List.mem_of_getElem? (i := 719) (by decide +kernel)) rfl
theorem al_110 : Cond.fieldLink RX8 29 "CaneQuotasModel" "orders" "[I" ∈ kAL := al_in (List.mem_of_getElem? (i := 722) (by decide +kernel)) rfl
theorem al_111 : Cond.methodLink RL 13 yX7_set ∈ kAL := al_in (List.mem_of_getElem? (i := 279) (by decide +kernel)) rfl
theorem al_112 : Cond.instanceMethod yX7_set ∈ kAL := al_in (List.mem_of_getElem? (i := 280) (by decide +kernel)) rfl
theorem al_113 : Cond.selects RX7 yX7_set yX7_set ∈ kAL := al_in (List.mem_of_getElem? (i := 281) (by decide +kernel)) rfl
theorem al_114 : Cond.code yX7_set cX7_set 3 (some .int) ∈ kAL := al_in (List.mem_of_getElem? (i := 282) (by decide +kernel)) rfl
theorem al_115 : Cond.methodLink RX7 37 yX2_prepare ∈ kAL := al_in (List.mem_of_getElem? (i := 283) (by decide +kernel)) rfl
theorem al_116 : Cond.instanceMethod yX2_prepare ∈ kAL := al_in (List.mem_of_getElem? (i := 284) (by decide +kernel)) rfl
theorem al_117 : Cond.selects RX2 yX2_prepare yX2_prepare ∈ kAL := al_in (List.mem_of_getElem? (i := 285) (by decide +kernel)) rfl
theorem al_118 : Cond.code yX2_prepare cX2_prepare 4 none ∈ kAL := al_in (List.mem_of_getElem? (i := 286) (by decide +kernel)) rfl
theorem al_119 : Cond.fieldLink RX2 17 "CaneQuotas$History" "oldest" "I" ∈ kAL := al_in (List.mem_of_getElem? (i := 224) (by decide +kernel)) rfl
theorem al_120 : Cond.fieldLink RX2 21 "CaneQuotas$History" "size" "I" ∈ kAL := al_in (List.mem_of_getElem? (i := 225) (by decide +kernel)) rfl
theorem al_121 : Cond.methodLink RX2 25 yX3_copyFrom ∈ kAL := al_in (List.mem_of_getElem? (i := 288) (by decide +kernel)) rfl
theorem al_122 : Cond.instanceMethod yX3_copyFrom ∈ kAL := al_in (List.mem_of_getElem? (i := 289) (by decide +kernel)) rfl
theorem al_123 : Cond.selects RX3 yX3_copyFrom yX3_copyFrom ∈ kAL := al_in (List.mem_of_getElem? (i := 290) (by decide +kernel)) rfl
theorem al_124 : Cond.code yX3_copyFrom cX3_copyFrom 2 none ∈ kAL := al_in (List.mem_of_getElem? (i := 291) (by decide +kernel)) rfl
theorem al_125 : Cond.fieldLink RX3 60 "CaneQuotas$Mill" "now" "I" ∈ kAL := al_in (List.mem_of_getElem? (i := 190) (by decide +kernel)) rfl
theorem al_126 : Cond.fieldLink RX3 64 "CaneQuotas$Mill" "sugar" "I" ∈ kAL := al_in (List.mem_of_getElem? (i := 192) (by decide +kernel)) rfl
theorem al_127 : Cond.fieldLink RX3 67 "CaneQuotas$Mill" "loadsBrought" "I" ∈ kAL := al_in (List.mem_of_getElem? (i := 194) (by decide +kernel)) rfl
theorem al_128 : Cond.fieldLink RX3 70 "CaneQuotas$Mill" "stoppedDays" "I" ∈ kAL := al_in (List.mem_of_getElem? (i := 195) (by decide +kernel)) rfl
theorem al_129 : Cond.static yX7_copyRow ∈ kAL := al_in (List.mem_of_getElem? (i := 293) (by decide +kernel)) rfl
theorem al_130 : Cond.code yX7_copyRow cX7_copyRow 3 none ∈ kAL := al_in (List.mem_of_getElem? (i := 294) (by decide +kernel)) rfl
theorem al_131 : Cond.methodLink RX7 195 Lib.Math.min.name ∈ kAL := al_in (List.mem_of_getElem? (i := 295) (by decide +kernel)) rfl
theorem al_132 : Cond.static Lib.Math.min.name ∈ kAL := al_in (List.mem_of_getElem? (i := 296) (by decide +kernel)) rfl
theorem al_133 : Cond.initialized "java/lang/Math" ∈ kAL := al_in (List.mem_of_getElem? (i := 45) (by decide +kernel)) rfl
theorem al_134 : Cond.code Lib.Math.min.name Lib.Math.min.code 2 (some .int) ∈ kAL := al_in (List.mem_of_getElem? (i := 297) (by decide +kernel)) rfl
theorem al_135 : Cond.methodLink RX7 200 arraycopyName ∈ kAL := al_in (List.mem_of_getElem? (i := 298) (by decide +kernel)) rfl
theorem al_136 : Cond.native arraycopyName ∈ kAL := al_in (List.mem_of_getElem? (i := 300) (by decide +kernel)) rfl
theorem al_137 : Cond.static arraycopyName ∈ kAL := al_in (List.mem_of_getElem? (i := 299) (by decide +kernel)) rfl
theorem al_138 : Cond.initialized "java/lang/System" ∈ kAL := al_in (List.mem_of_getElem? (i := 46) (by decide +kernel)) rfl
theorem al_139 : Cond.methodLink RX3 47 yX1_copyFrom ∈ kAL := al_in (List.mem_of_getElem? (i := 301) (by decide +kernel)) rfl
theorem al_140 : Cond.instanceMethod yX1_copyFrom ∈ kAL := al_in (List.mem_of_getElem? (i := 302) (by decide +kernel)) rfl
theorem al_141 : Cond.selects RX1 yX1_copyFrom yX1_copyFrom ∈ kAL := al_in (List.mem_of_getElem? (i := 303) (by decide +kernel)) rfl
theorem al_142 : Cond.code yX1_copyFrom cX1_copyFrom 2 none ∈ kAL := al_in (List.mem_of_getElem? (i := 304) (by decide +kernel)) rfl
theorem al_143 : Cond.methodLink RX3 51 yX0_copyFrom ∈ kAL := al_in (List.mem_of_getElem? (i := 306) (by decide +kernel)) rfl
theorem al_144 : Cond.instanceMethod yX0_copyFrom ∈ kAL := al_in (List.mem_of_getElem? (i := 307) (by decide +kernel)) rfl
theorem al_145 : Cond.selects RX0 yX0_copyFrom yX0_copyFrom ∈ kAL := al_in (List.mem_of_getElem? (i := 308) (by decide +kernel)) rfl
theorem al_146 : Cond.code yX0_copyFrom cX0_copyFrom 2 none ∈ kAL := al_in (List.mem_of_getElem? (i := 309) (by decide +kernel)) rfl
theorem al_147 : Cond.fieldLink RX0 36 "CaneQuotas$Fields" "count" "I" ∈ kAL := al_in (List.mem_of_getElem? (i := 115) (by decide +kernel)) rfl
theorem al_148 : Cond.methodLink RX3 54 yX5_copyFrom ∈ kAL := al_in (List.mem_of_getElem? (i := 311) (by decide +kernel)) rfl
theorem al_149 : Cond.instanceMethod yX5_copyFrom ∈ kAL := al_in (List.mem_of_getElem? (i := 312) (by decide +kernel)) rfl
theorem al_150 : Cond.selects RX5 yX5_copyFrom yX5_copyFrom ∈ kAL := al_in (List.mem_of_getElem? (i := 313) (by decide +kernel)) rfl
theorem al_151 : Cond.code yX5_copyFrom cX5_copyFrom 2 none ∈ kAL := al_in (List.mem_of_getElem? (i := 314) (by decide +kernel)) rfl
theorem al_152 : Cond.fieldLink RX5 18 "CaneQuotas$Stops" "count" "I" ∈ kAL := al_in (List.mem_of_getElem? (i := 145) (by decide +kernel)) rfl
theorem al_153 : Cond.methodLink RX3 57 yX6_copyFrom ∈ kAL := al_in (List.mem_of_getElem? (i := 316) (by decide +kernel)) rfl
theorem al_154 : Cond.instanceMethod yX6_copyFrom ∈ kAL := al_in (List.mem_of_getElem? (i := 317) (by decide +kernel)) rfl
theorem al_155 : Cond.selects RX6 yX6_copyFrom yX6_copyFrom ∈ kAL := al_in (List.mem_of_getElem? (i := 318) (by decide +kernel)) rfl
theorem al_156 : Cond.code yX6_copyFrom cX6_copyFrom 2 none ∈ kAL := al_in (List.mem_of_getElem? (i := 319) (by decide +kernel)) rfl
theorem al_157 : Cond.fieldLink RX6 21 "CaneQuotas$Yard" "loads" "I" ∈ kAL := al_in (List.mem_of_getElem? (i := 165) (by decide +kernel)) rfl
theorem al_158 : Cond.fieldLink RX6 25 "CaneQuotas$Yard" "total" "I" ∈ kAL := al_in (List.mem_of_getElem? (i := 167) (by decide +kernel)) rfl
theorem al_159 : Cond.methodLink RX7 41 yX3_changeSetting ∈ kAL := al_in (List.mem_of_getElem? (i := 321) (by decide +kernel)) rfl
theorem al_160 : Cond.instanceMethod yX3_changeSetting ∈ kAL := al_in (List.mem_of_getElem? (i := 322) (by decide +kernel)) rfl
theorem al_161 : Cond.selects RX3 yX3_changeSetting yX3_changeSetting ∈ kAL := al_in (List.mem_of_getElem? (i := 323) (by decide +kernel)) rfl
theorem al_162 : Cond.code yX3_changeSetting cX3_changeSetting 4 (some .int) ∈ kAL := al_in (List.mem_of_getElem? (i := 324) (by decide +kernel)) rfl
theorem al_163 : Cond.fieldLink RX3 77 "CaneQuotas$Mill" "LEAST" "[I" ∈ kAL := al_in (List.mem_of_getElem? (i := 328) (by decide +kernel)) rfl
theorem al_164 : Cond.fieldLink RX3 80 "CaneQuotas$Mill" "MOST" "[I" ∈ kAL := al_in (List.mem_of_getElem? (i := 330) (by decide +kernel)) rfl
theorem al_165 : Cond.static yX7_isWithin ∈ kAL := al_in (List.mem_of_getElem? (i := 326) (by decide +kernel)) rfl
theorem al_166 : Cond.code yX7_isWithin cX7_isWithin 3 (some .boolean) ∈ kAL := al_in (List.mem_of_getElem? (i := 327) (by decide +kernel)) rfl
theorem al_167 : Cond.methodLink RX7 45 yX2_recordUnlessError ∈ kAL := al_in (List.mem_of_getElem? (i := 332) (by decide +kernel)) rfl
theorem al_168 : Cond.instanceMethod yX2_recordUnlessError ∈ kAL := al_in (List.mem_of_getElem? (i := 333) (by decide +kernel)) rfl
theorem al_169 : Cond.selects RX2 yX2_recordUnlessError yX2_recordUnlessError ∈ kAL := al_in (List.mem_of_getElem? (i := 334) (by decide +kernel)) rfl
theorem al_170 : Cond.code yX2_recordUnlessError cX2_recordUnlessError 2 (some .int) ∈ kAL := al_in (List.mem_of_getElem? (i := 335) (by decide +kernel)) rfl
theorem al_171 : Cond.methodLink RL 17 yX8_set ∈ kAL := al_in (List.mem_of_getElem? (i := 770) (by decide +kernel)) rfl
theorem al_172 : Cond.instanceMethod yX8_set ∈ kAL := al_in (List.mem_of_getElem? (i := 771) (by decide +kernel)) rfl
theorem al_173 : Cond.selects RX8 yX8_set yX8_set ∈ kAL := al_in (List.mem_of_getElem? (i := 772) (by decide +kernel)) rfl
theorem al_174 : Cond.code yX8_set cX8_set 3 (some .int) ∈ kAL := al_in (List.mem_of_getElem? (i := 773) (by decide +kernel)) rfl
theorem al_175 : Cond.methodLink RX8 32 yX8_in ∈ kAL := al_in (List.mem_of_getElem? (i := 759) (by decide +kernel)) rfl
theorem al_176 : Cond.static yX8_in ∈ kAL := al_in (List.mem_of_getElem? (i := 760) (by decide +kernel)) rfl
theorem al_177 : Cond.code yX8_in cX8_in 3 (some .boolean) ∈ kAL := al_in (List.mem_of_getElem? (i := 761) (by decide +kernel)) rfl
theorem al_178 : Cond.methodLink RX8 96 yX8_isFor ∈ kAL := al_in (List.mem_of_getElem? (i := 774) (by decide +kernel)) rfl
theorem al_179 : Cond.static yX8_isFor ∈ kAL := al_in (List.mem_of_getElem? (i := 775) (by decide +kernel)) rfl
theorem al_180 : Cond.code yX8_isFor cX8_isFor 2 (some .boolean) ∈ kAL := al_in (List.mem_of_getElem? (i := 776) (by decide +kernel)) rfl
theorem al_181 : Cond.methodLink RX8 44 yX8_records ∈ kAL := al_in (List.mem_of_getElem? (i := 766) (by decide +kernel)) rfl
theorem al_182 : Cond.instanceMethod yX8_records ∈ kAL := al_in (List.mem_of_getElem? (i := 768) (by decide +kernel)) rfl
theorem al_183 : Cond.selects RX8 yX8_records yX8_records ∈ kAL := al_in (List.mem_of_getElem? (i := 16) (by decide +kernel)) rfl
theorem al_184 : Cond.code yX8_records cX8_records 2 none ∈ kAL := al_in (List.mem_of_getElem? (i := 769) (by decide +kernel)) rfl
theorem al_185 : Cond.fieldLink RX8 36 "CaneQuotasModel" "kept" "I" ∈ kAL := al_in (List.mem_of_getElem? (i := 716) (by decide +kernel)) rfl
theorem al_186 : Cond.methodLink RX8 40 yX8_lays ∈ kAL := al_in (List.mem_of_getElem? (i := 752) (by decide +kernel)) rfl
theorem al_187 : Cond.static yX8_lays ∈ kAL := al_in (List.mem_of_getElem? (i := 753) (by decide +kernel)) rfl
theorem al_188 : Cond.code yX8_lays cX8_lays 5 none ∈ kAL := al_in (List.mem_of_getElem? (i := 754) (by decide +kernel)) rfl
theorem al_189 : Cond.methodLink RX8 100 yX8_changes ∈ kAL := al_in (List.mem_of_getElem? (i := 777) (by decide +kernel)) rfl
theorem al_190 : Cond.instanceMethod yX8_changes ∈ kAL := al_in (List.mem_of_getElem? (i := 779) (by decide +kernel)) rfl
theorem al_191 : Cond.selects RX8 yX8_changes yX8_changes ∈ kAL := al_in (List.mem_of_getElem? (i := 17) (by decide +kernel)) rfl
theorem al_192 : Cond.code yX8_changes cX8_changes 4 (some .int) ∈ kAL := al_in (List.mem_of_getElem? (i := 780) (by decide +kernel)) rfl
theorem al_193 : Cond.methodLink RL 18 yX7_quota ∈ kAL := al_in (List.mem_of_getElem? (i := 336) (by decide +kernel)) rfl
theorem al_194 : Cond.instanceMethod yX7_quota ∈ kAL := al_in (List.mem_of_getElem? (i := 337) (by decide +kernel)) rfl
theorem al_195 : Cond.selects RX7 yX7_quota yX7_quota ∈ kAL := al_in (List.mem_of_getElem? (i := 338) (by decide +kernel)) rfl
theorem al_196 : Cond.code yX7_quota cX7_quota 3 (some .int) ∈ kAL := al_in (List.mem_of_getElem? (i := 339) (by decide +kernel)) rfl
theorem al_197 : Cond.methodLink RX7 49 yX3_changeQuota ∈ kAL := al_in (List.mem_of_getElem? (i := 340) (by decide +kernel)) rfl
theorem al_198 : Cond.instanceMethod yX3_changeQuota ∈ kAL := al_in (List.mem_of_getElem? (i := 341) (by decide +kernel)) rfl
theorem al_199 : Cond.selects RX3 yX3_changeQuota yX3_changeQuota ∈ kAL := al_in (List.mem_of_getElem? (i := 342) (by decide +kernel)) rfl
theorem al_200 : Cond.code yX3_changeQuota cX3_changeQuota 4 (some .int) ∈ kAL := al_in (List.mem_of_getElem? (i := 343) (by decide +kernel)) rfl
theorem al_201 : Cond.fieldLink RX3 87 "CaneQuotas$Growers" "quota" "[I" ∈ kAL := al_in (List.mem_of_getElem? (i := 72) (by decide +kernel)) rfl
theorem al_202 : Cond.static yX7_isGrower ∈ kAL := al_in (List.mem_of_getElem? (i := 345) (by decide +kernel)) rfl
theorem al_203 : Cond.code yX7_isGrower cX7_isGrower 1 (some .boolean) ∈ kAL := al_in (List.mem_of_getElem? (i := 346) (by decide +kernel)) rfl
theorem al_204 : Cond.methodLink RX7 100 yX7_isWithin ∈ kAL := al_in (List.mem_of_getElem? (i := 347) (by decide +kernel)) rfl
theorem al_205 : Cond.methodLink RL 21 yX8_quota ∈ kAL := al_in (List.mem_of_getElem? (i := 781) (by decide +kernel)) rfl
theorem al_206 : Cond.instanceMethod yX8_quota ∈ kAL := al_in (List.mem_of_getElem? (i := 782) (by decide +kernel)) rfl
theorem al_207 : Cond.selects RX8 yX8_quota yX8_quota ∈ kAL := al_in (List.mem_of_getElem? (i := 783) (by decide +kernel)) rfl
theorem al_208 : Cond.code yX8_quota cX8_quota 4 (some .int) ∈ kAL := al_in (List.mem_of_getElem? (i := 784) (by decide +kernel)) rfl
theorem al_209 : Cond.methodLink RX8 107 yX8_mayQuota ∈ kAL := al_in (List.mem_of_getElem? (i := 785) (by decide +kernel)) rfl
theorem al_210 : Cond.static yX8_mayQuota ∈ kAL := al_in (List.mem_of_getElem? (i := 786) (by decide +kernel)) rfl
theorem al_211 : Cond.code yX8_mayQuota cX8_mayQuota 2 (some .int) ∈ kAL := al_in (List.mem_of_getElem? (i := 787) (by decide +kernel)) rfl
theorem al_212 : Cond.methodLink RX8 103 yX8_isGrower ∈ kAL := al_in (List.mem_of_getElem? (i := 788) (by decide +kernel)) rfl
theorem al_213 : Cond.static yX8_isGrower ∈ kAL := al_in (List.mem_of_getElem? (i := 789) (by decide +kernel)) rfl
theorem al_214 : Cond.code yX8_isGrower cX8_isGrower 1 (some .boolean) ∈ kAL := al_in (List.mem_of_getElem? (i := 790) (by decide +kernel)) rfl
theorem al_215 : Cond.methodLink RL 22 yX7_lend ∈ kAL := al_in (List.mem_of_getElem? (i := 348) (by decide +kernel)) rfl
theorem al_216 : Cond.instanceMethod yX7_lend ∈ kAL := al_in (List.mem_of_getElem? (i := 349) (by decide +kernel)) rfl
theorem al_217 : Cond.selects RX7 yX7_lend yX7_lend ∈ kAL := al_in (List.mem_of_getElem? (i := 350) (by decide +kernel)) rfl
theorem al_218 : Cond.code yX7_lend cX7_lend 4 (some .int) ∈ kAL := al_in (List.mem_of_getElem? (i := 351) (by decide +kernel)) rfl
theorem al_219 : Cond.methodLink RX7 52 yX3_lendQuota ∈ kAL := al_in (List.mem_of_getElem? (i := 352) (by decide +kernel)) rfl
theorem al_220 : Cond.instanceMethod yX3_lendQuota ∈ kAL := al_in (List.mem_of_getElem? (i := 353) (by decide +kernel)) rfl
theorem al_221 : Cond.selects RX3 yX3_lendQuota yX3_lendQuota ∈ kAL := al_in (List.mem_of_getElem? (i := 354) (by decide +kernel)) rfl
theorem al_222 : Cond.code yX3_lendQuota cX3_lendQuota 4 (some .int) ∈ kAL := al_in (List.mem_of_getElem? (i := 355) (by decide +kernel)) rfl
theorem al_223 : Cond.methodLink RL 26 yX8_lend ∈ kAL := al_in (List.mem_of_getElem? (i := 791) (by decide +kernel)) rfl
theorem al_224 : Cond.instanceMethod yX8_lend ∈ kAL := al_in (List.mem_of_getElem? (i := 792) (by decide +kernel)) rfl
theorem al_225 : Cond.selects RX8 yX8_lend yX8_lend ∈ kAL := al_in (List.mem_of_getElem? (i := 793) (by decide +kernel)) rfl
theorem al_226 : Cond.code yX8_lend cX8_lend 5 (some .int) ∈ kAL := al_in (List.mem_of_getElem? (i := 794) (by decide +kernel)) rfl
theorem al_227 : Cond.methodLink RX8 110 yX8_mayLend ∈ kAL := al_in (List.mem_of_getElem? (i := 795) (by decide +kernel)) rfl
theorem al_228 : Cond.instanceMethod yX8_mayLend ∈ kAL := al_in (List.mem_of_getElem? (i := 797) (by decide +kernel)) rfl
theorem al_229 : Cond.selects RX8 yX8_mayLend yX8_mayLend ∈ kAL := al_in (List.mem_of_getElem? (i := 18) (by decide +kernel)) rfl
theorem al_230 : Cond.code yX8_mayLend cX8_mayLend 4 (some .int) ∈ kAL := al_in (List.mem_of_getElem? (i := 798) (by decide +kernel)) rfl
theorem al_231 : Cond.methodLink RX8 114 yX8_lends ∈ kAL := al_in (List.mem_of_getElem? (i := 799) (by decide +kernel)) rfl
theorem al_232 : Cond.instanceMethod yX8_lends ∈ kAL := al_in (List.mem_of_getElem? (i := 801) (by decide +kernel)) rfl
theorem al_233 : Cond.selects RX8 yX8_lends yX8_lends ∈ kAL := al_in (List.mem_of_getElem? (i := 19) (by decide +kernel)) rfl
theorem al_234 : Cond.code yX8_lends cX8_lends 4 (some .int) ∈ kAL := al_in (List.mem_of_getElem? (i := 802) (by decide +kernel)) rfl
theorem al_235 : Cond.methodLink RL 27 yX7_field ∈ kAL := al_in (List.mem_of_getElem? (i := 356) (by decide +kernel)) rfl
theorem al_236 : Cond.instanceMethod yX7_field ∈ kAL := al_in (List.mem_of_getElem? (i := 357) (by decide +kernel)) rfl
theorem al_237 : Cond.selects RX7 yX7_field yX7_field ∈ kAL := al_in (List.mem_of_getElem? (i := 358) (by decide +kernel)) rfl
theorem al_238 : Cond.code yX7_field cX7_field 5 (some .int) ∈ kAL := al_in (List.mem_of_getElem? (i := 359) (by decide +kernel)) rfl
theorem al_239 : Cond.methodLink RX7 56 yX3_addField ∈ kAL := al_in (List.mem_of_getElem? (i := 360) (by decide +kernel)) rfl
theorem al_240 : Cond.instanceMethod yX3_addField ∈ kAL := al_in (List.mem_of_getElem? (i := 361) (by decide +kernel)) rfl
theorem al_241 : Cond.selects RX3 yX3_addField yX3_addField ∈ kAL := al_in (List.mem_of_getElem? (i := 362) (by decide +kernel)) rfl
theorem al_242 : Cond.code yX3_addField cX3_addField 5 (some .int) ∈ kAL := al_in (List.mem_of_getElem? (i := 363) (by decide +kernel)) rfl
theorem al_243 : Cond.methodLink RX3 90 yX0_append ∈ kAL := al_in (List.mem_of_getElem? (i := 364) (by decide +kernel)) rfl
theorem al_244 : Cond.instanceMethod yX0_append ∈ kAL := al_in (List.mem_of_getElem? (i := 365) (by decide +kernel)) rfl
theorem al_245 : Cond.selects RX0 yX0_append yX0_append ∈ kAL := al_in (List.mem_of_getElem? (i := 366) (by decide +kernel)) rfl
theorem al_246 : Cond.code yX0_append cX0_append 6 (some .int) ∈ kAL := al_in (List.mem_of_getElem? (i := 367) (by decide +kernel)) rfl
theorem al_247 : Cond.methodLink RL 31 yX8_field ∈ kAL := al_in (List.mem_of_getElem? (i := 803) (by decide +kernel)) rfl
theorem al_248 : Cond.instanceMethod yX8_field ∈ kAL := al_in (List.mem_of_getElem? (i := 804) (by decide +kernel)) rfl
theorem al_249 : Cond.selects RX8 yX8_field yX8_field ∈ kAL := al_in (List.mem_of_getElem? (i := 805) (by decide +kernel)) rfl
theorem al_250 : Cond.code yX8_field cX8_field 6 (some .int) ∈ kAL := al_in (List.mem_of_getElem? (i := 806) (by decide +kernel)) rfl
theorem al_251 : Cond.methodLink RX8 117 yX8_mayCome ∈ kAL := al_in (List.mem_of_getElem? (i := 807) (by decide +kernel)) rfl
theorem al_252 : Cond.instanceMethod yX8_mayCome ∈ kAL := al_in (List.mem_of_getElem? (i := 809) (by decide +kernel)) rfl
theorem al_253 : Cond.selects RX8 yX8_mayCome yX8_mayCome ∈ kAL := al_in (List.mem_of_getElem? (i := 20) (by decide +kernel)) rfl
theorem al_254 : Cond.code yX8_mayCome cX8_mayCome 5 (some .int) ∈ kAL := al_in (List.mem_of_getElem? (i := 810) (by decide +kernel)) rfl
theorem al_255 : Cond.methodLink RX8 121 yX8_comes ∈ kAL := al_in (List.mem_of_getElem? (i := 811) (by decide +kernel)) rfl
theorem al_256 : Cond.instanceMethod yX8_comes ∈ kAL := al_in (List.mem_of_getElem? (i := 813) (by decide +kernel)) rfl
theorem al_257 : Cond.selects RX8 yX8_comes yX8_comes ∈ kAL := al_in (List.mem_of_getElem? (i := 21) (by decide +kernel)) rfl
theorem al_258 : Cond.code yX8_comes cX8_comes 7 (some .int) ∈ kAL := al_in (List.mem_of_getElem? (i := 814) (by decide +kernel)) rfl
theorem al_259 : Cond.methodLink RL 32 yX7_stop ∈ kAL := al_in (List.mem_of_getElem? (i := 368) (by decide +kernel)) rfl
theorem al_260 : Cond.instanceMethod yX7_stop ∈ kAL := al_in (List.mem_of_getElem? (i := 369) (by decide +kernel)) rfl
theorem al_261 : Cond.selects RX7 yX7_stop yX7_stop ∈ kAL := al_in (List.mem_of_getElem? (i := 370) (by decide +kernel)) rfl
theorem al_262 : Cond.code yX7_stop cX7_stop 3 (some .int) ∈ kAL := al_in (List.mem_of_getElem? (i := 371) (by decide +kernel)) rfl
theorem al_263 : Cond.fieldLink RX7 60 "CaneQuotas$Mill" "stops" "LCaneQuotas$Stops;" ∈ kAL := al_in (List.mem_of_getElem? (i := 187) (by decide +kernel)) rfl
theorem al_264 : Cond.methodLink RX7 64 yX5_addStop ∈ kAL := al_in (List.mem_of_getElem? (i := 372) (by decide +kernel)) rfl
theorem al_265 : Cond.instanceMethod yX5_addStop ∈ kAL := al_in (List.mem_of_getElem? (i := 373) (by decide +kernel)) rfl
theorem al_266 : Cond.selects RX5 yX5_addStop yX5_addStop ∈ kAL := al_in (List.mem_of_getElem? (i := 374) (by decide +kernel)) rfl
theorem al_267 : Cond.code yX5_addStop cX5_addStop 3 (some .int) ∈ kAL := al_in (List.mem_of_getElem? (i := 375) (by decide +kernel)) rfl
theorem al_268 : Cond.methodLink RL 35 yX8_stop ∈ kAL := al_in (List.mem_of_getElem? (i := 815) (by decide +kernel)) rfl
theorem al_269 : Cond.instanceMethod yX8_stop ∈ kAL := al_in (List.mem_of_getElem? (i := 816) (by decide +kernel)) rfl
theorem al_270 : Cond.selects RX8 yX8_stop yX8_stop ∈ kAL := al_in (List.mem_of_getElem? (i := 817) (by decide +kernel)) rfl
theorem al_271 : Cond.code yX8_stop cX8_stop 4 (some .int) ∈ kAL := al_in (List.mem_of_getElem? (i := 818) (by decide +kernel)) rfl
theorem al_272 : Cond.methodLink RX8 127 yX8_mayStop ∈ kAL := al_in (List.mem_of_getElem? (i := 819) (by decide +kernel)) rfl
theorem al_273 : Cond.instanceMethod yX8_mayStop ∈ kAL := al_in (List.mem_of_getElem? (i := 821) (by decide +kernel)) rfl
theorem al_274 : Cond.selects RX8 yX8_mayStop yX8_mayStop ∈ kAL := al_in (List.mem_of_getElem? (i := 22) (by decide +kernel)) rfl
