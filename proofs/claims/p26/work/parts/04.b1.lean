theorem al_11 : Cond.instantiable RX7 5 ∈ kAL := al_in (List.mem_of_getElem? (i := 21) (by decide +kernel)) rfl
theorem al_12 : Cond.initialized RX7 ∈ kAL := al_in (List.mem_of_getElem? (i := 10) (by decide +kernel)) rfl
theorem al_18 : Cond.instanceMethod yX7_init ∈ kAL := al_in (List.mem_of_getElem? (i := 23) (by decide +kernel)) rfl
theorem al_19 : Cond.code yX7_init cX7_init 1 none ∈ kAL := al_in (List.mem_of_getElem? (i := 24) (by decide +kernel)) rfl
theorem al_20 : Cond.methodLink RX7 1 objectInit ∈ kAL := al_in (List.mem_of_getElem? (i := 25) (by decide +kernel)) rfl
theorem al_21 : Cond.instanceMethod objectInit ∈ kAL := al_in (List.mem_of_getElem? (i := 26) (by decide +kernel)) rfl
theorem al_22 : Cond.code objectInit ⟨#[0xb1]⟩ 1 none ∈ kAL := al_in (List.mem_of_getElem? (i := 27) (by decide +kernel)) rfl
theorem al_23 : Cond.classLink RX7 7 RX3 ∈ kAL := al_in (List.mem_of_getElem? (i := 28) (by decide +kernel)) rfl
theorem al_24 : Cond.instantiable RX3 9 ∈ kAL := al_in (List.mem_of_getElem? (i := 29) (by decide +kernel)) rfl
theorem al_25 : Cond.initialized RX3 ∈ kAL := al_in (List.mem_of_getElem? (i := 11) (by decide +kernel)) rfl
theorem al_26 : Cond.fieldLink RX7 10 "CaneQuotas" "mill" "LCaneQuotas$Mill;" ∈ kAL := al_in (List.mem_of_getElem? (i := 224) (by decide +kernel)) rfl
theorem al_27 : Cond.fieldLink RX7 16 "CaneQuotas" "trial" "LCaneQuotas$Mill;" ∈ kAL := al_in (List.mem_of_getElem? (i := 225) (by decide +kernel)) rfl
theorem al_28 : Cond.classLink RX7 19 RX2 ∈ kAL := al_in (List.mem_of_getElem? (i := 182) (by decide +kernel)) rfl
theorem al_29 : Cond.instantiable RX2 3 ∈ kAL := al_in (List.mem_of_getElem? (i := 183) (by decide +kernel)) rfl
theorem al_30 : Cond.initialized RX2 ∈ kAL := al_in (List.mem_of_getElem? (i := 16) (by decide +kernel)) rfl
theorem al_31 : Cond.fieldLink RX7 22 "CaneQuotas" "history" "LCaneQuotas$History;" ∈ kAL := al_in (List.mem_of_getElem? (i := 226) (by decide +kernel)) rfl
theorem al_32 : Cond.fieldLink RX7 26 "CaneQuotas" "slots" "[LCaneQuotas$Mill;" ∈ kAL := al_in (List.mem_of_getElem? (i := 227) (by decide +kernel)) rfl
theorem al_33 : Cond.classLink RX7 30 RX4 ∈ kAL := al_in (List.mem_of_getElem? (i := 201) (by decide +kernel)) rfl
theorem al_34 : Cond.instantiable RX4 6 ∈ kAL := al_in (List.mem_of_getElem? (i := 202) (by decide +kernel)) rfl
theorem al_35 : Cond.initialized RX4 ∈ kAL := al_in (List.mem_of_getElem? (i := 17) (by decide +kernel)) rfl
theorem al_36 : Cond.fieldLink RX7 33 "CaneQuotas" "pad" "LCaneQuotas$Pad;" ∈ kAL := al_in (List.mem_of_getElem? (i := 228) (by decide +kernel)) rfl
theorem al_37 : Cond.instanceMethod yX3_init ∈ kAL := al_in (List.mem_of_getElem? (i := 31) (by decide +kernel)) rfl
theorem al_38 : Cond.code yX3_init cX3_init 1 none ∈ kAL := al_in (List.mem_of_getElem? (i := 32) (by decide +kernel)) rfl
theorem al_39 : Cond.methodLink RX3 3 objectInit ∈ kAL := al_in (List.mem_of_getElem? (i := 33) (by decide +kernel)) rfl
theorem al_40 : Cond.arrayClass .int ∈ kAL := al_in (List.mem_of_getElem? (i := 61) (by decide +kernel)) rfl
theorem al_41 : Cond.fieldLink RX3 9 "CaneQuotas$Mill" "settings" "[I" ∈ kAL := al_in (List.mem_of_getElem? (i := 148) (by decide +kernel)) rfl
theorem al_42 : Cond.classLink RX3 15 RX1 ∈ kAL := al_in (List.mem_of_getElem? (i := 34) (by decide +kernel)) rfl
theorem al_43 : Cond.instantiable RX1 5 ∈ kAL := al_in (List.mem_of_getElem? (i := 35) (by decide +kernel)) rfl
theorem al_44 : Cond.initialized RX1 ∈ kAL := al_in (List.mem_of_getElem? (i := 12) (by decide +kernel)) rfl
theorem al_45 : Cond.fieldLink RX3 18 "CaneQuotas$Mill" "growers" "LCaneQuotas$Growers;" ∈ kAL := al_in (List.mem_of_getElem? (i := 149) (by decide +kernel)) rfl
theorem al_46 : Cond.classLink RX3 22 RX0 ∈ kAL := al_in (List.mem_of_getElem? (i := 62) (by decide +kernel)) rfl
theorem al_47 : Cond.instantiable RX0 9 ∈ kAL := al_in (List.mem_of_getElem? (i := 63) (by decide +kernel)) rfl
theorem al_48 : Cond.initialized RX0 ∈ kAL := al_in (List.mem_of_getElem? (i := 13) (by decide +kernel)) rfl
theorem al_49 : Cond.fieldLink RX3 25 "CaneQuotas$Mill" "fields" "LCaneQuotas$Fields;" ∈ kAL := al_in (List.mem_of_getElem? (i := 151) (by decide +kernel)) rfl
theorem al_50 : Cond.classLink RX3 29 RX5 ∈ kAL := al_in (List.mem_of_getElem? (i := 105) (by decide +kernel)) rfl
theorem al_51 : Cond.instantiable RX5 3 ∈ kAL := al_in (List.mem_of_getElem? (i := 106) (by decide +kernel)) rfl
theorem al_52 : Cond.initialized RX5 ∈ kAL := al_in (List.mem_of_getElem? (i := 14) (by decide +kernel)) rfl
theorem al_53 : Cond.fieldLink RX3 32 "CaneQuotas$Mill" "stops" "LCaneQuotas$Stops;" ∈ kAL := al_in (List.mem_of_getElem? (i := 153) (by decide +kernel)) rfl
theorem al_54 : Cond.classLink RX3 36 RX6 ∈ kAL := al_in (List.mem_of_getElem? (i := 122) (by decide +kernel)) rfl
theorem al_55 : Cond.instantiable RX6 5 ∈ kAL := al_in (List.mem_of_getElem? (i := 123) (by decide +kernel)) rfl
theorem al_56 : Cond.initialized RX6 ∈ kAL := al_in (List.mem_of_getElem? (i := 15) (by decide +kernel)) rfl
theorem al_57 : Cond.fieldLink RX3 39 "CaneQuotas$Mill" "yard" "LCaneQuotas$Yard;" ∈ kAL := al_in (List.mem_of_getElem? (i := 155) (by decide +kernel)) rfl
theorem al_58 : Cond.instanceMethod yX1_init ∈ kAL := al_in (List.mem_of_getElem? (i := 37) (by decide +kernel)) rfl
theorem al_59 : Cond.code yX1_init cX1_init 1 none ∈ kAL := al_in (List.mem_of_getElem? (i := 38) (by decide +kernel)) rfl
theorem al_60 : Cond.methodLink RX1 3 objectInit ∈ kAL := al_in (List.mem_of_getElem? (i := 39) (by decide +kernel)) rfl
theorem al_61 : Cond.fieldLink RX1 9 "CaneQuotas$Growers" "quota" "[I" ∈ kAL := al_in (List.mem_of_getElem? (i := 40) (by decide +kernel)) rfl
theorem al_62 : Cond.fieldLink RX1 15 "CaneQuotas$Growers" "brought" "[I" ∈ kAL := al_in (List.mem_of_getElem? (i := 42) (by decide +kernel)) rfl
theorem al_63 : Cond.fieldLink RX1 18 "CaneQuotas$Growers" "crushed" "[I" ∈ kAL := al_in (List.mem_of_getElem? (i := 44) (by decide +kernel)) rfl
theorem al_64 : Cond.fieldLink RX1 21 "CaneQuotas$Growers" "lost" "[I" ∈ kAL := al_in (List.mem_of_getElem? (i := 46) (by decide +kernel)) rfl
theorem al_65 : Cond.fieldLink RX1 24 "CaneQuotas$Growers" "paid" "[I" ∈ kAL := al_in (List.mem_of_getElem? (i := 48) (by decide +kernel)) rfl
theorem al_66 : Cond.instanceMethod yX0_init ∈ kAL := al_in (List.mem_of_getElem? (i := 65) (by decide +kernel)) rfl
theorem al_67 : Cond.code yX0_init cX0_init 1 none ∈ kAL := al_in (List.mem_of_getElem? (i := 66) (by decide +kernel)) rfl
theorem al_68 : Cond.methodLink RX0 3 objectInit ∈ kAL := al_in (List.mem_of_getElem? (i := 67) (by decide +kernel)) rfl
theorem al_69 : Cond.fieldLink RX0 9 "CaneQuotas$Fields" "grower" "[I" ∈ kAL := al_in (List.mem_of_getElem? (i := 68) (by decide +kernel)) rfl
theorem al_70 : Cond.fieldLink RX0 15 "CaneQuotas$Fields" "tonnes" "[I" ∈ kAL := al_in (List.mem_of_getElem? (i := 70) (by decide +kernel)) rfl
theorem al_71 : Cond.fieldLink RX0 18 "CaneQuotas$Fields" "purity" "[I" ∈ kAL := al_in (List.mem_of_getElem? (i := 72) (by decide +kernel)) rfl
theorem al_72 : Cond.fieldLink RX0 21 "CaneQuotas$Fields" "burnt" "[I" ∈ kAL := al_in (List.mem_of_getElem? (i := 74) (by decide +kernel)) rfl
theorem al_73 : Cond.fieldLink RX0 24 "CaneQuotas$Fields" "left" "[I" ∈ kAL := al_in (List.mem_of_getElem? (i := 76) (by decide +kernel)) rfl
theorem al_74 : Cond.fieldLink RX0 27 "CaneQuotas$Fields" "inYard" "[I" ∈ kAL := al_in (List.mem_of_getElem? (i := 78) (by decide +kernel)) rfl
theorem al_75 : Cond.fieldLink RX0 30 "CaneQuotas$Fields" "crushed" "[I" ∈ kAL := al_in (List.mem_of_getElem? (i := 80) (by decide +kernel)) rfl
theorem al_76 : Cond.fieldLink RX0 33 "CaneQuotas$Fields" "lost" "[I" ∈ kAL := al_in (List.mem_of_getElem? (i := 82) (by decide +kernel)) rfl
theorem al_77 : Cond.instanceMethod yX5_init ∈ kAL := al_in (List.mem_of_getElem? (i := 108) (by decide +kernel)) rfl
theorem al_78 : Cond.code yX5_init cX5_init 1 none ∈ kAL := al_in (List.mem_of_getElem? (i := 109) (by decide +kernel)) rfl
theorem al_79 : Cond.methodLink RX5 3 objectInit ∈ kAL := al_in (List.mem_of_getElem? (i := 110) (by decide +kernel)) rfl
theorem al_80 : Cond.fieldLink RX5 9 "CaneQuotas$Stops" "first" "[I" ∈ kAL := al_in (List.mem_of_getElem? (i := 111) (by decide +kernel)) rfl
theorem al_81 : Cond.fieldLink RX5 15 "CaneQuotas$Stops" "last" "[I" ∈ kAL := al_in (List.mem_of_getElem? (i := 112) (by decide +kernel)) rfl
theorem al_82 : Cond.instanceMethod yX6_init ∈ kAL := al_in (List.mem_of_getElem? (i := 125) (by decide +kernel)) rfl
theorem al_83 : Cond.code yX6_init cX6_init 1 none ∈ kAL := al_in (List.mem_of_getElem? (i := 126) (by decide +kernel)) rfl
theorem al_84 : Cond.methodLink RX6 3 objectInit ∈ kAL := al_in (List.mem_of_getElem? (i := 127) (by decide +kernel)) rfl
theorem al_85 : Cond.fieldLink RX6 9 "CaneQuotas$Yard" "field" "[I" ∈ kAL := al_in (List.mem_of_getElem? (i := 128) (by decide +kernel)) rfl
theorem al_86 : Cond.fieldLink RX6 15 "CaneQuotas$Yard" "tonnes" "[I" ∈ kAL := al_in (List.mem_of_getElem? (i := 130) (by decide +kernel)) rfl
theorem al_87 : Cond.fieldLink RX6 18 "CaneQuotas$Yard" "day" "[I" ∈ kAL := al_in (List.mem_of_getElem? (i := 132) (by decide +kernel)) rfl
theorem al_88 : Cond.instanceMethod yX2_init ∈ kAL := al_in (List.mem_of_getElem? (i := 185) (by decide +kernel)) rfl
theorem al_89 : Cond.code yX2_init cX2_init 1 none ∈ kAL := al_in (List.mem_of_getElem? (i := 186) (by decide +kernel)) rfl
theorem al_90 : Cond.methodLink RX2 3 objectInit ∈ kAL := al_in (List.mem_of_getElem? (i := 187) (by decide +kernel)) rfl
theorem al_91 : Cond.classLink RX2 11 RX3 ∈ kAL := al_in (List.mem_of_getElem? (i := 188) (by decide +kernel)) rfl
theorem al_92 : Cond.fieldLink RX2 13 "CaneQuotas$History" "states" "[LCaneQuotas$Mill;" ∈ kAL := al_in (List.mem_of_getElem? (i := 190) (by decide +kernel)) rfl
theorem al_93 : Cond.instanceMethod yX4_init ∈ kAL := al_in (List.mem_of_getElem? (i := 204) (by decide +kernel)) rfl
theorem al_94 : Cond.code yX4_init cX4_init 1 none ∈ kAL := al_in (List.mem_of_getElem? (i := 205) (by decide +kernel)) rfl
theorem al_95 : Cond.methodLink RX4 3 objectInit ∈ kAL := al_in (List.mem_of_getElem? (i := 206) (by decide +kernel)) rfl
theorem al_96 : Cond.arrayClass .char ∈ kAL := al_in (List.mem_of_getElem? (i := 223) (by decide +kernel)) rfl
theorem al_97 : Cond.fieldLink RX4 9 "CaneQuotas$Pad" "signs" "[C" ∈ kAL := al_in (List.mem_of_getElem? (i := 207) (by decide +kernel)) rfl
theorem al_98 : Cond.fieldLink RX4 15 "CaneQuotas$Pad" "values" "[I" ∈ kAL := al_in (List.mem_of_getElem? (i := 209) (by decide +kernel)) rfl
theorem al_112 : Cond.instanceMethod yX7_set ∈ kAL := al_in (List.mem_of_getElem? (i := 508) (by decide +kernel)) rfl
theorem al_113 : Cond.selects RX7 yX7_set yX7_set ∈ kAL := al_in (List.mem_of_getElem? (i := 509) (by decide +kernel)) rfl
theorem al_114 : Cond.code yX7_set cX7_set 3 (some .int) ∈ kAL := al_in (List.mem_of_getElem? (i := 510) (by decide +kernel)) rfl
theorem al_115 : Cond.methodLink RX7 37 yX2_prepare ∈ kAL := al_in (List.mem_of_getElem? (i := 457) (by decide +kernel)) rfl
theorem al_116 : Cond.instanceMethod yX2_prepare ∈ kAL := al_in (List.mem_of_getElem? (i := 458) (by decide +kernel)) rfl
theorem al_117 : Cond.selects RX2 yX2_prepare yX2_prepare ∈ kAL := al_in (List.mem_of_getElem? (i := 459) (by decide +kernel)) rfl
theorem al_118 : Cond.code yX2_prepare cX2_prepare 4 none ∈ kAL := al_in (List.mem_of_getElem? (i := 460) (by decide +kernel)) rfl
theorem al_119 : Cond.fieldLink RX2 17 "CaneQuotas$History" "oldest" "I" ∈ kAL := al_in (List.mem_of_getElem? (i := 191) (by decide +kernel)) rfl
theorem al_120 : Cond.fieldLink RX2 21 "CaneQuotas$History" "size" "I" ∈ kAL := al_in (List.mem_of_getElem? (i := 192) (by decide +kernel)) rfl
theorem al_121 : Cond.methodLink RX2 25 yX3_copyFrom ∈ kAL := al_in (List.mem_of_getElem? (i := 462) (by decide +kernel)) rfl
theorem al_122 : Cond.instanceMethod yX3_copyFrom ∈ kAL := al_in (List.mem_of_getElem? (i := 355) (by decide +kernel)) rfl
theorem al_123 : Cond.selects RX3 yX3_copyFrom yX3_copyFrom ∈ kAL := al_in (List.mem_of_getElem? (i := 356) (by decide +kernel)) rfl
theorem al_124 : Cond.code yX3_copyFrom cX3_copyFrom 2 none ∈ kAL := al_in (List.mem_of_getElem? (i := 357) (by decide +kernel)) rfl
theorem al_125 : Cond.fieldLink RX3 60 "CaneQuotas$Mill" "now" "I" ∈ kAL := al_in (List.mem_of_getElem? (i := 157) (by decide +kernel)) rfl
theorem al_126 : Cond.fieldLink RX3 64 "CaneQuotas$Mill" "sugar" "I" ∈ kAL := al_in (List.mem_of_getElem? (i := 159) (by decide +kernel)) rfl
theorem al_127 : Cond.fieldLink RX3 67 "CaneQuotas$Mill" "loadsBrought" "I" ∈ kAL := al_in (List.mem_of_getElem? (i := 161) (by decide +kernel)) rfl
theorem al_128 : Cond.fieldLink RX3 70 "CaneQuotas$Mill" "stoppedDays" "I" ∈ kAL := al_in (List.mem_of_getElem? (i := 162) (by decide +kernel)) rfl
theorem al_129 : Cond.static yX7_copyRow ∈ kAL := al_in (List.mem_of_getElem? (i := 359) (by decide +kernel)) rfl
theorem al_130 : Cond.code yX7_copyRow cX7_copyRow 3 none ∈ kAL := al_in (List.mem_of_getElem? (i := 360) (by decide +kernel)) rfl
theorem al_131 : Cond.methodLink RX7 195 Lib.Math.min.name ∈ kAL := al_in (List.mem_of_getElem? (i := 361) (by decide +kernel)) rfl
theorem al_132 : Cond.static Lib.Math.min.name ∈ kAL := al_in (List.mem_of_getElem? (i := 362) (by decide +kernel)) rfl
theorem al_133 : Cond.initialized "java/lang/Math" ∈ kAL := al_in (List.mem_of_getElem? (i := 18) (by decide +kernel)) rfl
theorem al_134 : Cond.code Lib.Math.min.name Lib.Math.min.code 2 (some .int) ∈ kAL := al_in (List.mem_of_getElem? (i := 363) (by decide +kernel)) rfl
theorem al_135 : Cond.methodLink RX7 200 arraycopyName ∈ kAL := al_in (List.mem_of_getElem? (i := 364) (by decide +kernel)) rfl
theorem al_136 : Cond.native arraycopyName ∈ kAL := al_in (List.mem_of_getElem? (i := 366) (by decide +kernel)) rfl
theorem al_137 : Cond.static arraycopyName ∈ kAL := al_in (List.mem_of_getElem? (i := 365) (by decide +kernel)) rfl
theorem al_138 : Cond.initialized "java/lang/System" ∈ kAL := al_in (List.mem_of_getElem? (i := 19) (by decide +kernel)) rfl
theorem al_139 : Cond.methodLink RX3 47 yX1_copyFrom ∈ kAL := al_in (List.mem_of_getElem? (i := 367) (by decide +kernel)) rfl
theorem al_140 : Cond.instanceMethod yX1_copyFrom ∈ kAL := al_in (List.mem_of_getElem? (i := 368) (by decide +kernel)) rfl
theorem al_141 : Cond.selects RX1 yX1_copyFrom yX1_copyFrom ∈ kAL := al_in (List.mem_of_getElem? (i := 369) (by decide +kernel)) rfl
theorem al_142 : Cond.code yX1_copyFrom cX1_copyFrom 2 none ∈ kAL := al_in (List.mem_of_getElem? (i := 370) (by decide +kernel)) rfl
theorem al_143 : Cond.methodLink RX3 51 yX0_copyFrom ∈ kAL := al_in (List.mem_of_getElem? (i := 372) (by decide +kernel)) rfl
theorem al_144 : Cond.instanceMethod yX0_copyFrom ∈ kAL := al_in (List.mem_of_getElem? (i := 373) (by decide +kernel)) rfl
theorem al_145 : Cond.selects RX0 yX0_copyFrom yX0_copyFrom ∈ kAL := al_in (List.mem_of_getElem? (i := 374) (by decide +kernel)) rfl
theorem al_146 : Cond.code yX0_copyFrom cX0_copyFrom 2 none ∈ kAL := al_in (List.mem_of_getElem? (i := 375) (by decide +kernel)) rfl
theorem al_147 : Cond.fieldLink RX0 36 "CaneQuotas$Fields" "count" "I" ∈ kAL := al_in (List.mem_of_getElem? (i := 84) (by decide +kernel)) rfl
theorem al_148 : Cond.methodLink RX3 54 yX5_copyFrom ∈ kAL := al_in (List.mem_of_getElem? (i := 377) (by decide +kernel)) rfl
theorem al_149 : Cond.instanceMethod yX5_copyFrom ∈ kAL := al_in (List.mem_of_getElem? (i := 378) (by decide +kernel)) rfl
theorem al_150 : Cond.selects RX5 yX5_copyFrom yX5_copyFrom ∈ kAL := al_in (List.mem_of_getElem? (i := 379) (by decide +kernel)) rfl
theorem al_151 : Cond.code yX5_copyFrom cX5_copyFrom 2 none ∈ kAL := al_in (List.mem_of_getElem? (i := 380) (by decide +kernel)) rfl
theorem al_152 : Cond.fieldLink RX5 18 "CaneQuotas$Stops" "count" "I" ∈ kAL := al_in (List.mem_of_getElem? (i := 113) (by decide +kernel)) rfl
theorem al_153 : Cond.methodLink RX3 57 yX6_copyFrom ∈ kAL := al_in (List.mem_of_getElem? (i := 382) (by decide +kernel)) rfl
theorem al_154 : Cond.instanceMethod yX6_copyFrom ∈ kAL := al_in (List.mem_of_getElem? (i := 383) (by decide +kernel)) rfl
theorem al_155 : Cond.selects RX6 yX6_copyFrom yX6_copyFrom ∈ kAL := al_in (List.mem_of_getElem? (i := 384) (by decide +kernel)) rfl
theorem al_156 : Cond.code yX6_copyFrom cX6_copyFrom 2 none ∈ kAL := al_in (List.mem_of_getElem? (i := 385) (by decide +kernel)) rfl
theorem al_157 : Cond.fieldLink RX6 21 "CaneQuotas$Yard" "loads" "I" ∈ kAL := al_in (List.mem_of_getElem? (i := 133) (by decide +kernel)) rfl
theorem al_158 : Cond.fieldLink RX6 25 "CaneQuotas$Yard" "total" "I" ∈ kAL := al_in (List.mem_of_getElem? (i := 135) (by decide +kernel)) rfl
theorem al_159 : Cond.methodLink RX7 41 yX3_changeSetting ∈ kAL := al_in (List.mem_of_getElem? (i := 511) (by decide +kernel)) rfl
theorem al_160 : Cond.instanceMethod yX3_changeSetting ∈ kAL := al_in (List.mem_of_getElem? (i := 512) (by decide +kernel)) rfl
theorem al_161 : Cond.selects RX3 yX3_changeSetting yX3_changeSetting ∈ kAL := al_in (List.mem_of_getElem? (i := 513) (by decide +kernel)) rfl
theorem al_162 : Cond.code yX3_changeSetting cX3_changeSetting 4 (some .int) ∈ kAL := al_in (List.mem_of_getElem? (i := 514) (by decide +kernel)) rfl
theorem al_163 : Cond.fieldLink RX3 77 "CaneQuotas$Mill" "LEAST" "[I" ∈ kAL := al_in (List.mem_of_getElem? (i := 515) (by decide +kernel)) rfl
