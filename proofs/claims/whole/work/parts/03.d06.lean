theorem dX8_isSign_3 : decode cX8_isSign 3 = .ok (.invokevirtual 166, 3) := by decide +kernel
theorem dX8_isSign_6 : decode cX8_isSign 6 = .ok (.istore_n 2, 1) := by decide +kernel
theorem dX8_isSign_7 : decode cX8_isSign 7 = .ok (.aload_n 0, 1) := by decide +kernel
theorem dX8_isSign_8 : decode cX8_isSign 8 = .ok (.dup, 1) := by decide +kernel
theorem dX8_isSign_9 : decode cX8_isSign 9 = .ok (.getfield 163, 3) := by decide +kernel
theorem dX8_isSign_12 : decode cX8_isSign 12 = .ok (.iload_n 2, 1) := by decide +kernel
theorem dX8_isSign_13 : decode cX8_isSign 13 = .ok (.ifCond .eq 7, 3) := by decide +kernel
theorem dX8_isSign_16 : decode cX8_isSign 16 = .ok (.iconst 1, 1) := by decide +kernel
theorem dX8_isSign_17 : decode cX8_isSign 17 = .ok (.goto 4, 3) := by decide +kernel
theorem dX8_isSign_20 : decode cX8_isSign 20 = .ok (.iconst 0, 1) := by decide +kernel
theorem dX8_isSign_21 : decode cX8_isSign 21 = .ok (.iadd, 1) := by decide +kernel
theorem dX8_isSign_22 : decode cX8_isSign 22 = .ok (.putfield 163, 3) := by decide +kernel
theorem dX8_isSign_25 : decode cX8_isSign 25 = .ok (.iload_n 2, 1) := by decide +kernel
theorem dX8_isSign_26 : decode cX8_isSign 26 = .ok (.ireturn, 1) := by decide +kernel
theorem dX8_isNumber_0 : decode cX8_isNumber 0 = .ok (.aload_n 0, 1) := by decide +kernel
theorem dX8_isNumber_1 : decode cX8_isNumber 1 = .ok (.bipush 48, 2) := by decide +kernel
theorem dX8_isNumber_3 : decode cX8_isNumber 3 = .ok (.bipush 57, 2) := by decide +kernel
theorem dX8_isNumber_5 : decode cX8_isNumber 5 = .ok (.invokevirtual 166, 3) := by decide +kernel
theorem dX8_isNumber_8 : decode cX8_isNumber 8 = .ok (.ifCond .ne 5, 3) := by decide +kernel
theorem dX8_isNumber_11 : decode cX8_isNumber 11 = .ok (.iconst 0, 1) := by decide +kernel
theorem dX8_isNumber_12 : decode cX8_isNumber 12 = .ok (.ireturn, 1) := by decide +kernel
theorem dX8_isNumber_13 : decode cX8_isNumber 13 = .ok (.aload_n 0, 1) := by decide +kernel
theorem dX8_isNumber_14 : decode cX8_isNumber 14 = .ok (.getfield 26, 3) := by decide +kernel
theorem dX8_isNumber_17 : decode cX8_isNumber 17 = .ok (.aload_n 0, 1) := by decide +kernel
theorem dX8_isNumber_18 : decode cX8_isNumber 18 = .ok (.getfield 163, 3) := by decide +kernel
theorem dX8_isNumber_21 : decode cX8_isNumber 21 = .ok (.iaload, 1) := by decide +kernel
theorem dX8_isNumber_22 : decode cX8_isNumber 22 = .ok (.bipush 48, 2) := by decide +kernel
theorem dX8_isNumber_24 : decode cX8_isNumber 24 = .ok (.isub, 1) := by decide +kernel
theorem dX8_isNumber_25 : decode cX8_isNumber 25 = .ok (.istore_n 2, 1) := by decide +kernel
theorem dX8_isNumber_26 : decode cX8_isNumber 26 = .ok (.aload_n 0, 1) := by decide +kernel
theorem dX8_isNumber_27 : decode cX8_isNumber 27 = .ok (.dup, 1) := by decide +kernel
theorem dX8_isNumber_28 : decode cX8_isNumber 28 = .ok (.getfield 163, 3) := by decide +kernel
theorem dX8_isNumber_31 : decode cX8_isNumber 31 = .ok (.iconst 1, 1) := by decide +kernel
theorem dX8_isNumber_32 : decode cX8_isNumber 32 = .ok (.iadd, 1) := by decide +kernel
theorem dX8_isNumber_33 : decode cX8_isNumber 33 = .ok (.putfield 163, 3) := by decide +kernel
theorem dX8_isNumber_36 : decode cX8_isNumber 36 = .ok (.iload_n 2, 1) := by decide +kernel
theorem dX8_isNumber_37 : decode cX8_isNumber 37 = .ok (.ifCond .le 52, 3) := by decide +kernel
theorem dX8_isNumber_40 : decode cX8_isNumber 40 = .ok (.iload_n 2, 1) := by decide +kernel
theorem dX8_isNumber_41 : decode cX8_isNumber 41 = .ok (.sipush 1000, 3) := by decide +kernel
theorem dX8_isNumber_44 : decode cX8_isNumber 44 = .ok (.if_icmp .ge 45, 3) := by decide +kernel
theorem dX8_isNumber_47 : decode cX8_isNumber 47 = .ok (.aload_n 0, 1) := by decide +kernel
theorem dX8_isNumber_48 : decode cX8_isNumber 48 = .ok (.bipush 48, 2) := by decide +kernel
theorem dX8_isNumber_50 : decode cX8_isNumber 50 = .ok (.bipush 57, 2) := by decide +kernel
theorem dX8_isNumber_52 : decode cX8_isNumber 52 = .ok (.invokevirtual 166, 3) := by decide +kernel
theorem dX8_isNumber_55 : decode cX8_isNumber 55 = .ok (.ifCond .eq 34, 3) := by decide +kernel
theorem dX8_isNumber_58 : decode cX8_isNumber 58 = .ok (.bipush 10, 2) := by decide +kernel
theorem dX8_isNumber_60 : decode cX8_isNumber 60 = .ok (.iload_n 2, 1) := by decide +kernel
theorem dX8_isNumber_61 : decode cX8_isNumber 61 = .ok (.imul, 1) := by decide +kernel
theorem dX8_isNumber_62 : decode cX8_isNumber 62 = .ok (.aload_n 0, 1) := by decide +kernel
theorem dX8_isNumber_63 : decode cX8_isNumber 63 = .ok (.getfield 26, 3) := by decide +kernel
theorem dX8_isNumber_66 : decode cX8_isNumber 66 = .ok (.aload_n 0, 1) := by decide +kernel
theorem dX8_isNumber_67 : decode cX8_isNumber 67 = .ok (.getfield 163, 3) := by decide +kernel
theorem dX8_isNumber_70 : decode cX8_isNumber 70 = .ok (.iaload, 1) := by decide +kernel
theorem dX8_isNumber_71 : decode cX8_isNumber 71 = .ok (.iadd, 1) := by decide +kernel
theorem dX8_isNumber_72 : decode cX8_isNumber 72 = .ok (.bipush 48, 2) := by decide +kernel
theorem dX8_isNumber_74 : decode cX8_isNumber 74 = .ok (.isub, 1) := by decide +kernel
theorem dX8_isNumber_75 : decode cX8_isNumber 75 = .ok (.istore_n 2, 1) := by decide +kernel
theorem dX8_isNumber_76 : decode cX8_isNumber 76 = .ok (.aload_n 0, 1) := by decide +kernel
theorem dX8_isNumber_77 : decode cX8_isNumber 77 = .ok (.dup, 1) := by decide +kernel
theorem dX8_isNumber_78 : decode cX8_isNumber 78 = .ok (.getfield 163, 3) := by decide +kernel
theorem dX8_isNumber_81 : decode cX8_isNumber 81 = .ok (.iconst 1, 1) := by decide +kernel
theorem dX8_isNumber_82 : decode cX8_isNumber 82 = .ok (.iadd, 1) := by decide +kernel
theorem dX8_isNumber_83 : decode cX8_isNumber 83 = .ok (.putfield 163, 3) := by decide +kernel
theorem dX8_isNumber_86 : decode cX8_isNumber 86 = .ok (.goto (-50), 3) := by decide +kernel
theorem dX8_isNumber_89 : decode cX8_isNumber 89 = .ok (.aload_n 0, 1) := by decide +kernel
theorem dX8_isNumber_90 : decode cX8_isNumber 90 = .ok (.getfield 29, 3) := by decide +kernel
theorem dX8_isNumber_93 : decode cX8_isNumber 93 = .ok (.iconst 5, 1) := by decide +kernel
theorem dX8_isNumber_94 : decode cX8_isNumber 94 = .ok (.aload_n 0, 1) := by decide +kernel
theorem dX8_isNumber_95 : decode cX8_isNumber 95 = .ok (.getfield 169, 3) := by decide +kernel
theorem dX8_isNumber_98 : decode cX8_isNumber 98 = .ok (.imul, 1) := by decide +kernel
theorem dX8_isNumber_99 : decode cX8_isNumber 99 = .ok (.iload_n 1, 1) := by decide +kernel
theorem dX8_isNumber_100 : decode cX8_isNumber 100 = .ok (.iadd, 1) := by decide +kernel
theorem dX8_isNumber_101 : decode cX8_isNumber 101 = .ok (.iload_n 2, 1) := by decide +kernel
theorem dX8_isNumber_102 : decode cX8_isNumber 102 = .ok (.iastore, 1) := by decide +kernel
theorem dX8_isNumber_103 : decode cX8_isNumber 103 = .ok (.iconst 1, 1) := by decide +kernel
theorem dX8_isNumber_104 : decode cX8_isNumber 104 = .ok (.ireturn, 1) := by decide +kernel
theorem dX8_isDigit_0 : decode cX8_isDigit 0 = .ok (.aload_n 0, 1) := by decide +kernel
theorem dX8_isDigit_1 : decode cX8_isDigit 1 = .ok (.bipush 48, 2) := by decide +kernel
theorem dX8_isDigit_3 : decode cX8_isDigit 3 = .ok (.bipush 53, 2) := by decide +kernel
theorem dX8_isDigit_5 : decode cX8_isDigit 5 = .ok (.invokevirtual 166, 3) := by decide +kernel
theorem dX8_isDigit_8 : decode cX8_isDigit 8 = .ok (.ifCond .ne 5, 3) := by decide +kernel
theorem dX8_isDigit_11 : decode cX8_isDigit 11 = .ok (.iconst 0, 1) := by decide +kernel
theorem dX8_isDigit_12 : decode cX8_isDigit 12 = .ok (.ireturn, 1) := by decide +kernel
theorem dX8_isDigit_13 : decode cX8_isDigit 13 = .ok (.aload_n 0, 1) := by decide +kernel
theorem dX8_isDigit_14 : decode cX8_isDigit 14 = .ok (.getfield 29, 3) := by decide +kernel
theorem dX8_isDigit_17 : decode cX8_isDigit 17 = .ok (.iconst 5, 1) := by decide +kernel
theorem dX8_isDigit_18 : decode cX8_isDigit 18 = .ok (.aload_n 0, 1) := by decide +kernel
theorem dX8_isDigit_19 : decode cX8_isDigit 19 = .ok (.getfield 169, 3) := by decide +kernel
theorem dX8_isDigit_22 : decode cX8_isDigit 22 = .ok (.imul, 1) := by decide +kernel
theorem dX8_isDigit_23 : decode cX8_isDigit 23 = .ok (.iload_n 1, 1) := by decide +kernel
theorem dX8_isDigit_24 : decode cX8_isDigit 24 = .ok (.iadd, 1) := by decide +kernel
theorem dX8_isDigit_25 : decode cX8_isDigit 25 = .ok (.aload_n 0, 1) := by decide +kernel
theorem dX8_isDigit_26 : decode cX8_isDigit 26 = .ok (.getfield 26, 3) := by decide +kernel
theorem dX8_isDigit_29 : decode cX8_isDigit 29 = .ok (.aload_n 0, 1) := by decide +kernel
theorem dX8_isDigit_30 : decode cX8_isDigit 30 = .ok (.getfield 163, 3) := by decide +kernel
theorem dX8_isDigit_33 : decode cX8_isDigit 33 = .ok (.iaload, 1) := by decide +kernel
theorem dX8_isDigit_34 : decode cX8_isDigit 34 = .ok (.bipush 48, 2) := by decide +kernel
theorem dX8_isDigit_36 : decode cX8_isDigit 36 = .ok (.isub, 1) := by decide +kernel
theorem dX8_isDigit_37 : decode cX8_isDigit 37 = .ok (.iastore, 1) := by decide +kernel
theorem dX8_isDigit_38 : decode cX8_isDigit 38 = .ok (.aload_n 0, 1) := by decide +kernel
theorem dX8_isDigit_39 : decode cX8_isDigit 39 = .ok (.dup, 1) := by decide +kernel
theorem dX8_isDigit_40 : decode cX8_isDigit 40 = .ok (.getfield 163, 3) := by decide +kernel
theorem dX8_isDigit_43 : decode cX8_isDigit 43 = .ok (.iconst 1, 1) := by decide +kernel
theorem dX8_isDigit_44 : decode cX8_isDigit 44 = .ok (.iadd, 1) := by decide +kernel
theorem dX8_isDigit_45 : decode cX8_isDigit 45 = .ok (.putfield 163, 3) := by decide +kernel
theorem dX8_isDigit_48 : decode cX8_isDigit 48 = .ok (.iconst 1, 1) := by decide +kernel
theorem dX8_isDigit_49 : decode cX8_isDigit 49 = .ok (.ireturn, 1) := by decide +kernel
theorem dX8_isOrder_0 : decode cX8_isOrder 0 = .ok (.aload_n 0, 1) := by decide +kernel
theorem dX8_isOrder_1 : decode cX8_isOrder 1 = .ok (.getfield 163, 3) := by decide +kernel
theorem dX8_isOrder_4 : decode cX8_isOrder 4 = .ok (.aload_n 0, 1) := by decide +kernel
theorem dX8_isOrder_5 : decode cX8_isOrder 5 = .ok (.getfield 143, 3) := by decide +kernel
theorem dX8_isOrder_8 : decode cX8_isOrder 8 = .ok (.if_icmp .ge 15, 3) := by decide +kernel
theorem dX8_isOrder_11 : decode cX8_isOrder 11 = .ok (.aload_n 0, 1) := by decide +kernel
theorem dX8_isOrder_12 : decode cX8_isOrder 12 = .ok (.getfield 26, 3) := by decide +kernel
theorem dX8_isOrder_15 : decode cX8_isOrder 15 = .ok (.aload_n 0, 1) := by decide +kernel
theorem dX8_isOrder_16 : decode cX8_isOrder 16 = .ok (.getfield 163, 3) := by decide +kernel
theorem dX8_isOrder_19 : decode cX8_isOrder 19 = .ok (.iaload, 1) := by decide +kernel
theorem dX8_isOrder_20 : decode cX8_isOrder 20 = .ok (.goto 4, 3) := by decide +kernel
theorem dX8_isOrder_23 : decode cX8_isOrder 23 = .ok (.iconst 0, 1) := by decide +kernel
theorem dX8_isOrder_24 : decode cX8_isOrder 24 = .ok (.istore_n 1, 1) := by decide +kernel
theorem dX8_isOrder_25 : decode cX8_isOrder 25 = .ok (.aload_n 0, 1) := by decide +kernel
theorem dX8_isOrder_26 : decode cX8_isOrder 26 = .ok (.getfield 29, 3) := by decide +kernel
theorem dX8_isOrder_29 : decode cX8_isOrder 29 = .ok (.iconst 5, 1) := by decide +kernel
theorem dX8_isOrder_30 : decode cX8_isOrder 30 = .ok (.aload_n 0, 1) := by decide +kernel
theorem dX8_isOrder_31 : decode cX8_isOrder 31 = .ok (.getfield 169, 3) := by decide +kernel
theorem dX8_isOrder_34 : decode cX8_isOrder 34 = .ok (.imul, 1) := by decide +kernel
theorem dX8_isOrder_35 : decode cX8_isOrder 35 = .ok (.iload_n 1, 1) := by decide +kernel
theorem dX8_isOrder_36 : decode cX8_isOrder 36 = .ok (.iastore, 1) := by decide +kernel
theorem dX8_isOrder_37 : decode cX8_isOrder 37 = .ok (.iload_n 1, 1) := by decide +kernel
theorem dX8_isOrder_38 : decode cX8_isOrder 38 = .ok (.lookupswitch 281 #[(100, 265), (102, 50), (108, 166), (113, 125), (115, 224)], 50) := by decide +kernel
theorem dX8_isOrder_88 : decode cX8_isOrder 88 = .ok (.aload_n 0, 1) := by decide +kernel
theorem dX8_isOrder_89 : decode cX8_isOrder 89 = .ok (.dup, 1) := by decide +kernel
theorem dX8_isOrder_90 : decode cX8_isOrder 90 = .ok (.getfield 163, 3) := by decide +kernel
theorem dX8_isOrder_93 : decode cX8_isOrder 93 = .ok (.iconst 1, 1) := by decide +kernel
theorem dX8_isOrder_94 : decode cX8_isOrder 94 = .ok (.iadd, 1) := by decide +kernel
theorem dX8_isOrder_95 : decode cX8_isOrder 95 = .ok (.putfield 163, 3) := by decide +kernel
theorem dX8_isOrder_98 : decode cX8_isOrder 98 = .ok (.aload_n 0, 1) := by decide +kernel
theorem dX8_isOrder_99 : decode cX8_isOrder 99 = .ok (.iconst 1, 1) := by decide +kernel
theorem dX8_isOrder_100 : decode cX8_isOrder 100 = .ok (.invokevirtual 172, 3) := by decide +kernel
theorem dX8_isOrder_103 : decode cX8_isOrder 103 = .ok (.ifCond .eq 58, 3) := by decide +kernel
theorem dX8_isOrder_106 : decode cX8_isOrder 106 = .ok (.aload_n 0, 1) := by decide +kernel
theorem dX8_isOrder_107 : decode cX8_isOrder 107 = .ok (.bipush 58, 2) := by decide +kernel
theorem dX8_isOrder_109 : decode cX8_isOrder 109 = .ok (.invokevirtual 175, 3) := by decide +kernel
theorem dX8_isOrder_112 : decode cX8_isOrder 112 = .ok (.ifCond .eq 49, 3) := by decide +kernel
theorem dX8_isOrder_115 : decode cX8_isOrder 115 = .ok (.aload_n 0, 1) := by decide +kernel
theorem dX8_isOrder_116 : decode cX8_isOrder 116 = .ok (.iconst 2, 1) := by decide +kernel
theorem dX8_isOrder_117 : decode cX8_isOrder 117 = .ok (.invokevirtual 178, 3) := by decide +kernel
theorem dX8_isOrder_120 : decode cX8_isOrder 120 = .ok (.ifCond .eq 41, 3) := by decide +kernel
theorem dX8_isOrder_123 : decode cX8_isOrder 123 = .ok (.aload_n 0, 1) := by decide +kernel
theorem dX8_isOrder_124 : decode cX8_isOrder 124 = .ok (.bipush 37, 2) := by decide +kernel
theorem dX8_isOrder_126 : decode cX8_isOrder 126 = .ok (.invokevirtual 175, 3) := by decide +kernel
theorem dX8_isOrder_129 : decode cX8_isOrder 129 = .ok (.ifCond .eq 32, 3) := by decide +kernel
theorem dX8_isOrder_132 : decode cX8_isOrder 132 = .ok (.aload_n 0, 1) := by decide +kernel
theorem dX8_isOrder_133 : decode cX8_isOrder 133 = .ok (.iconst 3, 1) := by decide +kernel
theorem dX8_isOrder_134 : decode cX8_isOrder 134 = .ok (.invokevirtual 178, 3) := by decide +kernel
theorem dX8_isOrder_137 : decode cX8_isOrder 137 = .ok (.ifCond .eq 24, 3) := by decide +kernel
theorem dX8_isOrder_140 : decode cX8_isOrder 140 = .ok (.aload_n 0, 1) := by decide +kernel
theorem dX8_isOrder_141 : decode cX8_isOrder 141 = .ok (.bipush 64, 2) := by decide +kernel
theorem dX8_isOrder_143 : decode cX8_isOrder 143 = .ok (.invokevirtual 175, 3) := by decide +kernel
theorem dX8_isOrder_146 : decode cX8_isOrder 146 = .ok (.ifCond .eq 15, 3) := by decide +kernel
theorem dX8_isOrder_149 : decode cX8_isOrder 149 = .ok (.aload_n 0, 1) := by decide +kernel
theorem dX8_isOrder_150 : decode cX8_isOrder 150 = .ok (.iconst 4, 1) := by decide +kernel
theorem dX8_isOrder_151 : decode cX8_isOrder 151 = .ok (.invokevirtual 178, 3) := by decide +kernel
theorem dX8_isOrder_154 : decode cX8_isOrder 154 = .ok (.ifCond .eq 7, 3) := by decide +kernel
theorem dX8_isOrder_157 : decode cX8_isOrder 157 = .ok (.iconst 1, 1) := by decide +kernel
theorem dX8_isOrder_158 : decode cX8_isOrder 158 = .ok (.goto 4, 3) := by decide +kernel
theorem dX8_isOrder_161 : decode cX8_isOrder 161 = .ok (.iconst 0, 1) := by decide +kernel
theorem dX8_isOrder_162 : decode cX8_isOrder 162 = .ok (.ireturn, 1) := by decide +kernel
theorem dX8_isOrder_163 : decode cX8_isOrder 163 = .ok (.aload_n 0, 1) := by decide +kernel
theorem dX8_isOrder_164 : decode cX8_isOrder 164 = .ok (.dup, 1) := by decide +kernel
theorem dX8_isOrder_165 : decode cX8_isOrder 165 = .ok (.getfield 163, 3) := by decide +kernel
theorem dX8_isOrder_168 : decode cX8_isOrder 168 = .ok (.iconst 1, 1) := by decide +kernel
theorem dX8_isOrder_169 : decode cX8_isOrder 169 = .ok (.iadd, 1) := by decide +kernel
theorem dX8_isOrder_170 : decode cX8_isOrder 170 = .ok (.putfield 163, 3) := by decide +kernel
theorem dX8_isOrder_173 : decode cX8_isOrder 173 = .ok (.aload_n 0, 1) := by decide +kernel
theorem dX8_isOrder_174 : decode cX8_isOrder 174 = .ok (.iconst 1, 1) := by decide +kernel
theorem dX8_isOrder_175 : decode cX8_isOrder 175 = .ok (.invokevirtual 172, 3) := by decide +kernel
theorem dX8_isOrder_178 : decode cX8_isOrder 178 = .ok (.ifCond .eq 24, 3) := by decide +kernel
theorem dX8_isOrder_181 : decode cX8_isOrder 181 = .ok (.aload_n 0, 1) := by decide +kernel
theorem dX8_isOrder_182 : decode cX8_isOrder 182 = .ok (.bipush 61, 2) := by decide +kernel
theorem dX8_isOrder_184 : decode cX8_isOrder 184 = .ok (.invokevirtual 175, 3) := by decide +kernel
theorem dX8_isOrder_187 : decode cX8_isOrder 187 = .ok (.ifCond .eq 15, 3) := by decide +kernel
theorem dX8_isOrder_190 : decode cX8_isOrder 190 = .ok (.aload_n 0, 1) := by decide +kernel
theorem dX8_isOrder_191 : decode cX8_isOrder 191 = .ok (.iconst 2, 1) := by decide +kernel
theorem dX8_isOrder_192 : decode cX8_isOrder 192 = .ok (.invokevirtual 178, 3) := by decide +kernel
theorem dX8_isOrder_195 : decode cX8_isOrder 195 = .ok (.ifCond .eq 7, 3) := by decide +kernel
theorem dX8_isOrder_198 : decode cX8_isOrder 198 = .ok (.iconst 1, 1) := by decide +kernel
theorem dX8_isOrder_199 : decode cX8_isOrder 199 = .ok (.goto 4, 3) := by decide +kernel
theorem dX8_isOrder_202 : decode cX8_isOrder 202 = .ok (.iconst 0, 1) := by decide +kernel
theorem dX8_isOrder_203 : decode cX8_isOrder 203 = .ok (.ireturn, 1) := by decide +kernel
theorem dX8_isOrder_204 : decode cX8_isOrder 204 = .ok (.aload_n 0, 1) := by decide +kernel
theorem dX8_isOrder_205 : decode cX8_isOrder 205 = .ok (.dup, 1) := by decide +kernel
theorem dX8_isOrder_206 : decode cX8_isOrder 206 = .ok (.getfield 163, 3) := by decide +kernel
theorem dX8_isOrder_209 : decode cX8_isOrder 209 = .ok (.iconst 1, 1) := by decide +kernel
theorem dX8_isOrder_210 : decode cX8_isOrder 210 = .ok (.iadd, 1) := by decide +kernel
theorem dX8_isOrder_211 : decode cX8_isOrder 211 = .ok (.putfield 163, 3) := by decide +kernel
theorem dX8_isOrder_214 : decode cX8_isOrder 214 = .ok (.aload_n 0, 1) := by decide +kernel
theorem dX8_isOrder_215 : decode cX8_isOrder 215 = .ok (.iconst 1, 1) := by decide +kernel
theorem dX8_isOrder_216 : decode cX8_isOrder 216 = .ok (.invokevirtual 172, 3) := by decide +kernel
theorem dX8_isOrder_219 : decode cX8_isOrder 219 = .ok (.ifCond .eq 41, 3) := by decide +kernel
theorem dX8_isOrder_222 : decode cX8_isOrder 222 = .ok (.aload_n 0, 1) := by decide +kernel
theorem dX8_isOrder_223 : decode cX8_isOrder 223 = .ok (.bipush 62, 2) := by decide +kernel
theorem dX8_isOrder_225 : decode cX8_isOrder 225 = .ok (.invokevirtual 175, 3) := by decide +kernel
theorem dX8_isOrder_228 : decode cX8_isOrder 228 = .ok (.ifCond .eq 32, 3) := by decide +kernel
theorem dX8_isOrder_231 : decode cX8_isOrder 231 = .ok (.aload_n 0, 1) := by decide +kernel
theorem dX8_isOrder_232 : decode cX8_isOrder 232 = .ok (.iconst 2, 1) := by decide +kernel
theorem dX8_isOrder_233 : decode cX8_isOrder 233 = .ok (.invokevirtual 172, 3) := by decide +kernel
theorem dX8_isOrder_236 : decode cX8_isOrder 236 = .ok (.ifCond .eq 24, 3) := by decide +kernel
theorem dX8_isOrder_239 : decode cX8_isOrder 239 = .ok (.aload_n 0, 1) := by decide +kernel
theorem dX8_isOrder_240 : decode cX8_isOrder 240 = .ok (.bipush 61, 2) := by decide +kernel
theorem dX8_isOrder_242 : decode cX8_isOrder 242 = .ok (.invokevirtual 175, 3) := by decide +kernel
theorem dX8_isOrder_245 : decode cX8_isOrder 245 = .ok (.ifCond .eq 15, 3) := by decide +kernel
theorem dX8_isOrder_248 : decode cX8_isOrder 248 = .ok (.aload_n 0, 1) := by decide +kernel
theorem dX8_isOrder_249 : decode cX8_isOrder 249 = .ok (.iconst 3, 1) := by decide +kernel
theorem dX8_isOrder_250 : decode cX8_isOrder 250 = .ok (.invokevirtual 178, 3) := by decide +kernel
theorem dX8_isOrder_253 : decode cX8_isOrder 253 = .ok (.ifCond .eq 7, 3) := by decide +kernel
theorem dX8_isOrder_256 : decode cX8_isOrder 256 = .ok (.iconst 1, 1) := by decide +kernel
theorem dX8_isOrder_257 : decode cX8_isOrder 257 = .ok (.goto 4, 3) := by decide +kernel
theorem dX8_isOrder_260 : decode cX8_isOrder 260 = .ok (.iconst 0, 1) := by decide +kernel
theorem dX8_isOrder_261 : decode cX8_isOrder 261 = .ok (.ireturn, 1) := by decide +kernel
theorem dX8_isOrder_262 : decode cX8_isOrder 262 = .ok (.aload_n 0, 1) := by decide +kernel
theorem dX8_isOrder_263 : decode cX8_isOrder 263 = .ok (.dup, 1) := by decide +kernel
theorem dX8_isOrder_264 : decode cX8_isOrder 264 = .ok (.getfield 163, 3) := by decide +kernel
theorem dX8_isOrder_267 : decode cX8_isOrder 267 = .ok (.iconst 1, 1) := by decide +kernel
theorem dX8_isOrder_268 : decode cX8_isOrder 268 = .ok (.iadd, 1) := by decide +kernel
theorem dX8_isOrder_269 : decode cX8_isOrder 269 = .ok (.putfield 163, 3) := by decide +kernel
theorem dX8_isOrder_272 : decode cX8_isOrder 272 = .ok (.aload_n 0, 1) := by decide +kernel
theorem dX8_isOrder_273 : decode cX8_isOrder 273 = .ok (.iconst 1, 1) := by decide +kernel
theorem dX8_isOrder_274 : decode cX8_isOrder 274 = .ok (.invokevirtual 178, 3) := by decide +kernel
theorem dX8_isOrder_277 : decode cX8_isOrder 277 = .ok (.ifCond .eq 24, 3) := by decide +kernel
theorem dX8_isOrder_280 : decode cX8_isOrder 280 = .ok (.aload_n 0, 1) := by decide +kernel
theorem dX8_isOrder_281 : decode cX8_isOrder 281 = .ok (.bipush 45, 2) := by decide +kernel
theorem dX8_isOrder_283 : decode cX8_isOrder 283 = .ok (.invokevirtual 175, 3) := by decide +kernel
theorem dX8_isOrder_286 : decode cX8_isOrder 286 = .ok (.ifCond .eq 15, 3) := by decide +kernel
theorem dX8_isOrder_289 : decode cX8_isOrder 289 = .ok (.aload_n 0, 1) := by decide +kernel
theorem dX8_isOrder_290 : decode cX8_isOrder 290 = .ok (.iconst 2, 1) := by decide +kernel
theorem dX8_isOrder_291 : decode cX8_isOrder 291 = .ok (.invokevirtual 178, 3) := by decide +kernel
theorem dX8_isOrder_294 : decode cX8_isOrder 294 = .ok (.ifCond .eq 7, 3) := by decide +kernel
theorem dX8_isOrder_297 : decode cX8_isOrder 297 = .ok (.iconst 1, 1) := by decide +kernel
theorem dX8_isOrder_298 : decode cX8_isOrder 298 = .ok (.goto 4, 3) := by decide +kernel
theorem dX8_isOrder_301 : decode cX8_isOrder 301 = .ok (.iconst 0, 1) := by decide +kernel
theorem dX8_isOrder_302 : decode cX8_isOrder 302 = .ok (.ireturn, 1) := by decide +kernel
theorem dX8_isOrder_303 : decode cX8_isOrder 303 = .ok (.aload_n 0, 1) := by decide +kernel
theorem dX8_isOrder_304 : decode cX8_isOrder 304 = .ok (.dup, 1) := by decide +kernel
theorem dX8_isOrder_305 : decode cX8_isOrder 305 = .ok (.getfield 163, 3) := by decide +kernel
theorem dX8_isOrder_308 : decode cX8_isOrder 308 = .ok (.iconst 1, 1) := by decide +kernel
theorem dX8_isOrder_309 : decode cX8_isOrder 309 = .ok (.iadd, 1) := by decide +kernel
theorem dX8_isOrder_310 : decode cX8_isOrder 310 = .ok (.putfield 163, 3) := by decide +kernel
theorem dX8_isOrder_313 : decode cX8_isOrder 313 = .ok (.aload_n 0, 1) := by decide +kernel
theorem dX8_isOrder_314 : decode cX8_isOrder 314 = .ok (.iconst 1, 1) := by decide +kernel
theorem dX8_isOrder_315 : decode cX8_isOrder 315 = .ok (.invokevirtual 178, 3) := by decide +kernel
theorem dX8_isOrder_318 : decode cX8_isOrder 318 = .ok (.ireturn, 1) := by decide +kernel
theorem dX8_isOrder_319 : decode cX8_isOrder 319 = .ok (.iconst 0, 1) := by decide +kernel
theorem dX8_isOrder_320 : decode cX8_isOrder 320 = .ok (.ireturn, 1) := by decide +kernel
theorem dX8_isText_0 : decode cX8_isText 0 = .ok (.aload_n 0, 1) := by decide +kernel
theorem dX8_isText_1 : decode cX8_isText 1 = .ok (.iconst 0, 1) := by decide +kernel
theorem dX8_isText_2 : decode cX8_isText 2 = .ok (.putfield 163, 3) := by decide +kernel
theorem dX8_isText_5 : decode cX8_isText 5 = .ok (.aload_n 0, 1) := by decide +kernel
theorem dX8_isText_6 : decode cX8_isText 6 = .ok (.iconst 0, 1) := by decide +kernel
theorem dX8_isText_7 : decode cX8_isText 7 = .ok (.putfield 169, 3) := by decide +kernel
theorem dX8_isText_10 : decode cX8_isText 10 = .ok (.iconst 1, 1) := by decide +kernel
theorem dX8_isText_11 : decode cX8_isText 11 = .ok (.istore_n 1, 1) := by decide +kernel
theorem dX8_isText_12 : decode cX8_isText 12 = .ok (.iload_n 1, 1) := by decide +kernel
theorem dX8_isText_13 : decode cX8_isText 13 = .ok (.ifCond .eq 32, 3) := by decide +kernel
theorem dX8_isText_16 : decode cX8_isText 16 = .ok (.aload_n 0, 1) := by decide +kernel
theorem dX8_isText_17 : decode cX8_isText 17 = .ok (.invokevirtual 181, 3) := by decide +kernel
theorem dX8_isText_20 : decode cX8_isText 20 = .ok (.ifCond .ne 5, 3) := by decide +kernel
theorem dX8_isText_23 : decode cX8_isText 23 = .ok (.iconst 0, 1) := by decide +kernel
theorem dX8_isText_24 : decode cX8_isText 24 = .ok (.ireturn, 1) := by decide +kernel
theorem dX8_isText_25 : decode cX8_isText 25 = .ok (.aload_n 0, 1) := by decide +kernel
theorem dX8_isText_26 : decode cX8_isText 26 = .ok (.dup, 1) := by decide +kernel
theorem dX8_isText_27 : decode cX8_isText 27 = .ok (.getfield 169, 3) := by decide +kernel
theorem dX8_isText_30 : decode cX8_isText 30 = .ok (.iconst 1, 1) := by decide +kernel
theorem dX8_isText_31 : decode cX8_isText 31 = .ok (.iadd, 1) := by decide +kernel
theorem dX8_isText_32 : decode cX8_isText 32 = .ok (.putfield 169, 3) := by decide +kernel
theorem dX8_isText_35 : decode cX8_isText 35 = .ok (.aload_n 0, 1) := by decide +kernel
theorem dX8_isText_36 : decode cX8_isText 36 = .ok (.bipush 59, 2) := by decide +kernel
theorem dX8_isText_38 : decode cX8_isText 38 = .ok (.invokevirtual 175, 3) := by decide +kernel
theorem dX8_isText_41 : decode cX8_isText 41 = .ok (.istore_n 1, 1) := by decide +kernel
theorem dX8_isText_42 : decode cX8_isText 42 = .ok (.goto (-30), 3) := by decide +kernel
theorem dX8_isText_45 : decode cX8_isText 45 = .ok (.aload_n 0, 1) := by decide +kernel
theorem dX8_isText_46 : decode cX8_isText 46 = .ok (.getfield 163, 3) := by decide +kernel
theorem dX8_isText_49 : decode cX8_isText 49 = .ok (.aload_n 0, 1) := by decide +kernel
theorem dX8_isText_50 : decode cX8_isText 50 = .ok (.getfield 143, 3) := by decide +kernel
theorem dX8_isText_53 : decode cX8_isText 53 = .ok (.if_icmp .ne 7, 3) := by decide +kernel
theorem dX8_isText_56 : decode cX8_isText 56 = .ok (.iconst 1, 1) := by decide +kernel
theorem dX8_isText_57 : decode cX8_isText 57 = .ok (.goto 4, 3) := by decide +kernel
theorem dX8_isText_60 : decode cX8_isText 60 = .ok (.iconst 0, 1) := by decide +kernel
theorem dX8_isText_61 : decode cX8_isText 61 = .ok (.ireturn, 1) := by decide +kernel
theorem dX8_fault_0 : decode cX8_fault 0 = .ok (.aload_n 0, 1) := by decide +kernel
theorem dX8_fault_1 : decode cX8_fault 1 = .ok (.invokevirtual 185, 3) := by decide +kernel
theorem dX8_fault_4 : decode cX8_fault 4 = .ok (.ifCond .eq 8, 3) := by decide +kernel
theorem dX8_fault_7 : decode cX8_fault 7 = .ok (.bipush (-6), 2) := by decide +kernel
theorem dX8_fault_9 : decode cX8_fault 9 = .ok (.goto 7, 3) := by decide +kernel
theorem dX8_fault_12 : decode cX8_fault 12 = .ok (.aload_n 0, 1) := by decide +kernel
theorem dX8_fault_13 : decode cX8_fault 13 = .ok (.getfield 163, 3) := by decide +kernel
theorem dX8_fault_16 : decode cX8_fault 16 = .ok (.ireturn, 1) := by decide +kernel
theorem dX8_mayDo_0 : decode cX8_mayDo 0 = .ok (.iload_n 1, 1) := by decide +kernel
theorem dX8_mayDo_1 : decode cX8_mayDo 1 = .ok (.lookupswitch 76 #[(102, 43), (108, 60), (113, 54), (115, 69)], 43) := by decide +kernel
theorem dX8_mayDo_44 : decode cX8_mayDo 44 = .ok (.aload_n 0, 1) := by decide +kernel
theorem dX8_mayDo_45 : decode cX8_mayDo 45 = .ok (.iload_n 2, 1) := by decide +kernel
theorem dX8_mayDo_46 : decode cX8_mayDo 46 = .ok (.iload_n 3, 1) := by decide +kernel
theorem dX8_mayDo_47 : decode cX8_mayDo 47 = .ok (.iload 4, 2) := by decide +kernel
theorem dX8_mayDo_49 : decode cX8_mayDo 49 = .ok (.iload 5, 2) := by decide +kernel
theorem dX8_mayDo_51 : decode cX8_mayDo 51 = .ok (.invokevirtual 117, 3) := by decide +kernel
theorem dX8_mayDo_54 : decode cX8_mayDo 54 = .ok (.ireturn, 1) := by decide +kernel
theorem dX8_mayDo_55 : decode cX8_mayDo 55 = .ok (.iload_n 2, 1) := by decide +kernel
theorem dX8_mayDo_56 : decode cX8_mayDo 56 = .ok (.iload_n 3, 1) := by decide +kernel
theorem dX8_mayDo_57 : decode cX8_mayDo 57 = .ok (.invokestatic 107, 3) := by decide +kernel
theorem dX8_mayDo_60 : decode cX8_mayDo 60 = .ok (.ireturn, 1) := by decide +kernel
theorem dX8_mayDo_61 : decode cX8_mayDo 61 = .ok (.aload_n 0, 1) := by decide +kernel
theorem dX8_mayDo_62 : decode cX8_mayDo 62 = .ok (.iload_n 2, 1) := by decide +kernel
theorem dX8_mayDo_63 : decode cX8_mayDo 63 = .ok (.iload_n 3, 1) := by decide +kernel
theorem dX8_mayDo_64 : decode cX8_mayDo 64 = .ok (.iload 4, 2) := by decide +kernel
theorem dX8_mayDo_66 : decode cX8_mayDo 66 = .ok (.invokevirtual 110, 3) := by decide +kernel
theorem dX8_mayDo_69 : decode cX8_mayDo 69 = .ok (.ireturn, 1) := by decide +kernel
theorem dX8_mayDo_70 : decode cX8_mayDo 70 = .ok (.aload_n 0, 1) := by decide +kernel
theorem dX8_mayDo_71 : decode cX8_mayDo 71 = .ok (.iload_n 2, 1) := by decide +kernel
theorem dX8_mayDo_72 : decode cX8_mayDo 72 = .ok (.iload_n 3, 1) := by decide +kernel
theorem dX8_mayDo_73 : decode cX8_mayDo 73 = .ok (.invokevirtual 127, 3) := by decide +kernel
theorem dX8_mayDo_76 : decode cX8_mayDo 76 = .ok (.ireturn, 1) := by decide +kernel
theorem dX8_mayDo_77 : decode cX8_mayDo 77 = .ok (.aload_n 0, 1) := by decide +kernel
theorem dX8_mayDo_78 : decode cX8_mayDo 78 = .ok (.iload_n 2, 1) := by decide +kernel
theorem dX8_mayDo_79 : decode cX8_mayDo 79 = .ok (.invokevirtual 133, 3) := by decide +kernel
theorem dX8_mayDo_82 : decode cX8_mayDo 82 = .ok (.ireturn, 1) := by decide +kernel
theorem dX8_does_0 : decode cX8_does 0 = .ok (.aload_n 0, 1) := by decide +kernel
theorem dX8_does_1 : decode cX8_does 1 = .ok (.getfield 29, 3) := by decide +kernel
theorem dX8_does_4 : decode cX8_does 4 = .ok (.iconst 5, 1) := by decide +kernel
theorem dX8_does_5 : decode cX8_does 5 = .ok (.iload_n 1, 1) := by decide +kernel
theorem dX8_does_6 : decode cX8_does 6 = .ok (.imul, 1) := by decide +kernel
theorem dX8_does_7 : decode cX8_does 7 = .ok (.iaload, 1) := by decide +kernel
theorem dX8_does_8 : decode cX8_does 8 = .ok (.istore_n 2, 1) := by decide +kernel
theorem dX8_does_9 : decode cX8_does 9 = .ok (.aload_n 0, 1) := by decide +kernel
theorem dX8_does_10 : decode cX8_does 10 = .ok (.getfield 29, 3) := by decide +kernel
theorem dX8_does_13 : decode cX8_does 13 = .ok (.iconst 5, 1) := by decide +kernel
theorem dX8_does_14 : decode cX8_does 14 = .ok (.iload_n 1, 1) := by decide +kernel
theorem dX8_does_15 : decode cX8_does 15 = .ok (.imul, 1) := by decide +kernel
theorem dX8_does_16 : decode cX8_does 16 = .ok (.iconst 1, 1) := by decide +kernel
theorem dX8_does_17 : decode cX8_does 17 = .ok (.iadd, 1) := by decide +kernel
theorem dX8_does_18 : decode cX8_does 18 = .ok (.iaload, 1) := by decide +kernel
theorem dX8_does_19 : decode cX8_does 19 = .ok (.istore_n 3, 1) := by decide +kernel
theorem dX8_does_20 : decode cX8_does 20 = .ok (.aload_n 0, 1) := by decide +kernel
theorem dX8_does_21 : decode cX8_does 21 = .ok (.getfield 29, 3) := by decide +kernel
theorem dX8_does_24 : decode cX8_does 24 = .ok (.iconst 5, 1) := by decide +kernel
theorem dX8_does_25 : decode cX8_does 25 = .ok (.iload_n 1, 1) := by decide +kernel
theorem dX8_does_26 : decode cX8_does 26 = .ok (.imul, 1) := by decide +kernel
theorem dX8_does_27 : decode cX8_does 27 = .ok (.iconst 2, 1) := by decide +kernel
theorem dX8_does_28 : decode cX8_does 28 = .ok (.iadd, 1) := by decide +kernel
theorem dX8_does_29 : decode cX8_does 29 = .ok (.iaload, 1) := by decide +kernel
theorem dX8_does_30 : decode cX8_does 30 = .ok (.istore 4, 2) := by decide +kernel
theorem dX8_does_32 : decode cX8_does 32 = .ok (.aload_n 0, 1) := by decide +kernel
theorem dX8_does_33 : decode cX8_does 33 = .ok (.getfield 29, 3) := by decide +kernel
theorem dX8_does_36 : decode cX8_does 36 = .ok (.iconst 5, 1) := by decide +kernel
theorem dX8_does_37 : decode cX8_does 37 = .ok (.iload_n 1, 1) := by decide +kernel
theorem dX8_does_38 : decode cX8_does 38 = .ok (.imul, 1) := by decide +kernel
theorem dX8_does_39 : decode cX8_does 39 = .ok (.iconst 3, 1) := by decide +kernel
theorem dX8_does_40 : decode cX8_does 40 = .ok (.iadd, 1) := by decide +kernel
theorem dX8_does_41 : decode cX8_does 41 = .ok (.iaload, 1) := by decide +kernel
theorem dX8_does_42 : decode cX8_does 42 = .ok (.istore 5, 2) := by decide +kernel
theorem dX8_does_44 : decode cX8_does 44 = .ok (.aload_n 0, 1) := by decide +kernel
theorem dX8_does_45 : decode cX8_does 45 = .ok (.getfield 29, 3) := by decide +kernel
theorem dX8_does_48 : decode cX8_does 48 = .ok (.iconst 5, 1) := by decide +kernel
theorem dX8_does_49 : decode cX8_does 49 = .ok (.iload_n 1, 1) := by decide +kernel
theorem dX8_does_50 : decode cX8_does 50 = .ok (.imul, 1) := by decide +kernel
theorem dX8_does_51 : decode cX8_does 51 = .ok (.iconst 4, 1) := by decide +kernel
theorem dX8_does_52 : decode cX8_does 52 = .ok (.iadd, 1) := by decide +kernel
theorem dX8_does_53 : decode cX8_does 53 = .ok (.iaload, 1) := by decide +kernel
theorem dX8_does_54 : decode cX8_does 54 = .ok (.istore 6, 2) := by decide +kernel
theorem dX8_does_56 : decode cX8_does 56 = .ok (.aload_n 0, 1) := by decide +kernel
theorem dX8_does_57 : decode cX8_does 57 = .ok (.iload_n 2, 1) := by decide +kernel
theorem dX8_does_58 : decode cX8_does 58 = .ok (.iload_n 3, 1) := by decide +kernel
theorem dX8_does_59 : decode cX8_does 59 = .ok (.iload 4, 2) := by decide +kernel
theorem dX8_does_61 : decode cX8_does 61 = .ok (.iload 5, 2) := by decide +kernel
theorem dX8_does_63 : decode cX8_does 63 = .ok (.iload 6, 2) := by decide +kernel
theorem dX8_does_65 : decode cX8_does 65 = .ok (.invokevirtual 188, 3) := by decide +kernel
theorem dX8_does_68 : decode cX8_does 68 = .ok (.ifCond .eq 5, 3) := by decide +kernel
theorem dX8_does_71 : decode cX8_does 71 = .ok (.iconst 0, 1) := by decide +kernel
theorem dX8_does_72 : decode cX8_does 72 = .ok (.ireturn, 1) := by decide +kernel
theorem dX8_does_73 : decode cX8_does 73 = .ok (.iload_n 2, 1) := by decide +kernel
theorem dX8_does_74 : decode cX8_does 74 = .ok (.lookupswitch 95 #[(102, 42), (108, 71), (113, 57), (115, 84)], 42) := by decide +kernel
theorem dX8_does_116 : decode cX8_does 116 = .ok (.aload_n 0, 1) := by decide +kernel
theorem dX8_does_117 : decode cX8_does 117 = .ok (.iload_n 3, 1) := by decide +kernel
theorem dX8_does_118 : decode cX8_does 118 = .ok (.iload 4, 2) := by decide +kernel
theorem dX8_does_120 : decode cX8_does 120 = .ok (.iload 5, 2) := by decide +kernel
theorem dX8_does_122 : decode cX8_does 122 = .ok (.iload 6, 2) := by decide +kernel
theorem dX8_does_124 : decode cX8_does 124 = .ok (.invokevirtual 121, 3) := by decide +kernel
theorem dX8_does_127 : decode cX8_does 127 = .ok (.pop, 1) := by decide +kernel
theorem dX8_does_128 : decode cX8_does 128 = .ok (.goto 50, 3) := by decide +kernel
theorem dX8_does_131 : decode cX8_does 131 = .ok (.aload_n 0, 1) := by decide +kernel
theorem dX8_does_132 : decode cX8_does 132 = .ok (.bipush 10, 2) := by decide +kernel
theorem dX8_does_134 : decode cX8_does 134 = .ok (.iload_n 3, 1) := by decide +kernel
theorem dX8_does_135 : decode cX8_does 135 = .ok (.iadd, 1) := by decide +kernel
theorem dX8_does_136 : decode cX8_does 136 = .ok (.iload 4, 2) := by decide +kernel
theorem dX8_does_138 : decode cX8_does 138 = .ok (.invokevirtual 100, 3) := by decide +kernel
theorem dX8_does_141 : decode cX8_does 141 = .ok (.pop, 1) := by decide +kernel
theorem dX8_does_142 : decode cX8_does 142 = .ok (.goto 36, 3) := by decide +kernel
theorem dX8_does_145 : decode cX8_does 145 = .ok (.aload_n 0, 1) := by decide +kernel
theorem dX8_does_146 : decode cX8_does 146 = .ok (.iload_n 3, 1) := by decide +kernel
theorem dX8_does_147 : decode cX8_does 147 = .ok (.iload 4, 2) := by decide +kernel
theorem dX8_does_149 : decode cX8_does 149 = .ok (.iload 5, 2) := by decide +kernel
theorem dX8_does_151 : decode cX8_does 151 = .ok (.invokevirtual 114, 3) := by decide +kernel
theorem dX8_does_154 : decode cX8_does 154 = .ok (.pop, 1) := by decide +kernel
theorem dX8_does_155 : decode cX8_does 155 = .ok (.goto 23, 3) := by decide +kernel
theorem dX8_does_158 : decode cX8_does 158 = .ok (.aload_n 0, 1) := by decide +kernel
theorem dX8_does_159 : decode cX8_does 159 = .ok (.iload_n 3, 1) := by decide +kernel
theorem dX8_does_160 : decode cX8_does 160 = .ok (.iload 4, 2) := by decide +kernel
theorem dX8_does_162 : decode cX8_does 162 = .ok (.invokevirtual 130, 3) := by decide +kernel
theorem dX8_does_165 : decode cX8_does 165 = .ok (.pop, 1) := by decide +kernel
theorem dX8_does_166 : decode cX8_does 166 = .ok (.goto 12, 3) := by decide +kernel
theorem dX8_does_169 : decode cX8_does 169 = .ok (.aload_n 0, 1) := by decide +kernel
theorem dX8_does_170 : decode cX8_does 170 = .ok (.getfield 7, 3) := by decide +kernel
theorem dX8_does_173 : decode cX8_does 173 = .ok (.iload_n 3, 1) := by decide +kernel
theorem dX8_does_174 : decode cX8_does 174 = .ok (.iconst 0, 1) := by decide +kernel
theorem dX8_does_175 : decode cX8_does 175 = .ok (.invokestatic 137, 3) := by decide +kernel
theorem dX8_does_178 : decode cX8_does 178 = .ok (.iconst 1, 1) := by decide +kernel
theorem dX8_does_179 : decode cX8_does 179 = .ok (.ireturn, 1) := by decide +kernel
theorem dX8_carryOut_0 : decode cX8_carryOut 0 = .ok (.aload_n 0, 1) := by decide +kernel
theorem dX8_carryOut_1 : decode cX8_carryOut 1 = .ok (.invokevirtual 185, 3) := by decide +kernel
theorem dX8_carryOut_4 : decode cX8_carryOut 4 = .ok (.ifCond .ne 6, 3) := by decide +kernel
theorem dX8_carryOut_7 : decode cX8_carryOut 7 = .ok (.bipush (-3), 2) := by decide +kernel
theorem dX8_carryOut_9 : decode cX8_carryOut 9 = .ok (.ireturn, 1) := by decide +kernel
theorem dX8_carryOut_10 : decode cX8_carryOut 10 = .ok (.aload_n 0, 1) := by decide +kernel
theorem dX8_carryOut_11 : decode cX8_carryOut 11 = .ok (.invokevirtual 44, 3) := by decide +kernel
theorem dX8_carryOut_14 : decode cX8_carryOut 14 = .ok (.aload_n 0, 1) := by decide +kernel
theorem dX8_carryOut_15 : decode cX8_carryOut 15 = .ok (.iconst 0, 1) := by decide +kernel
theorem dX8_carryOut_16 : decode cX8_carryOut 16 = .ok (.putfield 143, 3) := by decide +kernel
theorem dX8_carryOut_19 : decode cX8_carryOut 19 = .ok (.iconst 0, 1) := by decide +kernel
theorem dX8_carryOut_20 : decode cX8_carryOut 20 = .ok (.istore_n 1, 1) := by decide +kernel
theorem dX8_carryOut_21 : decode cX8_carryOut 21 = .ok (.iload_n 1, 1) := by decide +kernel
theorem dX8_carryOut_22 : decode cX8_carryOut 22 = .ok (.aload_n 0, 1) := by decide +kernel
theorem dX8_carryOut_23 : decode cX8_carryOut 23 = .ok (.getfield 169, 3) := by decide +kernel
theorem dX8_carryOut_26 : decode cX8_carryOut 26 = .ok (.if_icmp .ge 17, 3) := by decide +kernel
theorem dX8_carryOut_29 : decode cX8_carryOut 29 = .ok (.aload_n 0, 1) := by decide +kernel
theorem dX8_carryOut_30 : decode cX8_carryOut 30 = .ok (.iload_n 1, 1) := by decide +kernel
theorem dX8_carryOut_31 : decode cX8_carryOut 31 = .ok (.invokevirtual 192, 3) := by decide +kernel
theorem dX8_carryOut_34 : decode cX8_carryOut 34 = .ok (.ifCond .eq 9, 3) := by decide +kernel
theorem dX8_carryOut_37 : decode cX8_carryOut 37 = .ok (.iinc 1 1, 3) := by decide +kernel
theorem dX8_carryOut_40 : decode cX8_carryOut 40 = .ok (.goto (-19), 3) := by decide +kernel
theorem dX8_carryOut_43 : decode cX8_carryOut 43 = .ok (.iload_n 1, 1) := by decide +kernel
theorem dX8_carryOut_44 : decode cX8_carryOut 44 = .ok (.ireturn, 1) := by decide +kernel
theorem dJ9_max_7cf53_0 : decode cJ9_max_7cf53 0 = .ok (.iload_n 0, 1) := by decide +kernel
theorem dJ9_max_7cf53_1 : decode cJ9_max_7cf53 1 = .ok (.iload_n 1, 1) := by decide +kernel
theorem dJ9_max_7cf53_2 : decode cJ9_max_7cf53 2 = .ok (.if_icmp .lt 7, 3) := by decide +kernel
theorem dJ9_max_7cf53_5 : decode cJ9_max_7cf53 5 = .ok (.iload_n 0, 1) := by decide +kernel
theorem dJ9_max_7cf53_6 : decode cJ9_max_7cf53 6 = .ok (.goto 4, 3) := by decide +kernel
theorem dJ9_max_7cf53_9 : decode cJ9_max_7cf53 9 = .ok (.iload_n 1, 1) := by decide +kernel
theorem dJ9_max_7cf53_10 : decode cJ9_max_7cf53 10 = .ok (.ireturn, 1) := by decide +kernel
theorem dJ9_min_7cf53_0 : decode cJ9_min_7cf53 0 = .ok (.iload_n 0, 1) := by decide +kernel
theorem dJ9_min_7cf53_1 : decode cJ9_min_7cf53 1 = .ok (.iload_n 1, 1) := by decide +kernel
theorem dJ9_min_7cf53_2 : decode cJ9_min_7cf53 2 = .ok (.if_icmp .gt 7, 3) := by decide +kernel
theorem dJ9_min_7cf53_5 : decode cJ9_min_7cf53 5 = .ok (.iload_n 0, 1) := by decide +kernel
theorem dJ9_min_7cf53_6 : decode cJ9_min_7cf53 6 = .ok (.goto 4, 3) := by decide +kernel
theorem dJ9_min_7cf53_9 : decode cJ9_min_7cf53 9 = .ok (.iload_n 1, 1) := by decide +kernel
theorem dJ9_min_7cf53_10 : decode cJ9_min_7cf53 10 = .ok (.ireturn, 1) := by decide +kernel
theorem dJ0_length_8abf5_0 : decode cJ0_length_8abf5 0 = .ok (.aload_n 0, 1) := by decide +kernel
theorem dJ0_length_8abf5_1 : decode cJ0_length_8abf5 1 = .ok (.getfield 9, 3) := by decide +kernel
theorem dJ0_length_8abf5_4 : decode cJ0_length_8abf5 4 = .ok (.arraylength, 1) := by decide +kernel
theorem dJ0_length_8abf5_5 : decode cJ0_length_8abf5 5 = .ok (.aload_n 0, 1) := by decide +kernel
theorem dJ0_length_8abf5_6 : decode cJ0_length_8abf5 6 = .ok (.invokevirtual 335, 3) := by decide +kernel
theorem dJ0_length_8abf5_9 : decode cJ0_length_8abf5 9 = .ok (.ishr, 1) := by decide +kernel
theorem dJ0_length_8abf5_10 : decode cJ0_length_8abf5 10 = .ok (.ireturn, 1) := by decide +kernel
theorem dJ0_isEmpty_aae02_0 : decode cJ0_isEmpty_aae02 0 = .ok (.aload_n 0, 1) := by decide +kernel
theorem dJ0_isEmpty_aae02_1 : decode cJ0_isEmpty_aae02 1 = .ok (.getfield 9, 3) := by decide +kernel
theorem dJ0_isEmpty_aae02_4 : decode cJ0_isEmpty_aae02 4 = .ok (.arraylength, 1) := by decide +kernel
theorem dJ0_isEmpty_aae02_5 : decode cJ0_isEmpty_aae02 5 = .ok (.ifCond .ne 7, 3) := by decide +kernel
theorem dJ0_isEmpty_aae02_8 : decode cJ0_isEmpty_aae02 8 = .ok (.iconst 1, 1) := by decide +kernel
theorem dJ0_isEmpty_aae02_9 : decode cJ0_isEmpty_aae02 9 = .ok (.goto 4, 3) := by decide +kernel
theorem dJ0_isEmpty_aae02_12 : decode cJ0_isEmpty_aae02 12 = .ok (.iconst 0, 1) := by decide +kernel
theorem dJ0_isEmpty_aae02_13 : decode cJ0_isEmpty_aae02 13 = .ok (.ireturn, 1) := by decide +kernel
theorem dJ0_charAt_5068e_0 : decode cJ0_charAt_5068e 0 = .ok (.aload_n 0, 1) := by decide +kernel
theorem dJ0_charAt_5068e_1 : decode cJ0_charAt_5068e 1 = .ok (.invokevirtual 492, 3) := by decide +kernel
theorem dJ0_charAt_5068e_4 : decode cJ0_charAt_5068e 4 = .ok (.ifCond .eq 12, 3) := by decide +kernel
theorem dJ0_charAt_5068e_7 : decode cJ0_charAt_5068e 7 = .ok (.aload_n 0, 1) := by decide +kernel
theorem dJ0_charAt_5068e_8 : decode cJ0_charAt_5068e 8 = .ok (.getfield 9, 3) := by decide +kernel
theorem dJ0_charAt_5068e_11 : decode cJ0_charAt_5068e 11 = .ok (.iload_n 1, 1) := by decide +kernel
theorem dJ0_charAt_5068e_12 : decode cJ0_charAt_5068e 12 = .ok (.invokestatic 495, 3) := by decide +kernel
theorem dJ0_charAt_5068e_15 : decode cJ0_charAt_5068e 15 = .ok (.ireturn, 1) := by decide +kernel
theorem dJ0_charAt_5068e_16 : decode cJ0_charAt_5068e 16 = .ok (.aload_n 0, 1) := by decide +kernel
theorem dJ0_charAt_5068e_17 : decode cJ0_charAt_5068e 17 = .ok (.getfield 9, 3) := by decide +kernel
theorem dJ0_charAt_5068e_20 : decode cJ0_charAt_5068e 20 = .ok (.iload_n 1, 1) := by decide +kernel
theorem dJ0_charAt_5068e_21 : decode cJ0_charAt_5068e 21 = .ok (.invokestatic 498, 3) := by decide +kernel
theorem dJ0_charAt_5068e_24 : decode cJ0_charAt_5068e 24 = .ok (.ireturn, 1) := by decide +kernel
theorem dJ0_coder_7d493_0 : decode cJ0_coder_7d493 0 = .ok (.getstatic 38, 3) := by decide +kernel
theorem dJ0_coder_7d493_3 : decode cJ0_coder_7d493 3 = .ok (.ifCond .eq 10, 3) := by decide +kernel
theorem dJ0_coder_7d493_6 : decode cJ0_coder_7d493 6 = .ok (.aload_n 0, 1) := by decide +kernel
theorem dJ0_coder_7d493_7 : decode cJ0_coder_7d493 7 = .ok (.getfield 15, 3) := by decide +kernel
theorem dJ0_coder_7d493_10 : decode cJ0_coder_7d493 10 = .ok (.goto 4, 3) := by decide +kernel
theorem dJ0_coder_7d493_13 : decode cJ0_coder_7d493 13 = .ok (.iconst 1, 1) := by decide +kernel
theorem dJ0_coder_7d493_14 : decode cJ0_coder_7d493 14 = .ok (.ireturn, 1) := by decide +kernel
theorem dJ0_isLatin1_aae02_0 : decode cJ0_isLatin1_aae02 0 = .ok (.getstatic 38, 3) := by decide +kernel
theorem dJ0_isLatin1_aae02_3 : decode cJ0_isLatin1_aae02 3 = .ok (.ifCond .eq 14, 3) := by decide +kernel
theorem dJ0_isLatin1_aae02_6 : decode cJ0_isLatin1_aae02 6 = .ok (.aload_n 0, 1) := by decide +kernel
theorem dJ0_isLatin1_aae02_7 : decode cJ0_isLatin1_aae02 7 = .ok (.getfield 15, 3) := by decide +kernel
theorem dJ0_isLatin1_aae02_10 : decode cJ0_isLatin1_aae02 10 = .ok (.ifCond .ne 7, 3) := by decide +kernel
theorem dJ0_isLatin1_aae02_13 : decode cJ0_isLatin1_aae02 13 = .ok (.iconst 1, 1) := by decide +kernel
theorem dJ0_isLatin1_aae02_14 : decode cJ0_isLatin1_aae02 14 = .ok (.goto 4, 3) := by decide +kernel
theorem dJ0_isLatin1_aae02_17 : decode cJ0_isLatin1_aae02 17 = .ok (.iconst 0, 1) := by decide +kernel
theorem dJ0_isLatin1_aae02_18 : decode cJ0_isLatin1_aae02 18 = .ok (.ireturn, 1) := by decide +kernel
theorem dJ0_checkIndex_df160_0 : decode cJ0_checkIndex_df160 0 = .ok (.iload_n 0, 1) := by decide +kernel
theorem dJ0_checkIndex_df160_1 : decode cJ0_checkIndex_df160 1 = .ok (.iload_n 1, 1) := by decide +kernel
theorem dJ0_checkIndex_df160_2 : decode cJ0_checkIndex_df160 2 = .ok (.getstatic 1053, 3) := by decide +kernel
theorem dJ0_checkIndex_df160_5 : decode cJ0_checkIndex_df160 5 = .ok (.invokestatic 1059, 3) := by decide +kernel
theorem dJ0_checkIndex_df160_8 : decode cJ0_checkIndex_df160 8 = .ok (.pop, 1) := by decide +kernel
theorem dJ0_checkIndex_df160_9 : decode cJ0_checkIndex_df160 9 = .ok (.return_, 1) := by decide +kernel
theorem dJ1_charAt_3b067_0 : decode cJ1_charAt_3b067 0 = .ok (.iload_n 1, 1) := by decide +kernel
theorem dJ1_charAt_3b067_1 : decode cJ1_charAt_3b067 1 = .ok (.aload_n 0, 1) := by decide +kernel
theorem dJ1_charAt_3b067_2 : decode cJ1_charAt_3b067 2 = .ok (.arraylength, 1) := by decide +kernel
theorem dJ1_charAt_3b067_3 : decode cJ1_charAt_3b067 3 = .ok (.invokestatic 9, 3) := by decide +kernel
theorem dJ1_charAt_3b067_6 : decode cJ1_charAt_3b067 6 = .ok (.aload_n 0, 1) := by decide +kernel
theorem dJ1_charAt_3b067_7 : decode cJ1_charAt_3b067 7 = .ok (.iload_n 1, 1) := by decide +kernel
theorem dJ1_charAt_3b067_8 : decode cJ1_charAt_3b067 8 = .ok (.baload, 1) := by decide +kernel
theorem dJ1_charAt_3b067_9 : decode cJ1_charAt_3b067 9 = .ok (.sipush 255, 3) := by decide +kernel
theorem dJ1_charAt_3b067_12 : decode cJ1_charAt_3b067 12 = .ok (.iand, 1) := by decide +kernel
theorem dJ1_charAt_3b067_13 : decode cJ1_charAt_3b067 13 = .ok (.i2c, 1) := by decide +kernel
theorem dJ1_charAt_3b067_14 : decode cJ1_charAt_3b067 14 = .ok (.ireturn, 1) := by decide +kernel
theorem dJ2_getChar_3b067_0 : decode cJ2_getChar_3b067 0 = .ok (.getstatic 44, 3) := by decide +kernel
theorem dJ2_getChar_3b067_3 : decode cJ2_getChar_3b067 3 = .ok (.ifCond .ne 25, 3) := by decide +kernel
theorem dJ2_getChar_3b067_6 : decode cJ2_getChar_3b067 6 = .ok (.iload_n 1, 1) := by decide +kernel
theorem dJ2_getChar_3b067_7 : decode cJ2_getChar_3b067 7 = .ok (.ifCond .lt 11, 3) := by decide +kernel
theorem dJ2_getChar_3b067_10 : decode cJ2_getChar_3b067 10 = .ok (.iload_n 1, 1) := by decide +kernel
theorem dJ2_getChar_3b067_11 : decode cJ2_getChar_3b067 11 = .ok (.aload_n 0, 1) := by decide +kernel
theorem dJ2_getChar_3b067_12 : decode cJ2_getChar_3b067 12 = .ok (.invokestatic 48, 3) := by decide +kernel
theorem dJ2_getChar_3b067_15 : decode cJ2_getChar_3b067 15 = .ok (.if_icmp .lt 13, 3) := by decide +kernel
theorem dJ2_getChar_3b067_18 : decode cJ2_getChar_3b067 18 = .ok (.new 52, 3) := by decide +kernel
theorem dJ2_getChar_3b067_21 : decode cJ2_getChar_3b067 21 = .ok (.dup, 1) := by decide +kernel
theorem dJ2_getChar_3b067_22 : decode cJ2_getChar_3b067 22 = .ok (.ldc 54, 2) := by decide +kernel
theorem dJ2_getChar_3b067_24 : decode cJ2_getChar_3b067 24 = .ok (.invokespecial 56, 3) := by decide +kernel
theorem dJ2_getChar_3b067_27 : decode cJ2_getChar_3b067 27 = .ok (.athrow, 1) := by decide +kernel
theorem dJ2_getChar_3b067_28 : decode cJ2_getChar_3b067 28 = .ok (.iload_n 1, 1) := by decide +kernel
theorem dJ2_getChar_3b067_29 : decode cJ2_getChar_3b067 29 = .ok (.iconst 1, 1) := by decide +kernel
theorem dJ2_getChar_3b067_30 : decode cJ2_getChar_3b067 30 = .ok (.ishl, 1) := by decide +kernel
theorem dJ2_getChar_3b067_31 : decode cJ2_getChar_3b067 31 = .ok (.istore_n 1, 1) := by decide +kernel
theorem dJ2_getChar_3b067_32 : decode cJ2_getChar_3b067 32 = .ok (.aload_n 0, 1) := by decide +kernel
theorem dJ2_getChar_3b067_33 : decode cJ2_getChar_3b067 33 = .ok (.iload_n 1, 1) := by decide +kernel
theorem dJ2_getChar_3b067_34 : decode cJ2_getChar_3b067 34 = .ok (.iinc 1 1, 3) := by decide +kernel
theorem dJ2_getChar_3b067_37 : decode cJ2_getChar_3b067 37 = .ok (.baload, 1) := by decide +kernel
theorem dJ2_getChar_3b067_38 : decode cJ2_getChar_3b067 38 = .ok (.sipush 255, 3) := by decide +kernel
theorem dJ2_getChar_3b067_41 : decode cJ2_getChar_3b067 41 = .ok (.iand, 1) := by decide +kernel
theorem dJ2_getChar_3b067_42 : decode cJ2_getChar_3b067 42 = .ok (.getstatic 59, 3) := by decide +kernel
theorem dJ2_getChar_3b067_45 : decode cJ2_getChar_3b067 45 = .ok (.ishl, 1) := by decide +kernel
theorem dJ2_getChar_3b067_46 : decode cJ2_getChar_3b067 46 = .ok (.aload_n 0, 1) := by decide +kernel
theorem dJ2_getChar_3b067_47 : decode cJ2_getChar_3b067 47 = .ok (.iload_n 1, 1) := by decide +kernel
theorem dJ2_getChar_3b067_48 : decode cJ2_getChar_3b067 48 = .ok (.baload, 1) := by decide +kernel
theorem dJ2_getChar_3b067_49 : decode cJ2_getChar_3b067 49 = .ok (.sipush 255, 3) := by decide +kernel
theorem dJ2_getChar_3b067_52 : decode cJ2_getChar_3b067 52 = .ok (.iand, 1) := by decide +kernel
theorem dJ2_getChar_3b067_53 : decode cJ2_getChar_3b067 53 = .ok (.getstatic 63, 3) := by decide +kernel
theorem dJ2_getChar_3b067_56 : decode cJ2_getChar_3b067 56 = .ok (.ishl, 1) := by decide +kernel
theorem dJ2_getChar_3b067_57 : decode cJ2_getChar_3b067 57 = .ok (.ior, 1) := by decide +kernel
theorem dJ2_getChar_3b067_58 : decode cJ2_getChar_3b067 58 = .ok (.i2c, 1) := by decide +kernel
theorem dJ2_getChar_3b067_59 : decode cJ2_getChar_3b067 59 = .ok (.ireturn, 1) := by decide +kernel
theorem dJ2_length_9d52b_0 : decode cJ2_length_9d52b 0 = .ok (.aload_n 0, 1) := by decide +kernel
theorem dJ2_length_9d52b_1 : decode cJ2_length_9d52b 1 = .ok (.arraylength, 1) := by decide +kernel
theorem dJ2_length_9d52b_2 : decode cJ2_length_9d52b 2 = .ok (.iconst 1, 1) := by decide +kernel
theorem dJ2_length_9d52b_3 : decode cJ2_length_9d52b 3 = .ok (.ishr, 1) := by decide +kernel
theorem dJ2_length_9d52b_4 : decode cJ2_length_9d52b 4 = .ok (.ireturn, 1) := by decide +kernel
theorem dJ2_charAt_3b067_0 : decode cJ2_charAt_3b067 0 = .ok (.iload_n 1, 1) := by decide +kernel
theorem dJ2_charAt_3b067_1 : decode cJ2_charAt_3b067 1 = .ok (.aload_n 0, 1) := by decide +kernel
theorem dJ2_charAt_3b067_2 : decode cJ2_charAt_3b067 2 = .ok (.invokestatic 67, 3) := by decide +kernel
theorem dJ2_charAt_3b067_5 : decode cJ2_charAt_3b067 5 = .ok (.aload_n 0, 1) := by decide +kernel
theorem dJ2_charAt_3b067_6 : decode cJ2_charAt_3b067 6 = .ok (.iload_n 1, 1) := by decide +kernel
theorem dJ2_charAt_3b067_7 : decode cJ2_charAt_3b067 7 = .ok (.invokestatic 71, 3) := by decide +kernel
theorem dJ2_charAt_3b067_10 : decode cJ2_charAt_3b067 10 = .ok (.ireturn, 1) := by decide +kernel
theorem dJ2_checkIndex_2214a_0 : decode cJ2_checkIndex_2214a 0 = .ok (.iload_n 0, 1) := by decide +kernel
theorem dJ2_checkIndex_2214a_1 : decode cJ2_checkIndex_2214a 1 = .ok (.aload_n 1, 1) := by decide +kernel
theorem dJ2_checkIndex_2214a_2 : decode cJ2_checkIndex_2214a 2 = .ok (.invokestatic 48, 3) := by decide +kernel
theorem dJ2_checkIndex_2214a_5 : decode cJ2_checkIndex_2214a 5 = .ok (.invokestatic 414, 3) := by decide +kernel
theorem dJ2_checkIndex_2214a_8 : decode cJ2_checkIndex_2214a 8 = .ok (.return_, 1) := by decide +kernel
theorem dJ3_checkIndex_8e157_0 : decode cJ3_checkIndex_8e157 0 = .ok (.iload_n 0, 1) := by decide +kernel
theorem dJ3_checkIndex_8e157_1 : decode cJ3_checkIndex_8e157 1 = .ok (.ifCond .lt 8, 3) := by decide +kernel
theorem dJ3_checkIndex_8e157_4 : decode cJ3_checkIndex_8e157 4 = .ok (.iload_n 0, 1) := by decide +kernel
theorem dJ3_checkIndex_8e157_5 : decode cJ3_checkIndex_8e157 5 = .ok (.iload_n 1, 1) := by decide +kernel
theorem dJ3_checkIndex_8e157_6 : decode cJ3_checkIndex_8e157 6 = .ok (.if_icmp .lt 10, 3) := by decide +kernel
theorem dJ3_checkIndex_8e157_9 : decode cJ3_checkIndex_8e157 9 = .ok (.aload_n 2, 1) := by decide +kernel
theorem dJ3_checkIndex_8e157_10 : decode cJ3_checkIndex_8e157 10 = .ok (.iload_n 0, 1) := by decide +kernel
theorem dJ3_checkIndex_8e157_11 : decode cJ3_checkIndex_8e157 11 = .ok (.iload_n 1, 1) := by decide +kernel
theorem dJ3_checkIndex_8e157_12 : decode cJ3_checkIndex_8e157 12 = .ok (.invokestatic 95, 3) := by decide +kernel
theorem dJ3_checkIndex_8e157_15 : decode cJ3_checkIndex_8e157 15 = .ok (.athrow, 1) := by decide +kernel
theorem dJ3_checkIndex_8e157_16 : decode cJ3_checkIndex_8e157 16 = .ok (.iload_n 0, 1) := by decide +kernel
theorem dJ3_checkIndex_8e157_17 : decode cJ3_checkIndex_8e157 17 = .ok (.ireturn, 1) := by decide +kernel
theorem dL_law_0 : decode cL_law 0 = .ok (.new 7, 3) := by decide +kernel
theorem dL_law_3 : decode cL_law 3 = .ok (.dup, 1) := by decide +kernel
theorem dL_law_4 : decode cL_law 4 = .ok (.invokespecial 9, 3) := by decide +kernel
theorem dL_law_7 : decode cL_law 7 = .ok (.astore_n 1, 1) := by decide +kernel
theorem dL_law_8 : decode cL_law 8 = .ok (.new 10, 3) := by decide +kernel
theorem dL_law_11 : decode cL_law 11 = .ok (.dup, 1) := by decide +kernel
theorem dL_law_12 : decode cL_law 12 = .ok (.invokespecial 12, 3) := by decide +kernel
theorem dL_law_15 : decode cL_law 15 = .ok (.astore_n 2, 1) := by decide +kernel
theorem dL_law_16 : decode cL_law 16 = .ok (.iconst 0, 1) := by decide +kernel
theorem dL_law_17 : decode cL_law 17 = .ok (.istore_n 3, 1) := by decide +kernel
theorem dL_law_18 : decode cL_law 18 = .ok (.iload_n 3, 1) := by decide +kernel
theorem dL_law_19 : decode cL_law 19 = .ok (.aload_n 0, 1) := by decide +kernel
theorem dL_law_20 : decode cL_law 20 = .ok (.arraylength, 1) := by decide +kernel
theorem dL_law_21 : decode cL_law 21 = .ok (.iconst 5, 1) := by decide +kernel
theorem dL_law_22 : decode cL_law 22 = .ok (.isub, 1) := by decide +kernel
theorem dL_law_23 : decode cL_law 23 = .ok (.if_icmp .gt 763, 3) := by decide +kernel
theorem dL_law_26 : decode cL_law 26 = .ok (.aload_n 0, 1) := by decide +kernel
theorem dL_law_27 : decode cL_law 27 = .ok (.iload_n 3, 1) := by decide +kernel
theorem dL_law_28 : decode cL_law 28 = .ok (.iaload, 1) := by decide +kernel
theorem dL_law_29 : decode cL_law 29 = .ok (.bipush 31, 2) := by decide +kernel
theorem dL_law_31 : decode cL_law 31 = .ok (.iand, 1) := by decide +kernel
theorem dL_law_32 : decode cL_law 32 = .ok (.tableswitch 748 0 22 #[108, 141, 174, 217, 270, 303, 326, 349, 382, 415, 448, 471, 495, 508, 541, 564, 597, 650, 663, 676, 689, 702, 725], 108) := by decide +kernel
theorem dL_law_140 : decode cL_law 140 = .ok (.aload_n 1, 1) := by decide +kernel
theorem dL_law_141 : decode cL_law 141 = .ok (.aload_n 0, 1) := by decide +kernel
theorem dL_law_142 : decode cL_law 142 = .ok (.iload_n 3, 1) := by decide +kernel
theorem dL_law_143 : decode cL_law 143 = .ok (.iconst 1, 1) := by decide +kernel
theorem dL_law_144 : decode cL_law 144 = .ok (.iadd, 1) := by decide +kernel
theorem dL_law_145 : decode cL_law 145 = .ok (.iaload, 1) := by decide +kernel
theorem dL_law_146 : decode cL_law 146 = .ok (.aload_n 0, 1) := by decide +kernel
theorem dL_law_147 : decode cL_law 147 = .ok (.iload_n 3, 1) := by decide +kernel
theorem dL_law_148 : decode cL_law 148 = .ok (.iconst 2, 1) := by decide +kernel
theorem dL_law_149 : decode cL_law 149 = .ok (.iadd, 1) := by decide +kernel
theorem dL_law_150 : decode cL_law 150 = .ok (.iaload, 1) := by decide +kernel
theorem dL_law_151 : decode cL_law 151 = .ok (.invokevirtual 13, 3) := by decide +kernel
theorem dL_law_154 : decode cL_law 154 = .ok (.aload_n 2, 1) := by decide +kernel
theorem dL_law_155 : decode cL_law 155 = .ok (.aload_n 0, 1) := by decide +kernel
theorem dL_law_156 : decode cL_law 156 = .ok (.iload_n 3, 1) := by decide +kernel
theorem dL_law_157 : decode cL_law 157 = .ok (.iconst 1, 1) := by decide +kernel
theorem dL_law_158 : decode cL_law 158 = .ok (.iadd, 1) := by decide +kernel
theorem dL_law_159 : decode cL_law 159 = .ok (.iaload, 1) := by decide +kernel
theorem dL_law_160 : decode cL_law 160 = .ok (.aload_n 0, 1) := by decide +kernel
theorem dL_law_161 : decode cL_law 161 = .ok (.iload_n 3, 1) := by decide +kernel
theorem dL_law_162 : decode cL_law 162 = .ok (.iconst 2, 1) := by decide +kernel
theorem dL_law_163 : decode cL_law 163 = .ok (.iadd, 1) := by decide +kernel
theorem dL_law_164 : decode cL_law 164 = .ok (.iaload, 1) := by decide +kernel
theorem dL_law_165 : decode cL_law 165 = .ok (.invokevirtual 17, 3) := by decide +kernel
theorem dL_law_168 : decode cL_law 168 = .ok (.if_icmp .eq 612, 3) := by decide +kernel
theorem dL_law_171 : decode cL_law 171 = .ok (.iconst 0, 1) := by decide +kernel
theorem dL_law_172 : decode cL_law 172 = .ok (.ireturn, 1) := by decide +kernel
theorem dL_law_173 : decode cL_law 173 = .ok (.aload_n 1, 1) := by decide +kernel
theorem dL_law_174 : decode cL_law 174 = .ok (.aload_n 0, 1) := by decide +kernel
theorem dL_law_175 : decode cL_law 175 = .ok (.iload_n 3, 1) := by decide +kernel
theorem dL_law_176 : decode cL_law 176 = .ok (.iconst 1, 1) := by decide +kernel
theorem dL_law_177 : decode cL_law 177 = .ok (.iadd, 1) := by decide +kernel
theorem dL_law_178 : decode cL_law 178 = .ok (.iaload, 1) := by decide +kernel
theorem dL_law_179 : decode cL_law 179 = .ok (.aload_n 0, 1) := by decide +kernel
theorem dL_law_180 : decode cL_law 180 = .ok (.iload_n 3, 1) := by decide +kernel
theorem dL_law_181 : decode cL_law 181 = .ok (.iconst 2, 1) := by decide +kernel
theorem dL_law_182 : decode cL_law 182 = .ok (.iadd, 1) := by decide +kernel
theorem dL_law_183 : decode cL_law 183 = .ok (.iaload, 1) := by decide +kernel
theorem dL_law_184 : decode cL_law 184 = .ok (.invokevirtual 18, 3) := by decide +kernel
theorem dL_law_187 : decode cL_law 187 = .ok (.aload_n 2, 1) := by decide +kernel
theorem dL_law_188 : decode cL_law 188 = .ok (.aload_n 0, 1) := by decide +kernel
theorem dL_law_189 : decode cL_law 189 = .ok (.iload_n 3, 1) := by decide +kernel
theorem dL_law_190 : decode cL_law 190 = .ok (.iconst 1, 1) := by decide +kernel
theorem dL_law_191 : decode cL_law 191 = .ok (.iadd, 1) := by decide +kernel
theorem dL_law_192 : decode cL_law 192 = .ok (.iaload, 1) := by decide +kernel
theorem dL_law_193 : decode cL_law 193 = .ok (.aload_n 0, 1) := by decide +kernel
theorem dL_law_194 : decode cL_law 194 = .ok (.iload_n 3, 1) := by decide +kernel
theorem dL_law_195 : decode cL_law 195 = .ok (.iconst 2, 1) := by decide +kernel
theorem dL_law_196 : decode cL_law 196 = .ok (.iadd, 1) := by decide +kernel
theorem dL_law_197 : decode cL_law 197 = .ok (.iaload, 1) := by decide +kernel
theorem dL_law_198 : decode cL_law 198 = .ok (.invokevirtual 21, 3) := by decide +kernel
theorem dL_law_201 : decode cL_law 201 = .ok (.if_icmp .eq 579, 3) := by decide +kernel
theorem dL_law_204 : decode cL_law 204 = .ok (.iconst 0, 1) := by decide +kernel
theorem dL_law_205 : decode cL_law 205 = .ok (.ireturn, 1) := by decide +kernel
theorem dL_law_206 : decode cL_law 206 = .ok (.aload_n 1, 1) := by decide +kernel
theorem dL_law_207 : decode cL_law 207 = .ok (.aload_n 0, 1) := by decide +kernel
theorem dL_law_208 : decode cL_law 208 = .ok (.iload_n 3, 1) := by decide +kernel
theorem dL_law_209 : decode cL_law 209 = .ok (.iconst 1, 1) := by decide +kernel
theorem dL_law_210 : decode cL_law 210 = .ok (.iadd, 1) := by decide +kernel
theorem dL_law_211 : decode cL_law 211 = .ok (.iaload, 1) := by decide +kernel
theorem dL_law_212 : decode cL_law 212 = .ok (.aload_n 0, 1) := by decide +kernel
theorem dL_law_213 : decode cL_law 213 = .ok (.iload_n 3, 1) := by decide +kernel
theorem dL_law_214 : decode cL_law 214 = .ok (.iconst 2, 1) := by decide +kernel
theorem dL_law_215 : decode cL_law 215 = .ok (.iadd, 1) := by decide +kernel
theorem dL_law_216 : decode cL_law 216 = .ok (.iaload, 1) := by decide +kernel
theorem dL_law_217 : decode cL_law 217 = .ok (.aload_n 0, 1) := by decide +kernel
theorem dL_law_218 : decode cL_law 218 = .ok (.iload_n 3, 1) := by decide +kernel
theorem dL_law_219 : decode cL_law 219 = .ok (.iconst 3, 1) := by decide +kernel
theorem dL_law_220 : decode cL_law 220 = .ok (.iadd, 1) := by decide +kernel
theorem dL_law_221 : decode cL_law 221 = .ok (.iaload, 1) := by decide +kernel
theorem dL_law_222 : decode cL_law 222 = .ok (.invokevirtual 22, 3) := by decide +kernel
theorem dL_law_225 : decode cL_law 225 = .ok (.aload_n 2, 1) := by decide +kernel
theorem dL_law_226 : decode cL_law 226 = .ok (.aload_n 0, 1) := by decide +kernel
theorem dL_law_227 : decode cL_law 227 = .ok (.iload_n 3, 1) := by decide +kernel
theorem dL_law_228 : decode cL_law 228 = .ok (.iconst 1, 1) := by decide +kernel
theorem dL_law_229 : decode cL_law 229 = .ok (.iadd, 1) := by decide +kernel
theorem dL_law_230 : decode cL_law 230 = .ok (.iaload, 1) := by decide +kernel
theorem dL_law_231 : decode cL_law 231 = .ok (.aload_n 0, 1) := by decide +kernel
theorem dL_law_232 : decode cL_law 232 = .ok (.iload_n 3, 1) := by decide +kernel
theorem dL_law_233 : decode cL_law 233 = .ok (.iconst 2, 1) := by decide +kernel
theorem dL_law_234 : decode cL_law 234 = .ok (.iadd, 1) := by decide +kernel
theorem dL_law_235 : decode cL_law 235 = .ok (.iaload, 1) := by decide +kernel
theorem dL_law_236 : decode cL_law 236 = .ok (.aload_n 0, 1) := by decide +kernel
theorem dL_law_237 : decode cL_law 237 = .ok (.iload_n 3, 1) := by decide +kernel
theorem dL_law_238 : decode cL_law 238 = .ok (.iconst 3, 1) := by decide +kernel
theorem dL_law_239 : decode cL_law 239 = .ok (.iadd, 1) := by decide +kernel
theorem dL_law_240 : decode cL_law 240 = .ok (.iaload, 1) := by decide +kernel
theorem dL_law_241 : decode cL_law 241 = .ok (.invokevirtual 26, 3) := by decide +kernel
theorem dL_law_244 : decode cL_law 244 = .ok (.if_icmp .eq 536, 3) := by decide +kernel
theorem dL_law_247 : decode cL_law 247 = .ok (.iconst 0, 1) := by decide +kernel
theorem dL_law_248 : decode cL_law 248 = .ok (.ireturn, 1) := by decide +kernel
theorem dL_law_249 : decode cL_law 249 = .ok (.aload_n 1, 1) := by decide +kernel
theorem dL_law_250 : decode cL_law 250 = .ok (.aload_n 0, 1) := by decide +kernel
theorem dL_law_251 : decode cL_law 251 = .ok (.iload_n 3, 1) := by decide +kernel
theorem dL_law_252 : decode cL_law 252 = .ok (.iconst 1, 1) := by decide +kernel
theorem dL_law_253 : decode cL_law 253 = .ok (.iadd, 1) := by decide +kernel
theorem dL_law_254 : decode cL_law 254 = .ok (.iaload, 1) := by decide +kernel
theorem dL_law_255 : decode cL_law 255 = .ok (.aload_n 0, 1) := by decide +kernel
theorem dL_law_256 : decode cL_law 256 = .ok (.iload_n 3, 1) := by decide +kernel
theorem dL_law_257 : decode cL_law 257 = .ok (.iconst 2, 1) := by decide +kernel
theorem dL_law_258 : decode cL_law 258 = .ok (.iadd, 1) := by decide +kernel
theorem dL_law_259 : decode cL_law 259 = .ok (.iaload, 1) := by decide +kernel
theorem dL_law_260 : decode cL_law 260 = .ok (.aload_n 0, 1) := by decide +kernel
theorem dL_law_261 : decode cL_law 261 = .ok (.iload_n 3, 1) := by decide +kernel
theorem dL_law_262 : decode cL_law 262 = .ok (.iconst 3, 1) := by decide +kernel
theorem dL_law_263 : decode cL_law 263 = .ok (.iadd, 1) := by decide +kernel
theorem dL_law_264 : decode cL_law 264 = .ok (.iaload, 1) := by decide +kernel
theorem dL_law_265 : decode cL_law 265 = .ok (.aload_n 0, 1) := by decide +kernel
theorem dL_law_266 : decode cL_law 266 = .ok (.iload_n 3, 1) := by decide +kernel
theorem dL_law_267 : decode cL_law 267 = .ok (.iconst 4, 1) := by decide +kernel
theorem dL_law_268 : decode cL_law 268 = .ok (.iadd, 1) := by decide +kernel
theorem dL_law_269 : decode cL_law 269 = .ok (.iaload, 1) := by decide +kernel
theorem dL_law_270 : decode cL_law 270 = .ok (.invokevirtual 27, 3) := by decide +kernel
theorem dL_law_273 : decode cL_law 273 = .ok (.aload_n 2, 1) := by decide +kernel
theorem dL_law_274 : decode cL_law 274 = .ok (.aload_n 0, 1) := by decide +kernel
theorem dL_law_275 : decode cL_law 275 = .ok (.iload_n 3, 1) := by decide +kernel
theorem dL_law_276 : decode cL_law 276 = .ok (.iconst 1, 1) := by decide +kernel
theorem dL_law_277 : decode cL_law 277 = .ok (.iadd, 1) := by decide +kernel
theorem dL_law_278 : decode cL_law 278 = .ok (.iaload, 1) := by decide +kernel
theorem dL_law_279 : decode cL_law 279 = .ok (.aload_n 0, 1) := by decide +kernel
theorem dL_law_280 : decode cL_law 280 = .ok (.iload_n 3, 1) := by decide +kernel
theorem dL_law_281 : decode cL_law 281 = .ok (.iconst 2, 1) := by decide +kernel
theorem dL_law_282 : decode cL_law 282 = .ok (.iadd, 1) := by decide +kernel
theorem dL_law_283 : decode cL_law 283 = .ok (.iaload, 1) := by decide +kernel
theorem dL_law_284 : decode cL_law 284 = .ok (.aload_n 0, 1) := by decide +kernel
theorem dL_law_285 : decode cL_law 285 = .ok (.iload_n 3, 1) := by decide +kernel
theorem dL_law_286 : decode cL_law 286 = .ok (.iconst 3, 1) := by decide +kernel
theorem dL_law_287 : decode cL_law 287 = .ok (.iadd, 1) := by decide +kernel
theorem dL_law_288 : decode cL_law 288 = .ok (.iaload, 1) := by decide +kernel
theorem dL_law_289 : decode cL_law 289 = .ok (.aload_n 0, 1) := by decide +kernel
theorem dL_law_290 : decode cL_law 290 = .ok (.iload_n 3, 1) := by decide +kernel
theorem dL_law_291 : decode cL_law 291 = .ok (.iconst 4, 1) := by decide +kernel
theorem dL_law_292 : decode cL_law 292 = .ok (.iadd, 1) := by decide +kernel
theorem dL_law_293 : decode cL_law 293 = .ok (.iaload, 1) := by decide +kernel
theorem dL_law_294 : decode cL_law 294 = .ok (.invokevirtual 31, 3) := by decide +kernel
theorem dL_law_297 : decode cL_law 297 = .ok (.if_icmp .eq 483, 3) := by decide +kernel
theorem dL_law_300 : decode cL_law 300 = .ok (.iconst 0, 1) := by decide +kernel
theorem dL_law_301 : decode cL_law 301 = .ok (.ireturn, 1) := by decide +kernel
theorem dL_law_302 : decode cL_law 302 = .ok (.aload_n 1, 1) := by decide +kernel
theorem dL_law_303 : decode cL_law 303 = .ok (.aload_n 0, 1) := by decide +kernel
theorem dL_law_304 : decode cL_law 304 = .ok (.iload_n 3, 1) := by decide +kernel
theorem dL_law_305 : decode cL_law 305 = .ok (.iconst 1, 1) := by decide +kernel
theorem dL_law_306 : decode cL_law 306 = .ok (.iadd, 1) := by decide +kernel
theorem dL_law_307 : decode cL_law 307 = .ok (.iaload, 1) := by decide +kernel
theorem dL_law_308 : decode cL_law 308 = .ok (.aload_n 0, 1) := by decide +kernel
theorem dL_law_309 : decode cL_law 309 = .ok (.iload_n 3, 1) := by decide +kernel
theorem dL_law_310 : decode cL_law 310 = .ok (.iconst 2, 1) := by decide +kernel
theorem dL_law_311 : decode cL_law 311 = .ok (.iadd, 1) := by decide +kernel
theorem dL_law_312 : decode cL_law 312 = .ok (.iaload, 1) := by decide +kernel
theorem dL_law_313 : decode cL_law 313 = .ok (.invokevirtual 32, 3) := by decide +kernel
theorem dL_law_316 : decode cL_law 316 = .ok (.aload_n 2, 1) := by decide +kernel
theorem dL_law_317 : decode cL_law 317 = .ok (.aload_n 0, 1) := by decide +kernel
theorem dL_law_318 : decode cL_law 318 = .ok (.iload_n 3, 1) := by decide +kernel
theorem dL_law_319 : decode cL_law 319 = .ok (.iconst 1, 1) := by decide +kernel
theorem dL_law_320 : decode cL_law 320 = .ok (.iadd, 1) := by decide +kernel
theorem dL_law_321 : decode cL_law 321 = .ok (.iaload, 1) := by decide +kernel
theorem dL_law_322 : decode cL_law 322 = .ok (.aload_n 0, 1) := by decide +kernel
theorem dL_law_323 : decode cL_law 323 = .ok (.iload_n 3, 1) := by decide +kernel
theorem dL_law_324 : decode cL_law 324 = .ok (.iconst 2, 1) := by decide +kernel
theorem dL_law_325 : decode cL_law 325 = .ok (.iadd, 1) := by decide +kernel
theorem dL_law_326 : decode cL_law 326 = .ok (.iaload, 1) := by decide +kernel
theorem dL_law_327 : decode cL_law 327 = .ok (.invokevirtual 35, 3) := by decide +kernel
theorem dL_law_330 : decode cL_law 330 = .ok (.if_icmp .eq 450, 3) := by decide +kernel
theorem dL_law_333 : decode cL_law 333 = .ok (.iconst 0, 1) := by decide +kernel
theorem dL_law_334 : decode cL_law 334 = .ok (.ireturn, 1) := by decide +kernel
theorem dL_law_335 : decode cL_law 335 = .ok (.aload_n 1, 1) := by decide +kernel
theorem dL_law_336 : decode cL_law 336 = .ok (.aload_n 0, 1) := by decide +kernel
theorem dL_law_337 : decode cL_law 337 = .ok (.iload_n 3, 1) := by decide +kernel
theorem dL_law_338 : decode cL_law 338 = .ok (.iconst 1, 1) := by decide +kernel
theorem dL_law_339 : decode cL_law 339 = .ok (.iadd, 1) := by decide +kernel
theorem dL_law_340 : decode cL_law 340 = .ok (.iaload, 1) := by decide +kernel
theorem dL_law_341 : decode cL_law 341 = .ok (.invokevirtual 36, 3) := by decide +kernel
theorem dL_law_344 : decode cL_law 344 = .ok (.aload_n 2, 1) := by decide +kernel
theorem dL_law_345 : decode cL_law 345 = .ok (.aload_n 0, 1) := by decide +kernel
theorem dL_law_346 : decode cL_law 346 = .ok (.iload_n 3, 1) := by decide +kernel
theorem dL_law_347 : decode cL_law 347 = .ok (.iconst 1, 1) := by decide +kernel
theorem dL_law_348 : decode cL_law 348 = .ok (.iadd, 1) := by decide +kernel
theorem dL_law_349 : decode cL_law 349 = .ok (.iaload, 1) := by decide +kernel
theorem dL_law_350 : decode cL_law 350 = .ok (.invokevirtual 40, 3) := by decide +kernel
theorem dL_law_353 : decode cL_law 353 = .ok (.if_icmp .eq 427, 3) := by decide +kernel
theorem dL_law_356 : decode cL_law 356 = .ok (.iconst 0, 1) := by decide +kernel
theorem dL_law_357 : decode cL_law 357 = .ok (.ireturn, 1) := by decide +kernel
theorem dL_law_358 : decode cL_law 358 = .ok (.aload_n 1, 1) := by decide +kernel
theorem dL_law_359 : decode cL_law 359 = .ok (.aload_n 0, 1) := by decide +kernel
theorem dL_law_360 : decode cL_law 360 = .ok (.iload_n 3, 1) := by decide +kernel
theorem dL_law_361 : decode cL_law 361 = .ok (.iconst 1, 1) := by decide +kernel
theorem dL_law_362 : decode cL_law 362 = .ok (.iadd, 1) := by decide +kernel
theorem dL_law_363 : decode cL_law 363 = .ok (.iaload, 1) := by decide +kernel
theorem dL_law_364 : decode cL_law 364 = .ok (.invokevirtual 41, 3) := by decide +kernel
theorem dL_law_367 : decode cL_law 367 = .ok (.aload_n 2, 1) := by decide +kernel
theorem dL_law_368 : decode cL_law 368 = .ok (.aload_n 0, 1) := by decide +kernel
theorem dL_law_369 : decode cL_law 369 = .ok (.iload_n 3, 1) := by decide +kernel
theorem dL_law_370 : decode cL_law 370 = .ok (.iconst 1, 1) := by decide +kernel
theorem dL_law_371 : decode cL_law 371 = .ok (.iadd, 1) := by decide +kernel
theorem dL_law_372 : decode cL_law 372 = .ok (.iaload, 1) := by decide +kernel
theorem dL_law_373 : decode cL_law 373 = .ok (.invokevirtual 44, 3) := by decide +kernel
theorem dL_law_376 : decode cL_law 376 = .ok (.if_icmp .eq 404, 3) := by decide +kernel
theorem dL_law_379 : decode cL_law 379 = .ok (.iconst 0, 1) := by decide +kernel
theorem dL_law_380 : decode cL_law 380 = .ok (.ireturn, 1) := by decide +kernel
theorem dL_law_381 : decode cL_law 381 = .ok (.aload_n 1, 1) := by decide +kernel
theorem dL_law_382 : decode cL_law 382 = .ok (.aload_n 0, 1) := by decide +kernel
theorem dL_law_383 : decode cL_law 383 = .ok (.iload_n 3, 1) := by decide +kernel
theorem dL_law_384 : decode cL_law 384 = .ok (.iconst 1, 1) := by decide +kernel
theorem dL_law_385 : decode cL_law 385 = .ok (.iadd, 1) := by decide +kernel
theorem dL_law_386 : decode cL_law 386 = .ok (.iaload, 1) := by decide +kernel
theorem dL_law_387 : decode cL_law 387 = .ok (.aload_n 0, 1) := by decide +kernel
theorem dL_law_388 : decode cL_law 388 = .ok (.iload_n 3, 1) := by decide +kernel
theorem dL_law_389 : decode cL_law 389 = .ok (.iconst 2, 1) := by decide +kernel
theorem dL_law_390 : decode cL_law 390 = .ok (.iadd, 1) := by decide +kernel
theorem dL_law_391 : decode cL_law 391 = .ok (.iaload, 1) := by decide +kernel
theorem dL_law_392 : decode cL_law 392 = .ok (.invokevirtual 45, 3) := by decide +kernel
theorem dL_law_395 : decode cL_law 395 = .ok (.aload_n 2, 1) := by decide +kernel
theorem dL_law_396 : decode cL_law 396 = .ok (.aload_n 0, 1) := by decide +kernel
theorem dL_law_397 : decode cL_law 397 = .ok (.iload_n 3, 1) := by decide +kernel
theorem dL_law_398 : decode cL_law 398 = .ok (.iconst 1, 1) := by decide +kernel
theorem dL_law_399 : decode cL_law 399 = .ok (.iadd, 1) := by decide +kernel
theorem dL_law_400 : decode cL_law 400 = .ok (.iaload, 1) := by decide +kernel
theorem dL_law_401 : decode cL_law 401 = .ok (.aload_n 0, 1) := by decide +kernel
theorem dL_law_402 : decode cL_law 402 = .ok (.iload_n 3, 1) := by decide +kernel
theorem dL_law_403 : decode cL_law 403 = .ok (.iconst 2, 1) := by decide +kernel
theorem dL_law_404 : decode cL_law 404 = .ok (.iadd, 1) := by decide +kernel
theorem dL_law_405 : decode cL_law 405 = .ok (.iaload, 1) := by decide +kernel
theorem dL_law_406 : decode cL_law 406 = .ok (.invokevirtual 48, 3) := by decide +kernel
theorem dL_law_409 : decode cL_law 409 = .ok (.if_icmp .eq 371, 3) := by decide +kernel
theorem dL_law_412 : decode cL_law 412 = .ok (.iconst 0, 1) := by decide +kernel
theorem dL_law_413 : decode cL_law 413 = .ok (.ireturn, 1) := by decide +kernel
theorem dL_law_414 : decode cL_law 414 = .ok (.aload_n 1, 1) := by decide +kernel
theorem dL_law_415 : decode cL_law 415 = .ok (.aload_n 0, 1) := by decide +kernel
theorem dL_law_416 : decode cL_law 416 = .ok (.iload_n 3, 1) := by decide +kernel
theorem dL_law_417 : decode cL_law 417 = .ok (.iconst 1, 1) := by decide +kernel
theorem dL_law_418 : decode cL_law 418 = .ok (.iadd, 1) := by decide +kernel
theorem dL_law_419 : decode cL_law 419 = .ok (.iaload, 1) := by decide +kernel
theorem dL_law_420 : decode cL_law 420 = .ok (.aload_n 0, 1) := by decide +kernel
theorem dL_law_421 : decode cL_law 421 = .ok (.iload_n 3, 1) := by decide +kernel
theorem dL_law_422 : decode cL_law 422 = .ok (.iconst 2, 1) := by decide +kernel
theorem dL_law_423 : decode cL_law 423 = .ok (.iadd, 1) := by decide +kernel
theorem dL_law_424 : decode cL_law 424 = .ok (.iaload, 1) := by decide +kernel
theorem dL_law_425 : decode cL_law 425 = .ok (.invokevirtual 49, 3) := by decide +kernel
theorem dL_law_428 : decode cL_law 428 = .ok (.aload_n 2, 1) := by decide +kernel
theorem dL_law_429 : decode cL_law 429 = .ok (.aload_n 0, 1) := by decide +kernel
theorem dL_law_430 : decode cL_law 430 = .ok (.iload_n 3, 1) := by decide +kernel
theorem dL_law_431 : decode cL_law 431 = .ok (.iconst 1, 1) := by decide +kernel
theorem dL_law_432 : decode cL_law 432 = .ok (.iadd, 1) := by decide +kernel
theorem dL_law_433 : decode cL_law 433 = .ok (.iaload, 1) := by decide +kernel
theorem dL_law_434 : decode cL_law 434 = .ok (.aload_n 0, 1) := by decide +kernel
theorem dL_law_435 : decode cL_law 435 = .ok (.iload_n 3, 1) := by decide +kernel
theorem dL_law_436 : decode cL_law 436 = .ok (.iconst 2, 1) := by decide +kernel
theorem dL_law_437 : decode cL_law 437 = .ok (.iadd, 1) := by decide +kernel
theorem dL_law_438 : decode cL_law 438 = .ok (.iaload, 1) := by decide +kernel
theorem dL_law_439 : decode cL_law 439 = .ok (.invokevirtual 52, 3) := by decide +kernel
theorem dL_law_442 : decode cL_law 442 = .ok (.if_icmp .eq 338, 3) := by decide +kernel
theorem dL_law_445 : decode cL_law 445 = .ok (.iconst 0, 1) := by decide +kernel
theorem dL_law_446 : decode cL_law 446 = .ok (.ireturn, 1) := by decide +kernel
theorem dL_law_447 : decode cL_law 447 = .ok (.aload_n 1, 1) := by decide +kernel
theorem dL_law_448 : decode cL_law 448 = .ok (.aload_n 0, 1) := by decide +kernel
theorem dL_law_449 : decode cL_law 449 = .ok (.iload_n 3, 1) := by decide +kernel
theorem dL_law_450 : decode cL_law 450 = .ok (.iconst 1, 1) := by decide +kernel
theorem dL_law_451 : decode cL_law 451 = .ok (.iadd, 1) := by decide +kernel
theorem dL_law_452 : decode cL_law 452 = .ok (.iaload, 1) := by decide +kernel
theorem dL_law_453 : decode cL_law 453 = .ok (.aload_n 0, 1) := by decide +kernel
theorem dL_law_454 : decode cL_law 454 = .ok (.iload_n 3, 1) := by decide +kernel
theorem dL_law_455 : decode cL_law 455 = .ok (.iconst 2, 1) := by decide +kernel
theorem dL_law_456 : decode cL_law 456 = .ok (.iadd, 1) := by decide +kernel
theorem dL_law_457 : decode cL_law 457 = .ok (.iaload, 1) := by decide +kernel
theorem dL_law_458 : decode cL_law 458 = .ok (.invokevirtual 53, 3) := by decide +kernel
theorem dL_law_461 : decode cL_law 461 = .ok (.aload_n 2, 1) := by decide +kernel
theorem dL_law_462 : decode cL_law 462 = .ok (.aload_n 0, 1) := by decide +kernel
theorem dL_law_463 : decode cL_law 463 = .ok (.iload_n 3, 1) := by decide +kernel
theorem dL_law_464 : decode cL_law 464 = .ok (.iconst 1, 1) := by decide +kernel
theorem dL_law_465 : decode cL_law 465 = .ok (.iadd, 1) := by decide +kernel
theorem dL_law_466 : decode cL_law 466 = .ok (.iaload, 1) := by decide +kernel
theorem dL_law_467 : decode cL_law 467 = .ok (.aload_n 0, 1) := by decide +kernel
theorem dL_law_468 : decode cL_law 468 = .ok (.iload_n 3, 1) := by decide +kernel
theorem dL_law_469 : decode cL_law 469 = .ok (.iconst 2, 1) := by decide +kernel
theorem dL_law_470 : decode cL_law 470 = .ok (.iadd, 1) := by decide +kernel
theorem dL_law_471 : decode cL_law 471 = .ok (.iaload, 1) := by decide +kernel
theorem dL_law_472 : decode cL_law 472 = .ok (.invokevirtual 56, 3) := by decide +kernel
theorem dL_law_475 : decode cL_law 475 = .ok (.if_icmp .eq 305, 3) := by decide +kernel
theorem dL_law_478 : decode cL_law 478 = .ok (.iconst 0, 1) := by decide +kernel
theorem dL_law_479 : decode cL_law 479 = .ok (.ireturn, 1) := by decide +kernel
theorem dL_law_480 : decode cL_law 480 = .ok (.aload_n 1, 1) := by decide +kernel
theorem dL_law_481 : decode cL_law 481 = .ok (.aload_n 0, 1) := by decide +kernel
theorem dL_law_482 : decode cL_law 482 = .ok (.iload_n 3, 1) := by decide +kernel
theorem dL_law_483 : decode cL_law 483 = .ok (.iconst 1, 1) := by decide +kernel
theorem dL_law_484 : decode cL_law 484 = .ok (.iadd, 1) := by decide +kernel
theorem dL_law_485 : decode cL_law 485 = .ok (.iaload, 1) := by decide +kernel
theorem dL_law_486 : decode cL_law 486 = .ok (.invokevirtual 57, 3) := by decide +kernel
theorem dL_law_489 : decode cL_law 489 = .ok (.aload_n 2, 1) := by decide +kernel
theorem dL_law_490 : decode cL_law 490 = .ok (.aload_n 0, 1) := by decide +kernel
theorem dL_law_491 : decode cL_law 491 = .ok (.iload_n 3, 1) := by decide +kernel
theorem dL_law_492 : decode cL_law 492 = .ok (.iconst 1, 1) := by decide +kernel
theorem dL_law_493 : decode cL_law 493 = .ok (.iadd, 1) := by decide +kernel
theorem dL_law_494 : decode cL_law 494 = .ok (.iaload, 1) := by decide +kernel
theorem dL_law_495 : decode cL_law 495 = .ok (.invokevirtual 60, 3) := by decide +kernel
theorem dL_law_498 : decode cL_law 498 = .ok (.if_icmp .eq 282, 3) := by decide +kernel
theorem dL_law_501 : decode cL_law 501 = .ok (.iconst 0, 1) := by decide +kernel
theorem dL_law_502 : decode cL_law 502 = .ok (.ireturn, 1) := by decide +kernel
theorem dL_law_503 : decode cL_law 503 = .ok (.aload_n 1, 1) := by decide +kernel
theorem dL_law_504 : decode cL_law 504 = .ok (.aload_n 0, 1) := by decide +kernel
