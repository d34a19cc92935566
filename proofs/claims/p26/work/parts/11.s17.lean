set_option maxHeartbeats 4000000 in
set_option maxRecDepth 100000 in
theorem c_X3_numberOfField (l : Launch) (D : va_G) (Y : Nat → ClassId) (a : Nat → Nat) (M : kN) (q w : Int32) (hI : cI M) : kM l yX3_numberOfField wX3_numberOfField rX3_numberOfField D Y (wM Y a M) [.ref (a 0), .int q, .int w] kX0 (kQi D (fun r (_ : Unit) => r = cOfField M q w) (fun _ => wM Y a M)) := by
  refine kentry (cc := cX3_numberOfField) (maxL := 3) (ret := (some .int)) (by decide +kernel) rfl (Nat.le_of_ble_eq_true rfl) ?_
  intro p e s m args below meth c A Q ls hQ hx hb hr hlocks hml hown hin hta hA hX hK hNs hP hD hS hl
  have hown : s.vm.findClass RX3 = some m.cls := hown
  have hl : lv_has ls 3 [(0, .ref (a 0)), (1, .int q), (2, .int w)] := hl
  have h30 := hI.f30
  refine lv_iload_n hx hb dX3_numberOfField_0 rfl (lv_at hl 1 rfl) ?_
  refine lv_iconst (v := 0) hx hb dX3_numberOfField_1 (by decide) ?_
  refine lv_aload_n hx hb dX3_numberOfField_2 rfl (lv_at hl 0 rfl) ?_
  refine gfX3_25 (v := .ref (a 8)) hx hb hta hown hK hP 0 rfl rfl dX3_numberOfField_3 ?_
  refine gfX3_110 (v := .int (M 19 4)) hx hb hta hown hK hP 8 rfl rfl dX3_numberOfField_6 ?_
  refine kTop hI.f ?_
  refine lv_iconst (v := 1) hx hb dX3_numberOfField_9 (by decide) ?_
  refine lv_isub hx hb dX3_numberOfField_10 ?_
  refine kc_i (krSN (As := [.int q, .int 0, .int ((nI (nF M)) - 1)]) (rest := []) (c_X7_isWithin l D Y q 0 ((nI (nF M)) - 1)) ⟨hx, hb, hml, hown, hta⟩ (cwX3_73 hta hNs ⟨Nat.le_of_ble_eq_true rfl, Nat.le_of_ble_eq_true rfl⟩) kX0b (fun _ _ _ => trivial) hK hNs hP hD (kJ_nil) rfl hl.1 rfl (Nat.le_of_ble_eq_true rfl) dX3_numberOfField_11 ⟨Nat.le_of_ble_eq_true rfl, Nat.le_of_ble_eq_true rfl⟩) hP hD hS hA (kJ_nil) (fun _ => rfl) (fun r1 u H locs hw hP hD hS => ?_)
  subst hw
  have hP : va_P D vwCl (wM Y a M) H := hP
  have hD : va_D A (wM Y a M) := hD
  by_cases c2 : pIn q 0 ((nI (nF M)) - 1)
  · refine kTop (kb_t c2) ?_
    refine lv_if_ne (tgt := 19) hx hb dX3_numberOfField_14 (by decide) (fun _ => ?_) (fun h => False.elim (by revert h; decide))
    obtain ⟨k, rfl, hk⟩ := pIn_lt (by omega) c2
    refine lv_iload_n hx hb dX3_numberOfField_19 rfl (lv_at hl 2 rfl) ?_
    by_cases c3 : w = 0
    · refine lv_tableIn (off := 56) (tgt := 76) hx hb dX3_numberOfField_20 (by rw [c3]; decide) (by rw [c3]; decide) (by rw [c3]; rfl) (by decide) ?_
      refine lv_aload_n hx hb dX3_numberOfField_76 rfl (lv_at hl 0 rfl) ?_
      refine gfX3_25 (v := .ref (a 8)) hx hb hta hown hK hP 0 rfl rfl dX3_numberOfField_77 ?_
      refine gfX3_119 (v := .ref (a 9)) hx hb hta hown hK hP 8 rfl rfl dX3_numberOfField_80 ?_
      refine lv_iload_n hx hb dX3_numberOfField_83 rfl (lv_at hl 1 rfl) ?_
      refine kiald (f := M 6) hx hb hK hP 9 rfl k rfl (by omega) (by omega) dX3_numberOfField_84 ?_
      exact kiret (()) hQ hx hb hr hlocks hP hS dX3_numberOfField_85 (by unfold cOfField; rw [hI.f, if_pos c2, if_pos c3] <;> rw [nI_clamp (by omega)])
    · by_cases c4 : w = 1
      · refine lv_tableIn (off := 66) (tgt := 86) hx hb dX3_numberOfField_20 (by rw [c4]; decide) (by rw [c4]; decide) (by rw [c4]; rfl) (by decide) ?_
        refine lv_aload_n hx hb dX3_numberOfField_86 rfl (lv_at hl 0 rfl) ?_
        refine gfX3_25 (v := .ref (a 8)) hx hb hta hown hK hP 0 rfl rfl dX3_numberOfField_87 ?_
        refine gfX3_198 (v := .ref (a 10)) hx hb hta hown hK hP 8 rfl rfl dX3_numberOfField_90 ?_
        refine lv_iload_n hx hb dX3_numberOfField_93 rfl (lv_at hl 1 rfl) ?_
        refine kiald (f := M 7) hx hb hK hP 10 rfl k rfl (by omega) (by omega) dX3_numberOfField_94 ?_
        exact kiret (()) hQ hx hb hr hlocks hP hS dX3_numberOfField_95 (by unfold cOfField; rw [hI.f, if_pos c2, if_neg c3, if_pos c4] <;> rw [nI_clamp (by omega)])
      · by_cases c5 : w = 2
        · refine lv_tableIn (off := 76) (tgt := 96) hx hb dX3_numberOfField_20 (by rw [c5]; decide) (by rw [c5]; decide) (by rw [c5]; rfl) (by decide) ?_
          refine lv_aload_n hx hb dX3_numberOfField_96 rfl (lv_at hl 0 rfl) ?_
          refine gfX3_25 (v := .ref (a 8)) hx hb hta hown hK hP 0 rfl rfl dX3_numberOfField_97 ?_
          refine gfX3_199 (v := .ref (a 11)) hx hb hta hown hK hP 8 rfl rfl dX3_numberOfField_100 ?_
          refine lv_iload_n hx hb dX3_numberOfField_103 rfl (lv_at hl 1 rfl) ?_
          refine kiald (f := M 8) hx hb hK hP 11 rfl k rfl (by omega) (by omega) dX3_numberOfField_104 ?_
          exact kiret (()) hQ hx hb hr hlocks hP hS dX3_numberOfField_105 (by unfold cOfField; rw [hI.f, if_pos c2, if_neg c3, if_neg c4, if_pos c5] <;> rw [nI_clamp (by omega)])
        · by_cases c6 : w = 3
          · refine lv_tableIn (off := 86) (tgt := 106) hx hb dX3_numberOfField_20 (by rw [c6]; decide) (by rw [c6]; decide) (by rw [c6]; rfl) (by decide) ?_
            refine lv_aload_n hx hb dX3_numberOfField_106 rfl (lv_at hl 0 rfl) ?_
            refine gfX3_25 (v := .ref (a 8)) hx hb hta hown hK hP 0 rfl rfl dX3_numberOfField_107 ?_
            refine gfX3_113 (v := .ref (a 12)) hx hb hta hown hK hP 8 rfl rfl dX3_numberOfField_110 ?_
            refine lv_iload_n hx hb dX3_numberOfField_113 rfl (lv_at hl 1 rfl) ?_
            refine kiald (f := M 9) hx hb hK hP 12 rfl k rfl (by omega) (by omega) dX3_numberOfField_114 ?_
            exact kiret (()) hQ hx hb hr hlocks hP hS dX3_numberOfField_115 (by unfold cOfField; rw [hI.f, if_pos c2, if_neg c3, if_neg c4, if_neg c5, if_pos c6] <;> rw [nI_clamp (by omega)])
          · by_cases c7 : w = 4
            · refine lv_tableIn (off := 96) (tgt := 116) hx hb dX3_numberOfField_20 (by rw [c7]; decide) (by rw [c7]; decide) (by rw [c7]; rfl) (by decide) ?_
              refine lv_aload_n hx hb dX3_numberOfField_116 rfl (lv_at hl 0 rfl) ?_
              refine gfX3_25 (v := .ref (a 8)) hx hb hta hown hK hP 0 rfl rfl dX3_numberOfField_117 ?_
              refine lv_iload_n hx hb dX3_numberOfField_120 rfl (lv_at hl 1 rfl) ?_
              refine lv_aload_n hx hb dX3_numberOfField_121 rfl (lv_at hl 0 rfl) ?_
              refine gfX3_60 (v := .int (M 19 0)) hx hb hta hown hK hP 0 rfl rfl dX3_numberOfField_122 ?_
              refine kc_i (krV (As := [.int (nI k), .int (M 19 0)]) (rest := []) (c_X0_howItIs l D Y a M k (M 19 0) (by omega)) ⟨hx, hb, hml, hown, hta⟩ (cwX3_137 hta ⟨Nat.le_of_ble_eq_true rfl, Nat.le_of_ble_eq_true rfl⟩) kX0b (fun _ _ _ => trivial) hK hNs hP hD (kJ_all) (q0 := 8) rfl rfl rfl rfl hl.1 rfl (Nat.le_of_ble_eq_true rfl) dX3_numberOfField_125 ⟨Nat.le_of_ble_eq_true rfl, Nat.le_of_ble_eq_true rfl⟩) hP hD hS hA (kJ_all) (fun _ => rfl) (fun r8 u H locs hw hP hD hS => ?_)
              subst hw
              have hP : va_P D vwCl (wM Y a M) H := hP
              have hD : va_D A (wM Y a M) := hD
              exact kiret (()) hQ hx hb hr hlocks hP hS dX3_numberOfField_128 (by unfold cOfField; rw [hI.f, if_pos c2, if_neg c3, if_neg c4, if_neg c5, if_neg c6, if_pos c7] <;> rw [nI_clamp (by omega)])
            · by_cases c9 : w = 5
              · refine lv_tableIn (off := 109) (tgt := 129) hx hb dX3_numberOfField_20 (by rw [c9]; decide) (by rw [c9]; decide) (by rw [c9]; rfl) (by decide) ?_
                refine lv_aload_n hx hb dX3_numberOfField_129 rfl (lv_at hl 0 rfl) ?_
                refine gfX3_25 (v := .ref (a 8)) hx hb hta hown hK hP 0 rfl rfl dX3_numberOfField_130 ?_
                refine gfX3_154 (v := .ref (a 13)) hx hb hta hown hK hP 8 rfl rfl dX3_numberOfField_133 ?_
                refine lv_iload_n hx hb dX3_numberOfField_136 rfl (lv_at hl 1 rfl) ?_
                refine kiald (f := M 10) hx hb hK hP 13 rfl k rfl (by omega) (by omega) dX3_numberOfField_137 ?_
                exact kiret (()) hQ hx hb hr hlocks hP hS dX3_numberOfField_138 (by unfold cOfField; rw [hI.f, if_pos c2, if_neg c3, if_neg c4, if_neg c5, if_neg c6, if_neg c7, if_pos c9] <;> rw [nI_clamp (by omega)])
              · by_cases c10 : w = 6
                · refine lv_tableIn (off := 119) (tgt := 139) hx hb dX3_numberOfField_20 (by rw [c10]; decide) (by rw [c10]; decide) (by rw [c10]; rfl) (by decide) ?_
                  refine lv_aload_n hx hb dX3_numberOfField_139 rfl (lv_at hl 0 rfl) ?_
                  refine gfX3_25 (v := .ref (a 8)) hx hb hta hown hK hP 0 rfl rfl dX3_numberOfField_140 ?_
                  refine gfX3_165 (v := .ref (a 14)) hx hb hta hown hK hP 8 rfl rfl dX3_numberOfField_143 ?_
                  refine lv_iload_n hx hb dX3_numberOfField_146 rfl (lv_at hl 1 rfl) ?_
                  refine kiald (f := M 11) hx hb hK hP 14 rfl k rfl (by omega) (by omega) dX3_numberOfField_147 ?_
                  exact kiret (()) hQ hx hb hr hlocks hP hS dX3_numberOfField_148 (by unfold cOfField; rw [hI.f, if_pos c2, if_neg c3, if_neg c4, if_neg c5, if_neg c6, if_neg c7, if_neg c9, if_pos c10] <;> rw [nI_clamp (by omega)])
                · by_cases c11 : w = 7
                  · refine lv_tableIn (off := 129) (tgt := 149) hx hb dX3_numberOfField_20 (by rw [c11]; decide) (by rw [c11]; decide) (by rw [c11]; rfl) (by decide) ?_
                    refine lv_aload_n hx hb dX3_numberOfField_149 rfl (lv_at hl 0 rfl) ?_
                    refine gfX3_25 (v := .ref (a 8)) hx hb hta hown hK hP 0 rfl rfl dX3_numberOfField_150 ?_
                    refine gfX3_197 (v := .ref (a 15)) hx hb hta hown hK hP 8 rfl rfl dX3_numberOfField_153 ?_
                    refine lv_iload_n hx hb dX3_numberOfField_156 rfl (lv_at hl 1 rfl) ?_
                    refine kiald (f := M 12) hx hb hK hP 15 rfl k rfl (by omega) (by omega) dX3_numberOfField_157 ?_
                    exact kiret (()) hQ hx hb hr hlocks hP hS dX3_numberOfField_158 (by unfold cOfField; rw [hI.f, if_pos c2, if_neg c3, if_neg c4, if_neg c5, if_neg c6, if_neg c7, if_neg c9, if_neg c10, if_pos c11] <;> rw [nI_clamp (by omega)])
                  · by_cases c12 : w = 8
                    · refine lv_tableIn (off := 139) (tgt := 159) hx hb dX3_numberOfField_20 (by rw [c12]; decide) (by rw [c12]; decide) (by rw [c12]; rfl) (by decide) ?_
                      refine lv_aload_n hx hb dX3_numberOfField_159 rfl (lv_at hl 0 rfl) ?_
                      refine gfX3_25 (v := .ref (a 8)) hx hb hta hown hK hP 0 rfl rfl dX3_numberOfField_160 ?_
                      refine gfX3_202 (v := .ref (a 16)) hx hb hta hown hK hP 8 rfl rfl dX3_numberOfField_163 ?_
                      refine lv_iload_n hx hb dX3_numberOfField_166 rfl (lv_at hl 1 rfl) ?_
                      refine kiald (f := M 13) hx hb hK hP 16 rfl k rfl (by omega) (by omega) dX3_numberOfField_167 ?_
                      exact kiret (()) hQ hx hb hr hlocks hP hS dX3_numberOfField_168 (by unfold cOfField; rw [hI.f, if_pos c2, if_neg c3, if_neg c4, if_neg c5, if_neg c6, if_neg c7, if_neg c9, if_neg c10, if_neg c11, if_pos c12] <;> rw [nI_clamp (by omega)])
                    · by_cases c13 : w = 9
                      · refine lv_tableIn (off := 149) (tgt := 169) hx hb dX3_numberOfField_20 (by rw [c13]; decide) (by rw [c13]; decide) (by rw [c13]; rfl) (by decide) ?_
                        refine lv_aload_n hx hb dX3_numberOfField_169 rfl (lv_at hl 0 rfl) ?_
                        refine gfX3_25 (v := .ref (a 8)) hx hb hta hown hK hP 0 rfl rfl dX3_numberOfField_170 ?_
                        refine lv_iload_n hx hb dX3_numberOfField_173 rfl (lv_at hl 1 rfl) ?_
                        refine lv_aload_n hx hb dX3_numberOfField_174 rfl (lv_at hl 0 rfl) ?_
                        refine gfX3_60 (v := .int (M 19 0)) hx hb hta hown hK hP 0 rfl rfl dX3_numberOfField_175 ?_
                        refine lv_aload_n hx hb dX3_numberOfField_178 rfl (lv_at hl 0 rfl) ?_
                        refine gfX3_9 (v := .ref (a 1)) hx hb hta hown hK hP 0 rfl rfl dX3_numberOfField_179 ?_
                        refine lv_iconst (v := 4) hx hb dX3_numberOfField_182 (by decide) ?_
                        refine kiald (f := M 0) hx hb hK hP 1 rfl 4 rfl (by omega) (by omega) dX3_numberOfField_183 ?_
                        refine kc_i (krV (As := [.int (nI k), .int (M 19 0), .int (M 0 4)]) (rest := []) (c_X0_purityOn l D Y a M k (M 19 0) (M 0 4) (by omega)) ⟨hx, hb, hml, hown, hta⟩ (cwX3_187 hta ⟨Nat.le_of_ble_eq_true rfl, Nat.le_of_ble_eq_true rfl⟩) kX0b (fun _ _ _ => trivial) hK hNs hP hD (kJ_all) (q0 := 8) rfl rfl rfl rfl hl.1 rfl (Nat.le_of_ble_eq_true rfl) dX3_numberOfField_184 ⟨Nat.le_of_ble_eq_true rfl, Nat.le_of_ble_eq_true rfl⟩) hP hD hS hA (kJ_all) (fun _ => rfl) (fun r14 u H locs hw hP hD hS => ?_)
                        subst hw
                        have hP : va_P D vwCl (wM Y a M) H := hP
                        have hD : va_D A (wM Y a M) := hD
                        exact kiret (()) hQ hx hb hr hlocks hP hS dX3_numberOfField_187 (by unfold cOfField; rw [hI.f, if_pos c2, if_neg c3, if_neg c4, if_neg c5, if_neg c6, if_neg c7, if_neg c9, if_neg c10, if_neg c11, if_neg c12, if_pos c13] <;> rw [nI_clamp (by omega)])
                      · refine lv_tableOut (tgt := 188) hx hb dX3_numberOfField_20 (by have := fun z : Int => (fun h : w.toInt = z => h); have q0 : ¬ w.toInt = 0 := fun h => c3 (Int32.toInt_inj.mp (h.trans (by decide))); have q1 : ¬ w.toInt = 1 := fun h => c4 (Int32.toInt_inj.mp (h.trans (by decide))); have q2 : ¬ w.toInt = 2 := fun h => c5 (Int32.toInt_inj.mp (h.trans (by decide))); have q3 : ¬ w.toInt = 3 := fun h => c6 (Int32.toInt_inj.mp (h.trans (by decide))); have q4 : ¬ w.toInt = 4 := fun h => c7 (Int32.toInt_inj.mp (h.trans (by decide))); have q5 : ¬ w.toInt = 5 := fun h => c9 (Int32.toInt_inj.mp (h.trans (by decide))); have q6 : ¬ w.toInt = 6 := fun h => c10 (Int32.toInt_inj.mp (h.trans (by decide))); have q7 : ¬ w.toInt = 7 := fun h => c11 (Int32.toInt_inj.mp (h.trans (by decide))); have q8 : ¬ w.toInt = 8 := fun h => c12 (Int32.toInt_inj.mp (h.trans (by decide))); have q9 : ¬ w.toInt = 9 := fun h => c13 (Int32.toInt_inj.mp (h.trans (by decide))); omega) (by decide) ?_
                        refine lv_bipush (v := (-2)) hx hb dX3_numberOfField_188 (by decide) ?_
                        exact kiret (()) hQ hx hb hr hlocks hP hS dX3_numberOfField_190 (by unfold cOfField; rw [hI.f, if_pos c2, if_neg c3, if_neg c4, if_neg c5, if_neg c6, if_neg c7, if_neg c9, if_neg c10, if_neg c11, if_neg c12, if_neg c13])
  · refine kTop (kb_f c2) ?_
    refine lv_if_ne (tgt := 19) hx hb dX3_numberOfField_14 (by decide) (fun h => False.elim (by revert h; decide)) (fun _ => ?_)
    refine lv_iconst (v := (-1)) hx hb dX3_numberOfField_17 (by decide) ?_
    exact kiret (()) hQ hx hb hr hlocks hP hS dX3_numberOfField_18 (by unfold cOfField; rw [hI.f, if_neg c2])
