set_option maxHeartbeats 4000000 in
set_option maxRecDepth 100000 in
theorem c_X3_numberOfAll (l : Launch) (D : va_G) (Y : Nat → ClassId) (a : Nat → Nat) (M : kN) (w : Int32) : kM l yX3_numberOfAll wX3_numberOfAll rX3_numberOfAll D Y (wM Y a M) [.ref (a 0), .int w] kX0 (kQi D (fun r (_ : Unit) => r = cOfAll M w) (fun _ => wM Y a M)) := by
  refine kentry (cc := cX3_numberOfAll) (maxL := 2) (ret := (some .int)) (by decide +kernel) rfl (Nat.le_of_ble_eq_true rfl) ?_
  intro p e s m args below meth c A Q ls hQ hx hb hr hlocks hml hown hin hta hA hX hK hNs hP hD hS hl
  have hown : s.vm.findClass RX3 = some m.cls := hown
  have hl : lv_has ls 2 [(0, .ref (a 0)), (1, .int w)] := hl
  refine lv_iload_n hx hb dX3_numberOfAll_0 rfl (lv_at hl 1 rfl) ?_
  refine lv_bipush (v := 11) hx hb dX3_numberOfAll_1 (by decide) ?_
  refine lv_bipush (v := 17) hx hb dX3_numberOfAll_3 (by decide) ?_
  refine kc_i (krSN (As := [.int w, .int 11, .int 17]) (rest := []) (c_X7_isWithin l D Y w 11 17) ⟨hx, hb, hml, hown, hta⟩ (cwX3_73 hta hNs ⟨Nat.le_of_ble_eq_true rfl, Nat.le_of_ble_eq_true rfl⟩) kX0b (fun _ _ _ => trivial) hK hNs hP hD (kJ_nil) rfl hl.1 rfl (Nat.le_of_ble_eq_true rfl) dX3_numberOfAll_5 ⟨Nat.le_of_ble_eq_true rfl, Nat.le_of_ble_eq_true rfl⟩) hP hD hS hA (kJ_nil) (fun _ => rfl) (fun r1 u H locs hw hP hD hS => ?_)
  subst hw
  have hP : va_P D vwCl (wM Y a M) H := hP
  have hD : va_D A (wM Y a M) := hD
  by_cases c2 : pIn w 11 17
  · refine kTop (kb_t c2) ?_
    refine lv_if_eq (tgt := 21) hx hb dX3_numberOfAll_8 (by decide) (fun h => False.elim (by revert h; decide)) (fun _ => ?_)
    obtain ⟨k, rfl, hkl, hkh⟩ := pIn_nat c2 (show (11 : Int32) = nI 11 from rfl) (show (17 : Int32) = nI 17 from rfl) (by omega) (by omega)
    refine lv_aload_n hx hb dX3_numberOfAll_11 rfl (lv_at hl 0 rfl) ?_
    refine gfX3_9 (v := .ref (a 1)) hx hb hta hown hK hP 0 rfl rfl dX3_numberOfAll_12 ?_
    refine lv_iload_n hx hb dX3_numberOfAll_15 rfl (lv_at hl 1 rfl) ?_
    refine lv_bipush (v := 11) hx hb dX3_numberOfAll_16 (by decide) ?_
    refine lv_isub hx hb dX3_numberOfAll_18 ?_
    refine kTop (y := nI (k - 11)) (pk_sub (a := k) (b := 11) (by omega)) ?_
    refine kiald (f := M 0) hx hb hK hP 1 rfl (k - 11) rfl (by omega) (by omega) dX3_numberOfAll_19 ?_
    exact kiret (()) hQ hx hb hr hlocks hP hS dX3_numberOfAll_20 (by unfold cOfAll; rw [if_pos c2]; rw [nI_clamp (by omega)])
  · refine kTop (kb_f c2) ?_
    refine lv_if_eq (tgt := 21) hx hb dX3_numberOfAll_8 (by decide) (fun _ => ?_) (fun h => False.elim (by revert h; decide))
    refine lv_iload_n hx hb dX3_numberOfAll_21 rfl (lv_at hl 1 rfl) ?_
    by_cases c3 : w = 0
    · refine lv_tableIn (off := 58) (tgt := 80) hx hb dX3_numberOfAll_22 (by rw [c3]; decide) (by rw [c3]; decide) (by rw [c3]; rfl) (by decide) ?_
      refine lv_aload_n hx hb dX3_numberOfAll_80 rfl (lv_at hl 0 rfl) ?_
      refine gfX3_60 (v := .int (M 19 0)) hx hb hta hown hK hP 0 rfl rfl dX3_numberOfAll_81 ?_
      exact kiret (()) hQ hx hb hr hlocks hP hS dX3_numberOfAll_84 (by unfold cOfAll; rw [if_neg c2, if_pos c3])
    · by_cases c4 : w = 1
      · refine lv_tableIn (off := 63) (tgt := 85) hx hb dX3_numberOfAll_22 (by rw [c4]; decide) (by rw [c4]; decide) (by rw [c4]; rfl) (by decide) ?_
        refine lv_aload_n hx hb dX3_numberOfAll_85 rfl (lv_at hl 0 rfl) ?_
        refine gfX3_25 (v := .ref (a 8)) hx hb hta hown hK hP 0 rfl rfl dX3_numberOfAll_86 ?_
        refine gfX3_110 (v := .int (M 19 4)) hx hb hta hown hK hP 8 rfl rfl dX3_numberOfAll_89 ?_
        exact kiret (()) hQ hx hb hr hlocks hP hS dX3_numberOfAll_92 (by unfold cOfAll; rw [if_neg c2, if_neg c3, if_pos c4])
      · by_cases c5 : w = 2
        · refine lv_tableIn (off := 71) (tgt := 93) hx hb dX3_numberOfAll_22 (by rw [c5]; decide) (by rw [c5]; decide) (by rw [c5]; rfl) (by decide) ?_
          refine lv_aload_n hx hb dX3_numberOfAll_93 rfl (lv_at hl 0 rfl) ?_
          refine gfX3_32 (v := .ref (a 17)) hx hb hta hown hK hP 0 rfl rfl dX3_numberOfAll_94 ?_
          refine gfX3_206 (v := .int (M 19 5)) hx hb hta hown hK hP 17 rfl rfl dX3_numberOfAll_97 ?_
          exact kiret (()) hQ hx hb hr hlocks hP hS dX3_numberOfAll_100 (by unfold cOfAll; rw [if_neg c2, if_neg c3, if_neg c4, if_pos c5])
        · by_cases c6 : w = 3
          · refine lv_tableIn (off := 79) (tgt := 101) hx hb dX3_numberOfAll_22 (by rw [c6]; decide) (by rw [c6]; decide) (by rw [c6]; rfl) (by decide) ?_
            refine lv_aload_n hx hb dX3_numberOfAll_101 rfl (lv_at hl 0 rfl) ?_
            refine gfX3_39 (v := .ref (a 20)) hx hb hta hown hK hP 0 rfl rfl dX3_numberOfAll_102 ?_
            refine gfX3_151 (v := .int (M 19 7)) hx hb hta hown hK hP 20 rfl rfl dX3_numberOfAll_105 ?_
            exact kiret (()) hQ hx hb hr hlocks hP hS dX3_numberOfAll_108 (by unfold cOfAll; rw [if_neg c2, if_neg c3, if_neg c4, if_neg c5, if_pos c6])
          · by_cases c7 : w = 4
            · refine lv_tableIn (off := 87) (tgt := 109) hx hb dX3_numberOfAll_22 (by rw [c7]; decide) (by rw [c7]; decide) (by rw [c7]; rfl) (by decide) ?_
              refine lv_aload_n hx hb dX3_numberOfAll_109 rfl (lv_at hl 0 rfl) ?_
              refine gfX3_39 (v := .ref (a 20)) hx hb hta hown hK hP 0 rfl rfl dX3_numberOfAll_110 ?_
              refine gfX3_148 (v := .int (M 19 6)) hx hb hta hown hK hP 20 rfl rfl dX3_numberOfAll_113 ?_
              exact kiret (()) hQ hx hb hr hlocks hP hS dX3_numberOfAll_116 (by unfold cOfAll; rw [if_neg c2, if_neg c3, if_neg c4, if_neg c5, if_neg c6, if_pos c7])
            · by_cases c8 : w = 5
              · refine lv_tableIn (off := 95) (tgt := 117) hx hb dX3_numberOfAll_22 (by rw [c8]; decide) (by rw [c8]; decide) (by rw [c8]; rfl) (by decide) ?_
                refine lv_aload_n hx hb dX3_numberOfAll_117 rfl (lv_at hl 0 rfl) ?_
                refine gfX3_18 (v := .ref (a 2)) hx hb hta hown hK hP 0 rfl rfl dX3_numberOfAll_118 ?_
                refine kc_i (krV (As := []) (rest := []) (c_X1_totalCrushed l D Y a M) ⟨hx, hb, hml, hown, hta⟩ (cwX3_207 hta ⟨Nat.le_of_ble_eq_true rfl, Nat.le_of_ble_eq_true rfl⟩) kX0b (fun _ _ _ => trivial) hK hNs hP hD (kJ_all) (q0 := 2) rfl rfl rfl rfl hl.1 rfl (Nat.le_of_ble_eq_true rfl) dX3_numberOfAll_121 ⟨Nat.le_of_ble_eq_true rfl, Nat.le_of_ble_eq_true rfl⟩) hP hD hS hA (kJ_all) (fun _ => rfl) (fun r9 u H locs hw hP hD hS => ?_)
                subst hw
                have hP : va_P D vwCl (wM Y a M) H := hP
                have hD : va_D A (wM Y a M) := hD
                exact kiret (()) hQ hx hb hr hlocks hP hS dX3_numberOfAll_124 (by unfold cOfAll; rw [if_neg c2, if_neg c3, if_neg c4, if_neg c5, if_neg c6, if_neg c7, if_pos c8])
              · by_cases c10 : w = 6
                · refine lv_tableIn (off := 103) (tgt := 125) hx hb dX3_numberOfAll_22 (by rw [c10]; decide) (by rw [c10]; decide) (by rw [c10]; rfl) (by decide) ?_
                  refine lv_aload_n hx hb dX3_numberOfAll_125 rfl (lv_at hl 0 rfl) ?_
                  refine gfX3_64 (v := .int (M 19 1)) hx hb hta hown hK hP 0 rfl rfl dX3_numberOfAll_126 ?_
                  exact kiret (()) hQ hx hb hr hlocks hP hS dX3_numberOfAll_129 (by unfold cOfAll; rw [if_neg c2, if_neg c3, if_neg c4, if_neg c5, if_neg c6, if_neg c7, if_neg c8, if_pos c10])
                · by_cases c11 : w = 7
                  · refine lv_tableIn (off := 108) (tgt := 130) hx hb dX3_numberOfAll_22 (by rw [c11]; decide) (by rw [c11]; decide) (by rw [c11]; rfl) (by decide) ?_
                    refine lv_aload_n hx hb dX3_numberOfAll_130 rfl (lv_at hl 0 rfl) ?_
                    refine gfX3_18 (v := .ref (a 2)) hx hb hta hown hK hP 0 rfl rfl dX3_numberOfAll_131 ?_
                    refine kc_i (krV (As := []) (rest := []) (c_X1_totalLost l D Y a M) ⟨hx, hb, hml, hown, hta⟩ (cwX3_210 hta ⟨Nat.le_of_ble_eq_true rfl, Nat.le_of_ble_eq_true rfl⟩) kX0b (fun _ _ _ => trivial) hK hNs hP hD (kJ_all) (q0 := 2) rfl rfl rfl rfl hl.1 rfl (Nat.le_of_ble_eq_true rfl) dX3_numberOfAll_134 ⟨Nat.le_of_ble_eq_true rfl, Nat.le_of_ble_eq_true rfl⟩) hP hD hS hA (kJ_all) (fun _ => rfl) (fun r12 u H locs hw hP hD hS => ?_)
                    subst hw
                    have hP : va_P D vwCl (wM Y a M) H := hP
                    have hD : va_D A (wM Y a M) := hD
                    exact kiret (()) hQ hx hb hr hlocks hP hS dX3_numberOfAll_137 (by unfold cOfAll; rw [if_neg c2, if_neg c3, if_neg c4, if_neg c5, if_neg c6, if_neg c7, if_neg c8, if_neg c10, if_pos c11])
                  · by_cases c13 : w = 8
                    · refine lv_tableIn (off := 116) (tgt := 138) hx hb dX3_numberOfAll_22 (by rw [c13]; decide) (by rw [c13]; decide) (by rw [c13]; rfl) (by decide) ?_
                      refine lv_aload_n hx hb dX3_numberOfAll_138 rfl (lv_at hl 0 rfl) ?_
                      refine gfX3_18 (v := .ref (a 2)) hx hb hta hown hK hP 0 rfl rfl dX3_numberOfAll_139 ?_
                      refine kc_i (krV (As := []) (rest := []) (c_X1_totalPaid l D Y a M) ⟨hx, hb, hml, hown, hta⟩ (cwX3_213 hta ⟨Nat.le_of_ble_eq_true rfl, Nat.le_of_ble_eq_true rfl⟩) kX0b (fun _ _ _ => trivial) hK hNs hP hD (kJ_all) (q0 := 2) rfl rfl rfl rfl hl.1 rfl (Nat.le_of_ble_eq_true rfl) dX3_numberOfAll_142 ⟨Nat.le_of_ble_eq_true rfl, Nat.le_of_ble_eq_true rfl⟩) hP hD hS hA (kJ_all) (fun _ => rfl) (fun r14 u H locs hw hP hD hS => ?_)
                      subst hw
                      have hP : va_P D vwCl (wM Y a M) H := hP
                      have hD : va_D A (wM Y a M) := hD
                      exact kiret (()) hQ hx hb hr hlocks hP hS dX3_numberOfAll_145 (by unfold cOfAll; rw [if_neg c2, if_neg c3, if_neg c4, if_neg c5, if_neg c6, if_neg c7, if_neg c8, if_neg c10, if_neg c11, if_pos c13])
                    · by_cases c15 : w = 9
                      · refine lv_tableIn (off := 124) (tgt := 146) hx hb dX3_numberOfAll_22 (by rw [c15]; decide) (by rw [c15]; decide) (by rw [c15]; rfl) (by decide) ?_
                        refine lv_aload_n hx hb dX3_numberOfAll_146 rfl (lv_at hl 0 rfl) ?_
                        refine gfX3_67 (v := .int (M 19 2)) hx hb hta hown hK hP 0 rfl rfl dX3_numberOfAll_147 ?_
                        exact kiret (()) hQ hx hb hr hlocks hP hS dX3_numberOfAll_150 (by unfold cOfAll; rw [if_neg c2, if_neg c3, if_neg c4, if_neg c5, if_neg c6, if_neg c7, if_neg c8, if_neg c10, if_neg c11, if_neg c13, if_pos c15])
                      · by_cases c16 : w = 10
                        · refine lv_tableIn (off := 129) (tgt := 151) hx hb dX3_numberOfAll_22 (by rw [c16]; decide) (by rw [c16]; decide) (by rw [c16]; rfl) (by decide) ?_
                          refine lv_aload_n hx hb dX3_numberOfAll_151 rfl (lv_at hl 0 rfl) ?_
                          refine gfX3_70 (v := .int (M 19 3)) hx hb hta hown hK hP 0 rfl rfl dX3_numberOfAll_152 ?_
                          exact kiret (()) hQ hx hb hr hlocks hP hS dX3_numberOfAll_155 (by unfold cOfAll; rw [if_neg c2, if_neg c3, if_neg c4, if_neg c5, if_neg c6, if_neg c7, if_neg c8, if_neg c10, if_neg c11, if_neg c13, if_neg c15, if_pos c16])
                        · refine lv_tableOut (tgt := 156) hx hb dX3_numberOfAll_22 (by have := fun z : Int => (fun h : w.toInt = z => h); have q0 : ¬ w.toInt = 0 := fun h => c3 (Int32.toInt_inj.mp (h.trans (by decide))); have q1 : ¬ w.toInt = 1 := fun h => c4 (Int32.toInt_inj.mp (h.trans (by decide))); have q2 : ¬ w.toInt = 2 := fun h => c5 (Int32.toInt_inj.mp (h.trans (by decide))); have q3 : ¬ w.toInt = 3 := fun h => c6 (Int32.toInt_inj.mp (h.trans (by decide))); have q4 : ¬ w.toInt = 4 := fun h => c7 (Int32.toInt_inj.mp (h.trans (by decide))); have q5 : ¬ w.toInt = 5 := fun h => c8 (Int32.toInt_inj.mp (h.trans (by decide))); have q6 : ¬ w.toInt = 6 := fun h => c10 (Int32.toInt_inj.mp (h.trans (by decide))); have q7 : ¬ w.toInt = 7 := fun h => c11 (Int32.toInt_inj.mp (h.trans (by decide))); have q8 : ¬ w.toInt = 8 := fun h => c13 (Int32.toInt_inj.mp (h.trans (by decide))); have q9 : ¬ w.toInt = 9 := fun h => c15 (Int32.toInt_inj.mp (h.trans (by decide))); have q10 : ¬ w.toInt = 10 := fun h => c16 (Int32.toInt_inj.mp (h.trans (by decide))); omega) (by decide) ?_
                          refine lv_bipush (v := (-2)) hx hb dX3_numberOfAll_156 (by decide) ?_
                          exact kiret (()) hQ hx hb hr hlocks hP hS dX3_numberOfAll_158 (by unfold cOfAll; rw [if_neg c2, if_neg c3, if_neg c4, if_neg c5, if_neg c6, if_neg c7, if_neg c8, if_neg c10, if_neg c11, if_neg c13, if_neg c15, if_neg c16])
