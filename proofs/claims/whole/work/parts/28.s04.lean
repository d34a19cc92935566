set_option maxHeartbeats 4000000 in
set_option maxRecDepth 100000 in
theorem c_X8_isOrder (l : Launch) (D : va_G) (Y : Nat → ClassId) (b : Nat → Nat) (R : kN) (a : Nat) (O : Nat → Int32) (o : Nat) (hn : R 7 1 = nI (pn R)) (h80 : pn R ≤ 80) (ha : a ≤ pn R) (ho : o ≤ 26) : kM l yX8_isOrder wX8_isOrder rX8_isOrder D Y (wR Y b (pWr R (a) (O) (o))) [.ref (b 0)] kX0 (kQi D (fun r u => r = kb ((mOrder (R 5) (pn R) o a O).1 = true) ∧ u = ((mOrder (R 5) (pn R) o a O).2.1, (mOrder (R 5) (pn R) o a O).2.2)) (fun u => wR Y b (pWr R u.1 u.2 o))) := by
  refine kentry (cc := cX8_isOrder) (maxL := 2) (ret := (some .boolean)) (by decide +kernel) rfl (Nat.le_of_ble_eq_true rfl) ?_
  intro p e s0 m args below meth c A Q ls hQ hx hb hr hlocks hml hown hin hta hA hX0 hK hNs hP hD hS hl
  have hown : s0.vm.findClass RX8 = some m.cls := hown
  have hl : lv_has ls 2 [(0, .ref (b 0))] := hl
  refine lv_aload_n hx hb dX8_isOrder_0 rfl (lv_at hl 0 rfl) ?_
  refine gfX8_163 (v := .int (nI a)) hx hb hta hown hK hP 0 rfl rfl dX8_isOrder_1 ?_
  refine lv_aload_n hx hb dX8_isOrder_4 rfl (lv_at hl 0 rfl) ?_
  refine gfX8_143 (v := .int (R 7 1)) hx hb hta hown hK hP 0 rfl rfl dX8_isOrder_5 ?_
  refine kTop hn ?_
  refine lv_icmp_ge (tgt := 23) hx hb dX8_isOrder_8 (by decide) (fun c1 => ?_) (fun c1 => ?_)
  · have c1n : (pn R) ≤ a := (nI_leI (a := pn R) (b := a) (by omega) (by omega)).mp c1
    refine lv_iconst (v := 0) hx hb dX8_isOrder_23 (by decide) ?_
    refine kTop (y := mSort (R 5) (pn R) a) (if_pos c1n).symm ?_
    have hms0 : mSort (R 5) (pn R) a = 0 := if_pos c1n
    refine lv_istore_n (lv' := [(1, .int (mSort (R 5) (pn R) a)), (0, .ref (b 0))]) hx hb dX8_isOrder_24 rfl hl (by decide) rfl (fun ls hl => ?_)
    refine lv_aload_n hx hb dX8_isOrder_25 rfl (lv_at hl 1 rfl) ?_
    refine gfX8_29 (v := .ref (b 7)) hx hb hta hown hK hP 0 rfl rfl dX8_isOrder_26 ?_
    refine lv_iconst (v := 5) hx hb dX8_isOrder_29 (by decide) ?_
    refine lv_aload_n hx hb dX8_isOrder_30 rfl (lv_at hl 1 rfl) ?_
    refine gfX8_169 (v := .int (nI o)) hx hb hta hown hK hP 0 rfl rfl dX8_isOrder_31 ?_
    refine lv_imul hx hb dX8_isOrder_34 ?_
    refine kTop (pk_mul 5 o) ?_
    refine lv_iload_n hx hb dX8_isOrder_35 rfl (lv_at hl 0 rfl) ?_
    refine kiast (f := O) hx hb hK hP hD hS 7 rfl (5 * o) rfl (by omega) (by omega) dX8_isOrder_36 (wR Y b (pWr R (a) (upd (O) (5 * o) (mSort (R 5) (pn R) a)) (o))) rfl (fun H locs hP hD hS => ?_)
    refine lv_iload_n hx hb dX8_isOrder_37 rfl (lv_at hl 0 rfl) ?_
    by_cases c2 : mSort (R 5) (pn R) a = 100
    · refine lv_lookup (off := 265) (tgt := 303) hx hb dX8_isOrder_38 (by decide) (by rw [c2]; decide) (by decide) ?_
      exact absurd (hms0.symm.trans c2) (by decide)
    · by_cases c3 : mSort (R 5) (pn R) a = 102
      · refine lv_lookup (off := 50) (tgt := 88) hx hb dX8_isOrder_38 (by decide) (by rw [c3]; decide) (by decide) ?_
        exact absurd (hms0.symm.trans c3) (by decide)
      · by_cases c4 : mSort (R 5) (pn R) a = 108
        · refine lv_lookup (off := 166) (tgt := 204) hx hb dX8_isOrder_38 (by decide) (by rw [c4]; decide) (by decide) ?_
          exact absurd (hms0.symm.trans c4) (by decide)
        · by_cases c5 : mSort (R 5) (pn R) a = 113
          · refine lv_lookup (off := 125) (tgt := 163) hx hb dX8_isOrder_38 (by decide) (by rw [c5]; decide) (by decide) ?_
            exact absurd (hms0.symm.trans c5) (by decide)
          · by_cases c6 : mSort (R 5) (pn R) a = 115
            · refine lv_lookup (off := 224) (tgt := 262) hx hb dX8_isOrder_38 (by decide) (by rw [c6]; decide) (by decide) ?_
              exact absurd (hms0.symm.trans c6) (by decide)
            · refine lv_lookup (off := 281) (tgt := 319) hx hb dX8_isOrder_38 (by decide) (by have q0 : ¬ (mSort (R 5) (pn R) a).toInt = 100 := fun h => c2 (Int32.toInt_inj.mp (h.trans (by decide))); have q1 : ¬ (mSort (R 5) (pn R) a).toInt = 102 := fun h => c3 (Int32.toInt_inj.mp (h.trans (by decide))); have q2 : ¬ (mSort (R 5) (pn R) a).toInt = 108 := fun h => c4 (Int32.toInt_inj.mp (h.trans (by decide))); have q3 : ¬ (mSort (R 5) (pn R) a).toInt = 113 := fun h => c5 (Int32.toInt_inj.mp (h.trans (by decide))); have q4 : ¬ (mSort (R 5) (pn R) a).toInt = 115 := fun h => c6 (Int32.toInt_inj.mp (h.trans (by decide))); simp [Op.lookupswitch.offset, q0, Ne.symm q0, q1, Ne.symm q1, q2, Ne.symm q2, q3, Ne.symm q3, q4, Ne.symm q4]) (by decide) ?_
              refine lv_iconst (v := 0) hx hb dX8_isOrder_319 (by decide) ?_
              exact kzret (((a), (upd (O) (5 * o) (mSort (R 5) (pn R) a)))) hQ hx hb hr hlocks hP hS dX8_isOrder_320 (by first | exact Or.inl rfl | exact Or.inr rfl | exact kb_01 _) (by unfold mOrder; rw [if_neg c2, if_neg c3, if_neg c4, if_neg c5, if_neg c6]; exact ⟨(kb_f (fun h => Bool.noConfusion h)).symm, rfl⟩)
  · have c1n : ¬ (pn R) ≤ a := fun h => c1 ((nI_leI (a := pn R) (b := a) (by omega) (by omega)).mpr h)
    refine lv_aload_n hx hb dX8_isOrder_11 rfl (lv_at hl 0 rfl) ?_
    refine gfX8_26 (v := .ref (b 6)) hx hb hta hown hK hP 0 rfl rfl dX8_isOrder_12 ?_
    refine lv_aload_n hx hb dX8_isOrder_15 rfl (lv_at hl 0 rfl) ?_
    refine gfX8_163 (v := .int (nI a)) hx hb hta hown hK hP 0 rfl rfl dX8_isOrder_16 ?_
    refine kiald (f := R 5) hx hb hK hP 6 rfl a rfl (by omega) (by omega) dX8_isOrder_19 ?_
    refine lv_goto (tgt := 24) hx hb dX8_isOrder_20 (by decide) ?_
    refine kTop (y := mSort (R 5) (pn R) a) (if_neg c1n).symm ?_
    refine lv_istore_n (lv' := [(1, .int (mSort (R 5) (pn R) a)), (0, .ref (b 0))]) hx hb dX8_isOrder_24 rfl hl (by decide) rfl (fun ls hl => ?_)
    refine lv_aload_n hx hb dX8_isOrder_25 rfl (lv_at hl 1 rfl) ?_
    refine gfX8_29 (v := .ref (b 7)) hx hb hta hown hK hP 0 rfl rfl dX8_isOrder_26 ?_
    refine lv_iconst (v := 5) hx hb dX8_isOrder_29 (by decide) ?_
    refine lv_aload_n hx hb dX8_isOrder_30 rfl (lv_at hl 1 rfl) ?_
    refine gfX8_169 (v := .int (nI o)) hx hb hta hown hK hP 0 rfl rfl dX8_isOrder_31 ?_
    refine lv_imul hx hb dX8_isOrder_34 ?_
    refine kTop (pk_mul 5 o) ?_
    refine lv_iload_n hx hb dX8_isOrder_35 rfl (lv_at hl 0 rfl) ?_
    refine kiast (f := O) hx hb hK hP hD hS 7 rfl (5 * o) rfl (by omega) (by omega) dX8_isOrder_36 (wR Y b (pWr R (a) (upd (O) (5 * o) (mSort (R 5) (pn R) a)) (o))) rfl (fun H locs hP hD hS => ?_)
    refine lv_iload_n hx hb dX8_isOrder_37 rfl (lv_at hl 0 rfl) ?_
    by_cases c7 : mSort (R 5) (pn R) a = 100
    · refine lv_lookup (off := 265) (tgt := 303) hx hb dX8_isOrder_38 (by decide) (by rw [c7]; decide) (by decide) ?_
      have haN : a < pn R := by omega
      refine lv_aload_n hx hb dX8_isOrder_303 rfl (lv_at hl 1 rfl) ?_
      refine lv_dup hx hb dX8_isOrder_304 rfl ?_
      refine gfX8_163 (v := .int (nI a)) hx hb hta hown hK hP 0 rfl rfl dX8_isOrder_305 ?_
      refine lv_iconst (v := 1) hx hb dX8_isOrder_308 (by decide) ?_
      refine lv_iadd hx hb dX8_isOrder_309 ?_
      refine kTop (nI_add a 1) ?_
      refine pfX8_163 (ws1 := wR Y b (pWr R (a + 1) (upd (O) (5 * o) (mSort (R 5) (pn R) a)) (o))) hx hb hta hown hK hP hD hS 0 rfl (Nat.le_of_ble_eq_true rfl) rfl dX8_isOrder_310 (fun H locs hP hD hS => ?_)
      refine lv_aload_n hx hb dX8_isOrder_313 rfl (lv_at hl 1 rfl) ?_
      refine lv_iconst (v := 1) hx hb dX8_isOrder_314 (by decide) ?_
      refine kc_i (krV (As := [.int 1]) (rest := []) (c_X8_isNumber l D Y b R (a + 1) (upd (O) (5 * o) (mSort (R 5) (pn R) a)) (o) hn h80 (by omega) 1 ho (by decide)) ⟨hx, hb, hml, hown, hta⟩ (cwX8_178 hta ⟨Nat.le_of_ble_eq_true rfl, Nat.le_of_ble_eq_true rfl⟩) kX0b (fun _ _ _ => trivial) hK hNs hP hD (kJ_all) (q0 := 0) rfl rfl rfl rfl hl.1 rfl (Nat.le_of_ble_eq_true rfl) dX8_isOrder_315 ⟨Nat.le_of_ble_eq_true rfl, Nat.le_of_ble_eq_true rfl⟩) hP hD hS hA (kJ_all) (fun _ => rfl) (fun r8 u H locs hw hP hD hS => ?_)
      obtain ⟨rfl, rfl⟩ := hw
      have hP : va_P D vwCl (wR Y b (pWr R (pNuA (R 5) (pn R) (a + 1)) (pNuO (R 5) (pn R) (a + 1) (upd (O) (5 * o) (mSort (R 5) (pn R) a)) (5 * o + 1)) (o))) H := hP
      have hD : va_D A (wR Y b (pWr R (pNuA (R 5) (pn R) (a + 1)) (pNuO (R 5) (pn R) (a + 1) (upd (O) (5 * o) (mSort (R 5) (pn R) a)) (5 * o + 1)) (o))) := hD
      exact kzret (((pNuA (R 5) (pn R) (a + 1)), (pNuO (R 5) (pn R) (a + 1) (upd (O) (5 * o) (mSort (R 5) (pn R) a)) (5 * o + 1)))) hQ hx hb hr hlocks hP hS dX8_isOrder_318 (by first | exact Or.inl rfl | exact Or.inr rfl | exact kb_01 _) (by unfold mOrder; rw [if_pos c7]; by_cases hz : pAt (R 5) (pn R) (a + 1) 48 57; (rw [pN_t hz]; exact ⟨(kb_t hz).trans (kb_t rfl).symm, rfl⟩); (rw [pN_f hz]; exact ⟨(kb_f hz).trans (kb_f (fun h => Bool.noConfusion h)).symm, rfl⟩))
    · by_cases c9 : mSort (R 5) (pn R) a = 102
      · refine lv_lookup (off := 50) (tgt := 88) hx hb dX8_isOrder_38 (by decide) (by rw [c9]; decide) (by decide) ?_
        have haN : a < pn R := by omega
        refine lv_aload_n hx hb dX8_isOrder_88 rfl (lv_at hl 1 rfl) ?_
        refine lv_dup hx hb dX8_isOrder_89 rfl ?_
        refine gfX8_163 (v := .int (nI a)) hx hb hta hown hK hP 0 rfl rfl dX8_isOrder_90 ?_
        refine lv_iconst (v := 1) hx hb dX8_isOrder_93 (by decide) ?_
        refine lv_iadd hx hb dX8_isOrder_94 ?_
        refine kTop (nI_add a 1) ?_
        refine pfX8_163 (ws1 := wR Y b (pWr R (a + 1) (upd (O) (5 * o) (mSort (R 5) (pn R) a)) (o))) hx hb hta hown hK hP hD hS 0 rfl (Nat.le_of_ble_eq_true rfl) rfl dX8_isOrder_95 (fun H locs hP hD hS => ?_)
        refine lv_aload_n hx hb dX8_isOrder_98 rfl (lv_at hl 1 rfl) ?_
        refine lv_iconst (v := 1) hx hb dX8_isOrder_99 (by decide) ?_
        refine kc_i (krV (As := [.int 1]) (rest := []) (c_X8_isDigit l D Y b R (a + 1) (upd (O) (5 * o) (mSort (R 5) (pn R) a)) (o) hn h80 (by omega) 1 ho (by decide)) ⟨hx, hb, hml, hown, hta⟩ (cwX8_172 hta ⟨Nat.le_of_ble_eq_true rfl, Nat.le_of_ble_eq_true rfl⟩) kX0b (fun _ _ _ => trivial) hK hNs hP hD (kJ_all) (q0 := 0) rfl rfl rfl rfl hl.1 rfl (Nat.le_of_ble_eq_true rfl) dX8_isOrder_100 ⟨Nat.le_of_ble_eq_true rfl, Nat.le_of_ble_eq_true rfl⟩) hP hD hS hA (kJ_all) (fun _ => rfl) (fun r10 u H locs hw hP hD hS => ?_)
        obtain ⟨rfl, rfl⟩ := hw
        have hP : va_P D vwCl (wR Y b (pWr R (pSg (R 5) (pn R) (a + 1) 48 53) (pDgO (R 5) (pn R) (a + 1) (upd (O) (5 * o) (mSort (R 5) (pn R) a)) (5 * o + 1)) (o))) H := hP
        have hD : va_D A (wR Y b (pWr R (pSg (R 5) (pn R) (a + 1) 48 53) (pDgO (R 5) (pn R) (a + 1) (upd (O) (5 * o) (mSort (R 5) (pn R) a)) (5 * o + 1)) (o))) := hD
        by_cases c11 : pAt (R 5) (pn R) (a + 1) 48 53
        · refine kTop (kb_t c11) ?_
          refine lv_if_eq (tgt := 161) hx hb dX8_isOrder_103 (by decide) (fun h => False.elim (by revert h; decide)) (fun _ => ?_)
          refine lv_aload_n hx hb dX8_isOrder_106 rfl (lv_at hl 1 rfl) ?_
          refine lv_bipush (v := 58) hx hb dX8_isOrder_107 (by decide) ?_
          refine kc_i (krV (As := [.int 58]) (rest := []) (c_X8_isSign l D Y b R (pSg (R 5) (pn R) (a + 1) 48 53) (pDgO (R 5) (pn R) (a + 1) (upd (O) (5 * o) (mSort (R 5) (pn R) a)) (5 * o + 1)) (o) hn h80 ((pSg_le (by omega)).1) 58) ⟨hx, hb, hml, hown, hta⟩ (cwX8_175 hta ⟨Nat.le_of_ble_eq_true rfl, Nat.le_of_ble_eq_true rfl⟩) kX0b (fun _ _ _ => trivial) hK hNs hP hD (kJ_all) (q0 := 0) rfl rfl rfl rfl hl.1 rfl (Nat.le_of_ble_eq_true rfl) dX8_isOrder_109 ⟨Nat.le_of_ble_eq_true rfl, Nat.le_of_ble_eq_true rfl⟩) hP hD hS hA (kJ_all) (fun _ => rfl) (fun r12 u H locs hw hP hD hS => ?_)
          obtain ⟨rfl, rfl⟩ := hw
          have hP : va_P D vwCl (wR Y b (pWr R (pSg (R 5) (pn R) (pSg (R 5) (pn R) (a + 1) 48 53) 58 58) (pDgO (R 5) (pn R) (a + 1) (upd (O) (5 * o) (mSort (R 5) (pn R) a)) (5 * o + 1)) (o))) H := hP
          have hD : va_D A (wR Y b (pWr R (pSg (R 5) (pn R) (pSg (R 5) (pn R) (a + 1) 48 53) 58 58) (pDgO (R 5) (pn R) (a + 1) (upd (O) (5 * o) (mSort (R 5) (pn R) a)) (5 * o + 1)) (o))) := hD
          by_cases c13 : pAt (R 5) (pn R) (pSg (R 5) (pn R) (a + 1) 48 53) 58 58
          · refine kTop (kb_t c13) ?_
            refine lv_if_eq (tgt := 161) hx hb dX8_isOrder_112 (by decide) (fun h => False.elim (by revert h; decide)) (fun _ => ?_)
            refine lv_aload_n hx hb dX8_isOrder_115 rfl (lv_at hl 1 rfl) ?_
            refine lv_iconst (v := 2) hx hb dX8_isOrder_116 (by decide) ?_
            refine kc_i (krV (As := [.int 2]) (rest := []) (c_X8_isNumber l D Y b R (pSg (R 5) (pn R) (pSg (R 5) (pn R) (a + 1) 48 53) 58 58) (pDgO (R 5) (pn R) (a + 1) (upd (O) (5 * o) (mSort (R 5) (pn R) a)) (5 * o + 1)) (o) hn h80 ((pSg_le (pSg_le (by omega)).1).1) 2 ho (by decide)) ⟨hx, hb, hml, hown, hta⟩ (cwX8_178 hta ⟨Nat.le_of_ble_eq_true rfl, Nat.le_of_ble_eq_true rfl⟩) kX0b (fun _ _ _ => trivial) hK hNs hP hD (kJ_all) (q0 := 0) rfl rfl rfl rfl hl.1 rfl (Nat.le_of_ble_eq_true rfl) dX8_isOrder_117 ⟨Nat.le_of_ble_eq_true rfl, Nat.le_of_ble_eq_true rfl⟩) hP hD hS hA (kJ_all) (fun _ => rfl) (fun r14 u H locs hw hP hD hS => ?_)
            obtain ⟨rfl, rfl⟩ := hw
            have hP : va_P D vwCl (wR Y b (pWr R (pNuA (R 5) (pn R) (pSg (R 5) (pn R) (pSg (R 5) (pn R) (a + 1) 48 53) 58 58)) (pNuO (R 5) (pn R) (pSg (R 5) (pn R) (pSg (R 5) (pn R) (a + 1) 48 53) 58 58) (pDgO (R 5) (pn R) (a + 1) (upd (O) (5 * o) (mSort (R 5) (pn R) a)) (5 * o + 1)) (5 * o + 2)) (o))) H := hP
            have hD : va_D A (wR Y b (pWr R (pNuA (R 5) (pn R) (pSg (R 5) (pn R) (pSg (R 5) (pn R) (a + 1) 48 53) 58 58)) (pNuO (R 5) (pn R) (pSg (R 5) (pn R) (pSg (R 5) (pn R) (a + 1) 48 53) 58 58) (pDgO (R 5) (pn R) (a + 1) (upd (O) (5 * o) (mSort (R 5) (pn R) a)) (5 * o + 1)) (5 * o + 2)) (o))) := hD
            by_cases c15 : pAt (R 5) (pn R) (pSg (R 5) (pn R) (pSg (R 5) (pn R) (a + 1) 48 53) 58 58) 48 57
            · refine kTop (kb_t c15) ?_
              refine lv_if_eq (tgt := 161) hx hb dX8_isOrder_120 (by decide) (fun h => False.elim (by revert h; decide)) (fun _ => ?_)
              refine lv_aload_n hx hb dX8_isOrder_123 rfl (lv_at hl 1 rfl) ?_
              refine lv_bipush (v := 37) hx hb dX8_isOrder_124 (by decide) ?_
              refine kc_i (krV (As := [.int 37]) (rest := []) (c_X8_isSign l D Y b R (pNuA (R 5) (pn R) (pSg (R 5) (pn R) (pSg (R 5) (pn R) (a + 1) 48 53) 58 58)) (pNuO (R 5) (pn R) (pSg (R 5) (pn R) (pSg (R 5) (pn R) (a + 1) 48 53) 58 58) (pDgO (R 5) (pn R) (a + 1) (upd (O) (5 * o) (mSort (R 5) (pn R) a)) (5 * o + 1)) (5 * o + 2)) (o) hn h80 ((pNuA_le (pSg_le (pSg_le (by omega)).1).1).1) 37) ⟨hx, hb, hml, hown, hta⟩ (cwX8_175 hta ⟨Nat.le_of_ble_eq_true rfl, Nat.le_of_ble_eq_true rfl⟩) kX0b (fun _ _ _ => trivial) hK hNs hP hD (kJ_all) (q0 := 0) rfl rfl rfl rfl hl.1 rfl (Nat.le_of_ble_eq_true rfl) dX8_isOrder_126 ⟨Nat.le_of_ble_eq_true rfl, Nat.le_of_ble_eq_true rfl⟩) hP hD hS hA (kJ_all) (fun _ => rfl) (fun r16 u H locs hw hP hD hS => ?_)
              obtain ⟨rfl, rfl⟩ := hw
              have hP : va_P D vwCl (wR Y b (pWr R (pSg (R 5) (pn R) (pNuA (R 5) (pn R) (pSg (R 5) (pn R) (pSg (R 5) (pn R) (a + 1) 48 53) 58 58)) 37 37) (pNuO (R 5) (pn R) (pSg (R 5) (pn R) (pSg (R 5) (pn R) (a + 1) 48 53) 58 58) (pDgO (R 5) (pn R) (a + 1) (upd (O) (5 * o) (mSort (R 5) (pn R) a)) (5 * o + 1)) (5 * o + 2)) (o))) H := hP
              have hD : va_D A (wR Y b (pWr R (pSg (R 5) (pn R) (pNuA (R 5) (pn R) (pSg (R 5) (pn R) (pSg (R 5) (pn R) (a + 1) 48 53) 58 58)) 37 37) (pNuO (R 5) (pn R) (pSg (R 5) (pn R) (pSg (R 5) (pn R) (a + 1) 48 53) 58 58) (pDgO (R 5) (pn R) (a + 1) (upd (O) (5 * o) (mSort (R 5) (pn R) a)) (5 * o + 1)) (5 * o + 2)) (o))) := hD
              by_cases c17 : pAt (R 5) (pn R) (pNuA (R 5) (pn R) (pSg (R 5) (pn R) (pSg (R 5) (pn R) (a + 1) 48 53) 58 58)) 37 37
              · refine kTop (kb_t c17) ?_
                refine lv_if_eq (tgt := 161) hx hb dX8_isOrder_129 (by decide) (fun h => False.elim (by revert h; decide)) (fun _ => ?_)
                refine lv_aload_n hx hb dX8_isOrder_132 rfl (lv_at hl 1 rfl) ?_
                refine lv_iconst (v := 3) hx hb dX8_isOrder_133 (by decide) ?_
                refine kc_i (krV (As := [.int 3]) (rest := []) (c_X8_isNumber l D Y b R (pSg (R 5) (pn R) (pNuA (R 5) (pn R) (pSg (R 5) (pn R) (pSg (R 5) (pn R) (a + 1) 48 53) 58 58)) 37 37) (pNuO (R 5) (pn R) (pSg (R 5) (pn R) (pSg (R 5) (pn R) (a + 1) 48 53) 58 58) (pDgO (R 5) (pn R) (a + 1) (upd (O) (5 * o) (mSort (R 5) (pn R) a)) (5 * o + 1)) (5 * o + 2)) (o) hn h80 ((pSg_le (pNuA_le (pSg_le (pSg_le (by omega)).1).1).1).1) 3 ho (by decide)) ⟨hx, hb, hml, hown, hta⟩ (cwX8_178 hta ⟨Nat.le_of_ble_eq_true rfl, Nat.le_of_ble_eq_true rfl⟩) kX0b (fun _ _ _ => trivial) hK hNs hP hD (kJ_all) (q0 := 0) rfl rfl rfl rfl hl.1 rfl (Nat.le_of_ble_eq_true rfl) dX8_isOrder_134 ⟨Nat.le_of_ble_eq_true rfl, Nat.le_of_ble_eq_true rfl⟩) hP hD hS hA (kJ_all) (fun _ => rfl) (fun r18 u H locs hw hP hD hS => ?_)
                obtain ⟨rfl, rfl⟩ := hw
                have hP : va_P D vwCl (wR Y b (pWr R (pNuA (R 5) (pn R) (pSg (R 5) (pn R) (pNuA (R 5) (pn R) (pSg (R 5) (pn R) (pSg (R 5) (pn R) (a + 1) 48 53) 58 58)) 37 37)) (pNuO (R 5) (pn R) (pSg (R 5) (pn R) (pNuA (R 5) (pn R) (pSg (R 5) (pn R) (pSg (R 5) (pn R) (a + 1) 48 53) 58 58)) 37 37) (pNuO (R 5) (pn R) (pSg (R 5) (pn R) (pSg (R 5) (pn R) (a + 1) 48 53) 58 58) (pDgO (R 5) (pn R) (a + 1) (upd (O) (5 * o) (mSort (R 5) (pn R) a)) (5 * o + 1)) (5 * o + 2)) (5 * o + 3)) (o))) H := hP
                have hD : va_D A (wR Y b (pWr R (pNuA (R 5) (pn R) (pSg (R 5) (pn R) (pNuA (R 5) (pn R) (pSg (R 5) (pn R) (pSg (R 5) (pn R) (a + 1) 48 53) 58 58)) 37 37)) (pNuO (R 5) (pn R) (pSg (R 5) (pn R) (pNuA (R 5) (pn R) (pSg (R 5) (pn R) (pSg (R 5) (pn R) (a + 1) 48 53) 58 58)) 37 37) (pNuO (R 5) (pn R) (pSg (R 5) (pn R) (pSg (R 5) (pn R) (a + 1) 48 53) 58 58) (pDgO (R 5) (pn R) (a + 1) (upd (O) (5 * o) (mSort (R 5) (pn R) a)) (5 * o + 1)) (5 * o + 2)) (5 * o + 3)) (o))) := hD
                by_cases c19 : pAt (R 5) (pn R) (pSg (R 5) (pn R) (pNuA (R 5) (pn R) (pSg (R 5) (pn R) (pSg (R 5) (pn R) (a + 1) 48 53) 58 58)) 37 37) 48 57
                · refine kTop (kb_t c19) ?_
                  refine lv_if_eq (tgt := 161) hx hb dX8_isOrder_137 (by decide) (fun h => False.elim (by revert h; decide)) (fun _ => ?_)
                  refine lv_aload_n hx hb dX8_isOrder_140 rfl (lv_at hl 1 rfl) ?_
                  refine lv_bipush (v := 64) hx hb dX8_isOrder_141 (by decide) ?_
                  refine kc_i (krV (As := [.int 64]) (rest := []) (c_X8_isSign l D Y b R (pNuA (R 5) (pn R) (pSg (R 5) (pn R) (pNuA (R 5) (pn R) (pSg (R 5) (pn R) (pSg (R 5) (pn R) (a + 1) 48 53) 58 58)) 37 37)) (pNuO (R 5) (pn R) (pSg (R 5) (pn R) (pNuA (R 5) (pn R) (pSg (R 5) (pn R) (pSg (R 5) (pn R) (a + 1) 48 53) 58 58)) 37 37) (pNuO (R 5) (pn R) (pSg (R 5) (pn R) (pSg (R 5) (pn R) (a + 1) 48 53) 58 58) (pDgO (R 5) (pn R) (a + 1) (upd (O) (5 * o) (mSort (R 5) (pn R) a)) (5 * o + 1)) (5 * o + 2)) (5 * o + 3)) (o) hn h80 ((pNuA_le (pSg_le (pNuA_le (pSg_le (pSg_le (by omega)).1).1).1).1).1) 64) ⟨hx, hb, hml, hown, hta⟩ (cwX8_175 hta ⟨Nat.le_of_ble_eq_true rfl, Nat.le_of_ble_eq_true rfl⟩) kX0b (fun _ _ _ => trivial) hK hNs hP hD (kJ_all) (q0 := 0) rfl rfl rfl rfl hl.1 rfl (Nat.le_of_ble_eq_true rfl) dX8_isOrder_143 ⟨Nat.le_of_ble_eq_true rfl, Nat.le_of_ble_eq_true rfl⟩) hP hD hS hA (kJ_all) (fun _ => rfl) (fun r20 u H locs hw hP hD hS => ?_)
                  obtain ⟨rfl, rfl⟩ := hw
                  have hP : va_P D vwCl (wR Y b (pWr R (pSg (R 5) (pn R) (pNuA (R 5) (pn R) (pSg (R 5) (pn R) (pNuA (R 5) (pn R) (pSg (R 5) (pn R) (pSg (R 5) (pn R) (a + 1) 48 53) 58 58)) 37 37)) 64 64) (pNuO (R 5) (pn R) (pSg (R 5) (pn R) (pNuA (R 5) (pn R) (pSg (R 5) (pn R) (pSg (R 5) (pn R) (a + 1) 48 53) 58 58)) 37 37) (pNuO (R 5) (pn R) (pSg (R 5) (pn R) (pSg (R 5) (pn R) (a + 1) 48 53) 58 58) (pDgO (R 5) (pn R) (a + 1) (upd (O) (5 * o) (mSort (R 5) (pn R) a)) (5 * o + 1)) (5 * o + 2)) (5 * o + 3)) (o))) H := hP
                  have hD : va_D A (wR Y b (pWr R (pSg (R 5) (pn R) (pNuA (R 5) (pn R) (pSg (R 5) (pn R) (pNuA (R 5) (pn R) (pSg (R 5) (pn R) (pSg (R 5) (pn R) (a + 1) 48 53) 58 58)) 37 37)) 64 64) (pNuO (R 5) (pn R) (pSg (R 5) (pn R) (pNuA (R 5) (pn R) (pSg (R 5) (pn R) (pSg (R 5) (pn R) (a + 1) 48 53) 58 58)) 37 37) (pNuO (R 5) (pn R) (pSg (R 5) (pn R) (pSg (R 5) (pn R) (a + 1) 48 53) 58 58) (pDgO (R 5) (pn R) (a + 1) (upd (O) (5 * o) (mSort (R 5) (pn R) a)) (5 * o + 1)) (5 * o + 2)) (5 * o + 3)) (o))) := hD
                  by_cases c21 : pAt (R 5) (pn R) (pNuA (R 5) (pn R) (pSg (R 5) (pn R) (pNuA (R 5) (pn R) (pSg (R 5) (pn R) (pSg (R 5) (pn R) (a + 1) 48 53) 58 58)) 37 37)) 64 64
                  · refine kTop (kb_t c21) ?_
                    refine lv_if_eq (tgt := 161) hx hb dX8_isOrder_146 (by decide) (fun h => False.elim (by revert h; decide)) (fun _ => ?_)
                    refine lv_aload_n hx hb dX8_isOrder_149 rfl (lv_at hl 1 rfl) ?_
                    refine lv_iconst (v := 4) hx hb dX8_isOrder_150 (by decide) ?_
                    refine kc_i (krV (As := [.int 4]) (rest := []) (c_X8_isNumber l D Y b R (pSg (R 5) (pn R) (pNuA (R 5) (pn R) (pSg (R 5) (pn R) (pNuA (R 5) (pn R) (pSg (R 5) (pn R) (pSg (R 5) (pn R) (a + 1) 48 53) 58 58)) 37 37)) 64 64) (pNuO (R 5) (pn R) (pSg (R 5) (pn R) (pNuA (R 5) (pn R) (pSg (R 5) (pn R) (pSg (R 5) (pn R) (a + 1) 48 53) 58 58)) 37 37) (pNuO (R 5) (pn R) (pSg (R 5) (pn R) (pSg (R 5) (pn R) (a + 1) 48 53) 58 58) (pDgO (R 5) (pn R) (a + 1) (upd (O) (5 * o) (mSort (R 5) (pn R) a)) (5 * o + 1)) (5 * o + 2)) (5 * o + 3)) (o) hn h80 ((pSg_le (pNuA_le (pSg_le (pNuA_le (pSg_le (pSg_le (by omega)).1).1).1).1).1).1) 4 ho (by decide)) ⟨hx, hb, hml, hown, hta⟩ (cwX8_178 hta ⟨Nat.le_of_ble_eq_true rfl, Nat.le_of_ble_eq_true rfl⟩) kX0b (fun _ _ _ => trivial) hK hNs hP hD (kJ_all) (q0 := 0) rfl rfl rfl rfl hl.1 rfl (Nat.le_of_ble_eq_true rfl) dX8_isOrder_151 ⟨Nat.le_of_ble_eq_true rfl, Nat.le_of_ble_eq_true rfl⟩) hP hD hS hA (kJ_all) (fun _ => rfl) (fun r22 u H locs hw hP hD hS => ?_)
                    obtain ⟨rfl, rfl⟩ := hw
                    have hP : va_P D vwCl (wR Y b (pWr R (pNuA (R 5) (pn R) (pSg (R 5) (pn R) (pNuA (R 5) (pn R) (pSg (R 5) (pn R) (pNuA (R 5) (pn R) (pSg (R 5) (pn R) (pSg (R 5) (pn R) (a + 1) 48 53) 58 58)) 37 37)) 64 64)) (pNuO (R 5) (pn R) (pSg (R 5) (pn R) (pNuA (R 5) (pn R) (pSg (R 5) (pn R) (pNuA (R 5) (pn R) (pSg (R 5) (pn R) (pSg (R 5) (pn R) (a + 1) 48 53) 58 58)) 37 37)) 64 64) (pNuO (R 5) (pn R) (pSg (R 5) (pn R) (pNuA (R 5) (pn R) (pSg (R 5) (pn R) (pSg (R 5) (pn R) (a + 1) 48 53) 58 58)) 37 37) (pNuO (R 5) (pn R) (pSg (R 5) (pn R) (pSg (R 5) (pn R) (a + 1) 48 53) 58 58) (pDgO (R 5) (pn R) (a + 1) (upd (O) (5 * o) (mSort (R 5) (pn R) a)) (5 * o + 1)) (5 * o + 2)) (5 * o + 3)) (5 * o + 4)) (o))) H := hP
                    have hD : va_D A (wR Y b (pWr R (pNuA (R 5) (pn R) (pSg (R 5) (pn R) (pNuA (R 5) (pn R) (pSg (R 5) (pn R) (pNuA (R 5) (pn R) (pSg (R 5) (pn R) (pSg (R 5) (pn R) (a + 1) 48 53) 58 58)) 37 37)) 64 64)) (pNuO (R 5) (pn R) (pSg (R 5) (pn R) (pNuA (R 5) (pn R) (pSg (R 5) (pn R) (pNuA (R 5) (pn R) (pSg (R 5) (pn R) (pSg (R 5) (pn R) (a + 1) 48 53) 58 58)) 37 37)) 64 64) (pNuO (R 5) (pn R) (pSg (R 5) (pn R) (pNuA (R 5) (pn R) (pSg (R 5) (pn R) (pSg (R 5) (pn R) (a + 1) 48 53) 58 58)) 37 37) (pNuO (R 5) (pn R) (pSg (R 5) (pn R) (pSg (R 5) (pn R) (a + 1) 48 53) 58 58) (pDgO (R 5) (pn R) (a + 1) (upd (O) (5 * o) (mSort (R 5) (pn R) a)) (5 * o + 1)) (5 * o + 2)) (5 * o + 3)) (5 * o + 4)) (o))) := hD
                    by_cases c23 : pAt (R 5) (pn R) (pSg (R 5) (pn R) (pNuA (R 5) (pn R) (pSg (R 5) (pn R) (pNuA (R 5) (pn R) (pSg (R 5) (pn R) (pSg (R 5) (pn R) (a + 1) 48 53) 58 58)) 37 37)) 64 64) 48 57
                    · refine kTop (kb_t c23) ?_
                      refine lv_if_eq (tgt := 161) hx hb dX8_isOrder_154 (by decide) (fun h => False.elim (by revert h; decide)) (fun _ => ?_)
                      refine lv_iconst (v := 1) hx hb dX8_isOrder_157 (by decide) ?_
                      refine lv_goto (tgt := 162) hx hb dX8_isOrder_158 (by decide) ?_
                      exact kzret (((pNuA (R 5) (pn R) (pSg (R 5) (pn R) (pNuA (R 5) (pn R) (pSg (R 5) (pn R) (pNuA (R 5) (pn R) (pSg (R 5) (pn R) (pSg (R 5) (pn R) (a + 1) 48 53) 58 58)) 37 37)) 64 64)), (pNuO (R 5) (pn R) (pSg (R 5) (pn R) (pNuA (R 5) (pn R) (pSg (R 5) (pn R) (pNuA (R 5) (pn R) (pSg (R 5) (pn R) (pSg (R 5) (pn R) (a + 1) 48 53) 58 58)) 37 37)) 64 64) (pNuO (R 5) (pn R) (pSg (R 5) (pn R) (pNuA (R 5) (pn R) (pSg (R 5) (pn R) (pSg (R 5) (pn R) (a + 1) 48 53) 58 58)) 37 37) (pNuO (R 5) (pn R) (pSg (R 5) (pn R) (pSg (R 5) (pn R) (a + 1) 48 53) 58 58) (pDgO (R 5) (pn R) (a + 1) (upd (O) (5 * o) (mSort (R 5) (pn R) a)) (5 * o + 1)) (5 * o + 2)) (5 * o + 3)) (5 * o + 4)))) hQ hx hb hr hlocks hP hS dX8_isOrder_162 (by first | exact Or.inl rfl | exact Or.inr rfl | exact kb_01 _) (by unfold mOrder; rw [if_neg c7, if_pos c9]; rw [pD_t c11, pS_t c13, pN_t c15, pS_t c17, pN_t c19, pS_t c21, pN_t c23]; exact ⟨(kb_t rfl).symm, rfl⟩)
                    · refine kTop (kb_f c23) ?_
                      refine lv_if_eq (tgt := 161) hx hb dX8_isOrder_154 (by decide) (fun _ => ?_) (fun h => False.elim (by revert h; decide))
                      refine lv_iconst (v := 0) hx hb dX8_isOrder_161 (by decide) ?_
                      exact kzret (((pNuA (R 5) (pn R) (pSg (R 5) (pn R) (pNuA (R 5) (pn R) (pSg (R 5) (pn R) (pNuA (R 5) (pn R) (pSg (R 5) (pn R) (pSg (R 5) (pn R) (a + 1) 48 53) 58 58)) 37 37)) 64 64)), (pNuO (R 5) (pn R) (pSg (R 5) (pn R) (pNuA (R 5) (pn R) (pSg (R 5) (pn R) (pNuA (R 5) (pn R) (pSg (R 5) (pn R) (pSg (R 5) (pn R) (a + 1) 48 53) 58 58)) 37 37)) 64 64) (pNuO (R 5) (pn R) (pSg (R 5) (pn R) (pNuA (R 5) (pn R) (pSg (R 5) (pn R) (pSg (R 5) (pn R) (a + 1) 48 53) 58 58)) 37 37) (pNuO (R 5) (pn R) (pSg (R 5) (pn R) (pSg (R 5) (pn R) (a + 1) 48 53) 58 58) (pDgO (R 5) (pn R) (a + 1) (upd (O) (5 * o) (mSort (R 5) (pn R) a)) (5 * o + 1)) (5 * o + 2)) (5 * o + 3)) (5 * o + 4)))) hQ hx hb hr hlocks hP hS dX8_isOrder_162 (by first | exact Or.inl rfl | exact Or.inr rfl | exact kb_01 _) (by unfold mOrder; rw [if_neg c7, if_pos c9]; rw [pD_t c11, pS_t c13, pN_t c15, pS_t c17, pN_t c19, pS_t c21, pN_f c23]; exact ⟨(kb_f (fun h => Bool.noConfusion h)).symm, rfl⟩)
                  · refine kTop (kb_f c21) ?_
                    refine lv_if_eq (tgt := 161) hx hb dX8_isOrder_146 (by decide) (fun _ => ?_) (fun h => False.elim (by revert h; decide))
                    refine lv_iconst (v := 0) hx hb dX8_isOrder_161 (by decide) ?_
                    exact kzret (((pSg (R 5) (pn R) (pNuA (R 5) (pn R) (pSg (R 5) (pn R) (pNuA (R 5) (pn R) (pSg (R 5) (pn R) (pSg (R 5) (pn R) (a + 1) 48 53) 58 58)) 37 37)) 64 64), (pNuO (R 5) (pn R) (pSg (R 5) (pn R) (pNuA (R 5) (pn R) (pSg (R 5) (pn R) (pSg (R 5) (pn R) (a + 1) 48 53) 58 58)) 37 37) (pNuO (R 5) (pn R) (pSg (R 5) (pn R) (pSg (R 5) (pn R) (a + 1) 48 53) 58 58) (pDgO (R 5) (pn R) (a + 1) (upd (O) (5 * o) (mSort (R 5) (pn R) a)) (5 * o + 1)) (5 * o + 2)) (5 * o + 3)))) hQ hx hb hr hlocks hP hS dX8_isOrder_162 (by first | exact Or.inl rfl | exact Or.inr rfl | exact kb_01 _) (by unfold mOrder; rw [if_neg c7, if_pos c9]; rw [pD_t c11, pS_t c13, pN_t c15, pS_t c17, pN_t c19, pS_f c21, pN_x]; exact ⟨(kb_f (fun h => Bool.noConfusion h)).symm, rfl⟩)
                · refine kTop (kb_f c19) ?_
                  refine lv_if_eq (tgt := 161) hx hb dX8_isOrder_137 (by decide) (fun _ => ?_) (fun h => False.elim (by revert h; decide))
                  refine lv_iconst (v := 0) hx hb dX8_isOrder_161 (by decide) ?_
                  exact kzret (((pNuA (R 5) (pn R) (pSg (R 5) (pn R) (pNuA (R 5) (pn R) (pSg (R 5) (pn R) (pSg (R 5) (pn R) (a + 1) 48 53) 58 58)) 37 37)), (pNuO (R 5) (pn R) (pSg (R 5) (pn R) (pNuA (R 5) (pn R) (pSg (R 5) (pn R) (pSg (R 5) (pn R) (a + 1) 48 53) 58 58)) 37 37) (pNuO (R 5) (pn R) (pSg (R 5) (pn R) (pSg (R 5) (pn R) (a + 1) 48 53) 58 58) (pDgO (R 5) (pn R) (a + 1) (upd (O) (5 * o) (mSort (R 5) (pn R) a)) (5 * o + 1)) (5 * o + 2)) (5 * o + 3)))) hQ hx hb hr hlocks hP hS dX8_isOrder_162 (by first | exact Or.inl rfl | exact Or.inr rfl | exact kb_01 _) (by unfold mOrder; rw [if_neg c7, if_pos c9]; rw [pD_t c11, pS_t c13, pN_t c15, pS_t c17, pN_f c19, pS_x, pN_x]; exact ⟨(kb_f (fun h => Bool.noConfusion h)).symm, rfl⟩)
              · refine kTop (kb_f c17) ?_
                refine lv_if_eq (tgt := 161) hx hb dX8_isOrder_129 (by decide) (fun _ => ?_) (fun h => False.elim (by revert h; decide))
                refine lv_iconst (v := 0) hx hb dX8_isOrder_161 (by decide) ?_
                exact kzret (((pSg (R 5) (pn R) (pNuA (R 5) (pn R) (pSg (R 5) (pn R) (pSg (R 5) (pn R) (a + 1) 48 53) 58 58)) 37 37), (pNuO (R 5) (pn R) (pSg (R 5) (pn R) (pSg (R 5) (pn R) (a + 1) 48 53) 58 58) (pDgO (R 5) (pn R) (a + 1) (upd (O) (5 * o) (mSort (R 5) (pn R) a)) (5 * o + 1)) (5 * o + 2)))) hQ hx hb hr hlocks hP hS dX8_isOrder_162 (by first | exact Or.inl rfl | exact Or.inr rfl | exact kb_01 _) (by unfold mOrder; rw [if_neg c7, if_pos c9]; rw [pD_t c11, pS_t c13, pN_t c15, pS_f c17, pN_x, pS_x, pN_x]; exact ⟨(kb_f (fun h => Bool.noConfusion h)).symm, rfl⟩)
            · refine kTop (kb_f c15) ?_
              refine lv_if_eq (tgt := 161) hx hb dX8_isOrder_120 (by decide) (fun _ => ?_) (fun h => False.elim (by revert h; decide))
              refine lv_iconst (v := 0) hx hb dX8_isOrder_161 (by decide) ?_
              exact kzret (((pNuA (R 5) (pn R) (pSg (R 5) (pn R) (pSg (R 5) (pn R) (a + 1) 48 53) 58 58)), (pNuO (R 5) (pn R) (pSg (R 5) (pn R) (pSg (R 5) (pn R) (a + 1) 48 53) 58 58) (pDgO (R 5) (pn R) (a + 1) (upd (O) (5 * o) (mSort (R 5) (pn R) a)) (5 * o + 1)) (5 * o + 2)))) hQ hx hb hr hlocks hP hS dX8_isOrder_162 (by first | exact Or.inl rfl | exact Or.inr rfl | exact kb_01 _) (by unfold mOrder; rw [if_neg c7, if_pos c9]; rw [pD_t c11, pS_t c13, pN_f c15, pS_x, pN_x, pS_x, pN_x]; exact ⟨(kb_f (fun h => Bool.noConfusion h)).symm, rfl⟩)
          · refine kTop (kb_f c13) ?_
            refine lv_if_eq (tgt := 161) hx hb dX8_isOrder_112 (by decide) (fun _ => ?_) (fun h => False.elim (by revert h; decide))
            refine lv_iconst (v := 0) hx hb dX8_isOrder_161 (by decide) ?_
            exact kzret (((pSg (R 5) (pn R) (pSg (R 5) (pn R) (a + 1) 48 53) 58 58), (pDgO (R 5) (pn R) (a + 1) (upd (O) (5 * o) (mSort (R 5) (pn R) a)) (5 * o + 1)))) hQ hx hb hr hlocks hP hS dX8_isOrder_162 (by first | exact Or.inl rfl | exact Or.inr rfl | exact kb_01 _) (by unfold mOrder; rw [if_neg c7, if_pos c9]; rw [pD_t c11, pS_f c13, pN_x, pS_x, pN_x, pS_x, pN_x]; exact ⟨(kb_f (fun h => Bool.noConfusion h)).symm, rfl⟩)
        · refine kTop (kb_f c11) ?_
          refine lv_if_eq (tgt := 161) hx hb dX8_isOrder_103 (by decide) (fun _ => ?_) (fun h => False.elim (by revert h; decide))
          refine lv_iconst (v := 0) hx hb dX8_isOrder_161 (by decide) ?_
          exact kzret (((pSg (R 5) (pn R) (a + 1) 48 53), (pDgO (R 5) (pn R) (a + 1) (upd (O) (5 * o) (mSort (R 5) (pn R) a)) (5 * o + 1)))) hQ hx hb hr hlocks hP hS dX8_isOrder_162 (by first | exact Or.inl rfl | exact Or.inr rfl | exact kb_01 _) (by unfold mOrder; rw [if_neg c7, if_pos c9]; rw [pD_f c11, pS_x, pN_x, pS_x, pN_x, pS_x, pN_x]; exact ⟨(kb_f (fun h => Bool.noConfusion h)).symm, rfl⟩)
      · by_cases c24 : mSort (R 5) (pn R) a = 108
        · refine lv_lookup (off := 166) (tgt := 204) hx hb dX8_isOrder_38 (by decide) (by rw [c24]; decide) (by decide) ?_
          have haN : a < pn R := by omega
          refine lv_aload_n hx hb dX8_isOrder_204 rfl (lv_at hl 1 rfl) ?_
          refine lv_dup hx hb dX8_isOrder_205 rfl ?_
          refine gfX8_163 (v := .int (nI a)) hx hb hta hown hK hP 0 rfl rfl dX8_isOrder_206 ?_
          refine lv_iconst (v := 1) hx hb dX8_isOrder_209 (by decide) ?_
          refine lv_iadd hx hb dX8_isOrder_210 ?_
          refine kTop (nI_add a 1) ?_
          refine pfX8_163 (ws1 := wR Y b (pWr R (a + 1) (upd (O) (5 * o) (mSort (R 5) (pn R) a)) (o))) hx hb hta hown hK hP hD hS 0 rfl (Nat.le_of_ble_eq_true rfl) rfl dX8_isOrder_211 (fun H locs hP hD hS => ?_)
          refine lv_aload_n hx hb dX8_isOrder_214 rfl (lv_at hl 1 rfl) ?_
          refine lv_iconst (v := 1) hx hb dX8_isOrder_215 (by decide) ?_
          refine kc_i (krV (As := [.int 1]) (rest := []) (c_X8_isDigit l D Y b R (a + 1) (upd (O) (5 * o) (mSort (R 5) (pn R) a)) (o) hn h80 (by omega) 1 ho (by decide)) ⟨hx, hb, hml, hown, hta⟩ (cwX8_172 hta ⟨Nat.le_of_ble_eq_true rfl, Nat.le_of_ble_eq_true rfl⟩) kX0b (fun _ _ _ => trivial) hK hNs hP hD (kJ_all) (q0 := 0) rfl rfl rfl rfl hl.1 rfl (Nat.le_of_ble_eq_true rfl) dX8_isOrder_216 ⟨Nat.le_of_ble_eq_true rfl, Nat.le_of_ble_eq_true rfl⟩) hP hD hS hA (kJ_all) (fun _ => rfl) (fun r25 u H locs hw hP hD hS => ?_)
          obtain ⟨rfl, rfl⟩ := hw
          have hP : va_P D vwCl (wR Y b (pWr R (pSg (R 5) (pn R) (a + 1) 48 53) (pDgO (R 5) (pn R) (a + 1) (upd (O) (5 * o) (mSort (R 5) (pn R) a)) (5 * o + 1)) (o))) H := hP
          have hD : va_D A (wR Y b (pWr R (pSg (R 5) (pn R) (a + 1) 48 53) (pDgO (R 5) (pn R) (a + 1) (upd (O) (5 * o) (mSort (R 5) (pn R) a)) (5 * o + 1)) (o))) := hD
          by_cases c26 : pAt (R 5) (pn R) (a + 1) 48 53
          · refine kTop (kb_t c26) ?_
            refine lv_if_eq (tgt := 260) hx hb dX8_isOrder_219 (by decide) (fun h => False.elim (by revert h; decide)) (fun _ => ?_)
            refine lv_aload_n hx hb dX8_isOrder_222 rfl (lv_at hl 1 rfl) ?_
            refine lv_bipush (v := 62) hx hb dX8_isOrder_223 (by decide) ?_
            refine kc_i (krV (As := [.int 62]) (rest := []) (c_X8_isSign l D Y b R (pSg (R 5) (pn R) (a + 1) 48 53) (pDgO (R 5) (pn R) (a + 1) (upd (O) (5 * o) (mSort (R 5) (pn R) a)) (5 * o + 1)) (o) hn h80 ((pSg_le (by omega)).1) 62) ⟨hx, hb, hml, hown, hta⟩ (cwX8_175 hta ⟨Nat.le_of_ble_eq_true rfl, Nat.le_of_ble_eq_true rfl⟩) kX0b (fun _ _ _ => trivial) hK hNs hP hD (kJ_all) (q0 := 0) rfl rfl rfl rfl hl.1 rfl (Nat.le_of_ble_eq_true rfl) dX8_isOrder_225 ⟨Nat.le_of_ble_eq_true rfl, Nat.le_of_ble_eq_true rfl⟩) hP hD hS hA (kJ_all) (fun _ => rfl) (fun r27 u H locs hw hP hD hS => ?_)
            obtain ⟨rfl, rfl⟩ := hw
            have hP : va_P D vwCl (wR Y b (pWr R (pSg (R 5) (pn R) (pSg (R 5) (pn R) (a + 1) 48 53) 62 62) (pDgO (R 5) (pn R) (a + 1) (upd (O) (5 * o) (mSort (R 5) (pn R) a)) (5 * o + 1)) (o))) H := hP
            have hD : va_D A (wR Y b (pWr R (pSg (R 5) (pn R) (pSg (R 5) (pn R) (a + 1) 48 53) 62 62) (pDgO (R 5) (pn R) (a + 1) (upd (O) (5 * o) (mSort (R 5) (pn R) a)) (5 * o + 1)) (o))) := hD
            by_cases c28 : pAt (R 5) (pn R) (pSg (R 5) (pn R) (a + 1) 48 53) 62 62
            · refine kTop (kb_t c28) ?_
              refine lv_if_eq (tgt := 260) hx hb dX8_isOrder_228 (by decide) (fun h => False.elim (by revert h; decide)) (fun _ => ?_)
              refine lv_aload_n hx hb dX8_isOrder_231 rfl (lv_at hl 1 rfl) ?_
              refine lv_iconst (v := 2) hx hb dX8_isOrder_232 (by decide) ?_
              refine kc_i (krV (As := [.int 2]) (rest := []) (c_X8_isDigit l D Y b R (pSg (R 5) (pn R) (pSg (R 5) (pn R) (a + 1) 48 53) 62 62) (pDgO (R 5) (pn R) (a + 1) (upd (O) (5 * o) (mSort (R 5) (pn R) a)) (5 * o + 1)) (o) hn h80 ((pSg_le (pSg_le (by omega)).1).1) 2 ho (by decide)) ⟨hx, hb, hml, hown, hta⟩ (cwX8_172 hta ⟨Nat.le_of_ble_eq_true rfl, Nat.le_of_ble_eq_true rfl⟩) kX0b (fun _ _ _ => trivial) hK hNs hP hD (kJ_all) (q0 := 0) rfl rfl rfl rfl hl.1 rfl (Nat.le_of_ble_eq_true rfl) dX8_isOrder_233 ⟨Nat.le_of_ble_eq_true rfl, Nat.le_of_ble_eq_true rfl⟩) hP hD hS hA (kJ_all) (fun _ => rfl) (fun r29 u H locs hw hP hD hS => ?_)
              obtain ⟨rfl, rfl⟩ := hw
              have hP : va_P D vwCl (wR Y b (pWr R (pSg (R 5) (pn R) (pSg (R 5) (pn R) (pSg (R 5) (pn R) (a + 1) 48 53) 62 62) 48 53) (pDgO (R 5) (pn R) (pSg (R 5) (pn R) (pSg (R 5) (pn R) (a + 1) 48 53) 62 62) (pDgO (R 5) (pn R) (a + 1) (upd (O) (5 * o) (mSort (R 5) (pn R) a)) (5 * o + 1)) (5 * o + 2)) (o))) H := hP
              have hD : va_D A (wR Y b (pWr R (pSg (R 5) (pn R) (pSg (R 5) (pn R) (pSg (R 5) (pn R) (a + 1) 48 53) 62 62) 48 53) (pDgO (R 5) (pn R) (pSg (R 5) (pn R) (pSg (R 5) (pn R) (a + 1) 48 53) 62 62) (pDgO (R 5) (pn R) (a + 1) (upd (O) (5 * o) (mSort (R 5) (pn R) a)) (5 * o + 1)) (5 * o + 2)) (o))) := hD
              by_cases c30 : pAt (R 5) (pn R) (pSg (R 5) (pn R) (pSg (R 5) (pn R) (a + 1) 48 53) 62 62) 48 53
              · refine kTop (kb_t c30) ?_
                refine lv_if_eq (tgt := 260) hx hb dX8_isOrder_236 (by decide) (fun h => False.elim (by revert h; decide)) (fun _ => ?_)
                refine lv_aload_n hx hb dX8_isOrder_239 rfl (lv_at hl 1 rfl) ?_
                refine lv_bipush (v := 61) hx hb dX8_isOrder_240 (by decide) ?_
                refine kc_i (krV (As := [.int 61]) (rest := []) (c_X8_isSign l D Y b R (pSg (R 5) (pn R) (pSg (R 5) (pn R) (pSg (R 5) (pn R) (a + 1) 48 53) 62 62) 48 53) (pDgO (R 5) (pn R) (pSg (R 5) (pn R) (pSg (R 5) (pn R) (a + 1) 48 53) 62 62) (pDgO (R 5) (pn R) (a + 1) (upd (O) (5 * o) (mSort (R 5) (pn R) a)) (5 * o + 1)) (5 * o + 2)) (o) hn h80 ((pSg_le (pSg_le (pSg_le (by omega)).1).1).1) 61) ⟨hx, hb, hml, hown, hta⟩ (cwX8_175 hta ⟨Nat.le_of_ble_eq_true rfl, Nat.le_of_ble_eq_true rfl⟩) kX0b (fun _ _ _ => trivial) hK hNs hP hD (kJ_all) (q0 := 0) rfl rfl rfl rfl hl.1 rfl (Nat.le_of_ble_eq_true rfl) dX8_isOrder_242 ⟨Nat.le_of_ble_eq_true rfl, Nat.le_of_ble_eq_true rfl⟩) hP hD hS hA (kJ_all) (fun _ => rfl) (fun r31 u H locs hw hP hD hS => ?_)
                obtain ⟨rfl, rfl⟩ := hw
                have hP : va_P D vwCl (wR Y b (pWr R (pSg (R 5) (pn R) (pSg (R 5) (pn R) (pSg (R 5) (pn R) (pSg (R 5) (pn R) (a + 1) 48 53) 62 62) 48 53) 61 61) (pDgO (R 5) (pn R) (pSg (R 5) (pn R) (pSg (R 5) (pn R) (a + 1) 48 53) 62 62) (pDgO (R 5) (pn R) (a + 1) (upd (O) (5 * o) (mSort (R 5) (pn R) a)) (5 * o + 1)) (5 * o + 2)) (o))) H := hP
                have hD : va_D A (wR Y b (pWr R (pSg (R 5) (pn R) (pSg (R 5) (pn R) (pSg (R 5) (pn R) (pSg (R 5) (pn R) (a + 1) 48 53) 62 62) 48 53) 61 61) (pDgO (R 5) (pn R) (pSg (R 5) (pn R) (pSg (R 5) (pn R) (a + 1) 48 53) 62 62) (pDgO (R 5) (pn R) (a + 1) (upd (O) (5 * o) (mSort (R 5) (pn R) a)) (5 * o + 1)) (5 * o + 2)) (o))) := hD
                by_cases c32 : pAt (R 5) (pn R) (pSg (R 5) (pn R) (pSg (R 5) (pn R) (pSg (R 5) (pn R) (a + 1) 48 53) 62 62) 48 53) 61 61
                · refine kTop (kb_t c32) ?_
                  refine lv_if_eq (tgt := 260) hx hb dX8_isOrder_245 (by decide) (fun h => False.elim (by revert h; decide)) (fun _ => ?_)
                  refine lv_aload_n hx hb dX8_isOrder_248 rfl (lv_at hl 1 rfl) ?_
                  refine lv_iconst (v := 3) hx hb dX8_isOrder_249 (by decide) ?_
                  refine kc_i (krV (As := [.int 3]) (rest := []) (c_X8_isNumber l D Y b R (pSg (R 5) (pn R) (pSg (R 5) (pn R) (pSg (R 5) (pn R) (pSg (R 5) (pn R) (a + 1) 48 53) 62 62) 48 53) 61 61) (pDgO (R 5) (pn R) (pSg (R 5) (pn R) (pSg (R 5) (pn R) (a + 1) 48 53) 62 62) (pDgO (R 5) (pn R) (a + 1) (upd (O) (5 * o) (mSort (R 5) (pn R) a)) (5 * o + 1)) (5 * o + 2)) (o) hn h80 ((pSg_le (pSg_le (pSg_le (pSg_le (by omega)).1).1).1).1) 3 ho (by decide)) ⟨hx, hb, hml, hown, hta⟩ (cwX8_178 hta ⟨Nat.le_of_ble_eq_true rfl, Nat.le_of_ble_eq_true rfl⟩) kX0b (fun _ _ _ => trivial) hK hNs hP hD (kJ_all) (q0 := 0) rfl rfl rfl rfl hl.1 rfl (Nat.le_of_ble_eq_true rfl) dX8_isOrder_250 ⟨Nat.le_of_ble_eq_true rfl, Nat.le_of_ble_eq_true rfl⟩) hP hD hS hA (kJ_all) (fun _ => rfl) (fun r33 u H locs hw hP hD hS => ?_)
                  obtain ⟨rfl, rfl⟩ := hw
                  have hP : va_P D vwCl (wR Y b (pWr R (pNuA (R 5) (pn R) (pSg (R 5) (pn R) (pSg (R 5) (pn R) (pSg (R 5) (pn R) (pSg (R 5) (pn R) (a + 1) 48 53) 62 62) 48 53) 61 61)) (pNuO (R 5) (pn R) (pSg (R 5) (pn R) (pSg (R 5) (pn R) (pSg (R 5) (pn R) (pSg (R 5) (pn R) (a + 1) 48 53) 62 62) 48 53) 61 61) (pDgO (R 5) (pn R) (pSg (R 5) (pn R) (pSg (R 5) (pn R) (a + 1) 48 53) 62 62) (pDgO (R 5) (pn R) (a + 1) (upd (O) (5 * o) (mSort (R 5) (pn R) a)) (5 * o + 1)) (5 * o + 2)) (5 * o + 3)) (o))) H := hP
                  have hD : va_D A (wR Y b (pWr R (pNuA (R 5) (pn R) (pSg (R 5) (pn R) (pSg (R 5) (pn R) (pSg (R 5) (pn R) (pSg (R 5) (pn R) (a + 1) 48 53) 62 62) 48 53) 61 61)) (pNuO (R 5) (pn R) (pSg (R 5) (pn R) (pSg (R 5) (pn R) (pSg (R 5) (pn R) (pSg (R 5) (pn R) (a + 1) 48 53) 62 62) 48 53) 61 61) (pDgO (R 5) (pn R) (pSg (R 5) (pn R) (pSg (R 5) (pn R) (a + 1) 48 53) 62 62) (pDgO (R 5) (pn R) (a + 1) (upd (O) (5 * o) (mSort (R 5) (pn R) a)) (5 * o + 1)) (5 * o + 2)) (5 * o + 3)) (o))) := hD
                  by_cases c34 : pAt (R 5) (pn R) (pSg (R 5) (pn R) (pSg (R 5) (pn R) (pSg (R 5) (pn R) (pSg (R 5) (pn R) (a + 1) 48 53) 62 62) 48 53) 61 61) 48 57
                  · refine kTop (kb_t c34) ?_
                    refine lv_if_eq (tgt := 260) hx hb dX8_isOrder_253 (by decide) (fun h => False.elim (by revert h; decide)) (fun _ => ?_)
                    refine lv_iconst (v := 1) hx hb dX8_isOrder_256 (by decide) ?_
                    refine lv_goto (tgt := 261) hx hb dX8_isOrder_257 (by decide) ?_
                    exact kzret (((pNuA (R 5) (pn R) (pSg (R 5) (pn R) (pSg (R 5) (pn R) (pSg (R 5) (pn R) (pSg (R 5) (pn R) (a + 1) 48 53) 62 62) 48 53) 61 61)), (pNuO (R 5) (pn R) (pSg (R 5) (pn R) (pSg (R 5) (pn R) (pSg (R 5) (pn R) (pSg (R 5) (pn R) (a + 1) 48 53) 62 62) 48 53) 61 61) (pDgO (R 5) (pn R) (pSg (R 5) (pn R) (pSg (R 5) (pn R) (a + 1) 48 53) 62 62) (pDgO (R 5) (pn R) (a + 1) (upd (O) (5 * o) (mSort (R 5) (pn R) a)) (5 * o + 1)) (5 * o + 2)) (5 * o + 3)))) hQ hx hb hr hlocks hP hS dX8_isOrder_261 (by first | exact Or.inl rfl | exact Or.inr rfl | exact kb_01 _) (by unfold mOrder; rw [if_neg c7, if_neg c9, if_pos c24]; rw [pD_t c26, pS_t c28, pD_t c30, pS_t c32, pN_t c34]; exact ⟨(kb_t rfl).symm, rfl⟩)
                  · refine kTop (kb_f c34) ?_
                    refine lv_if_eq (tgt := 260) hx hb dX8_isOrder_253 (by decide) (fun _ => ?_) (fun h => False.elim (by revert h; decide))
                    refine lv_iconst (v := 0) hx hb dX8_isOrder_260 (by decide) ?_
                    exact kzret (((pNuA (R 5) (pn R) (pSg (R 5) (pn R) (pSg (R 5) (pn R) (pSg (R 5) (pn R) (pSg (R 5) (pn R) (a + 1) 48 53) 62 62) 48 53) 61 61)), (pNuO (R 5) (pn R) (pSg (R 5) (pn R) (pSg (R 5) (pn R) (pSg (R 5) (pn R) (pSg (R 5) (pn R) (a + 1) 48 53) 62 62) 48 53) 61 61) (pDgO (R 5) (pn R) (pSg (R 5) (pn R) (pSg (R 5) (pn R) (a + 1) 48 53) 62 62) (pDgO (R 5) (pn R) (a + 1) (upd (O) (5 * o) (mSort (R 5) (pn R) a)) (5 * o + 1)) (5 * o + 2)) (5 * o + 3)))) hQ hx hb hr hlocks hP hS dX8_isOrder_261 (by first | exact Or.inl rfl | exact Or.inr rfl | exact kb_01 _) (by unfold mOrder; rw [if_neg c7, if_neg c9, if_pos c24]; rw [pD_t c26, pS_t c28, pD_t c30, pS_t c32, pN_f c34]; exact ⟨(kb_f (fun h => Bool.noConfusion h)).symm, rfl⟩)
                · refine kTop (kb_f c32) ?_
                  refine lv_if_eq (tgt := 260) hx hb dX8_isOrder_245 (by decide) (fun _ => ?_) (fun h => False.elim (by revert h; decide))
                  refine lv_iconst (v := 0) hx hb dX8_isOrder_260 (by decide) ?_
                  exact kzret (((pSg (R 5) (pn R) (pSg (R 5) (pn R) (pSg (R 5) (pn R) (pSg (R 5) (pn R) (a + 1) 48 53) 62 62) 48 53) 61 61), (pDgO (R 5) (pn R) (pSg (R 5) (pn R) (pSg (R 5) (pn R) (a + 1) 48 53) 62 62) (pDgO (R 5) (pn R) (a + 1) (upd (O) (5 * o) (mSort (R 5) (pn R) a)) (5 * o + 1)) (5 * o + 2)))) hQ hx hb hr hlocks hP hS dX8_isOrder_261 (by first | exact Or.inl rfl | exact Or.inr rfl | exact kb_01 _) (by unfold mOrder; rw [if_neg c7, if_neg c9, if_pos c24]; rw [pD_t c26, pS_t c28, pD_t c30, pS_f c32, pN_x]; exact ⟨(kb_f (fun h => Bool.noConfusion h)).symm, rfl⟩)
              · refine kTop (kb_f c30) ?_
                refine lv_if_eq (tgt := 260) hx hb dX8_isOrder_236 (by decide) (fun _ => ?_) (fun h => False.elim (by revert h; decide))
                refine lv_iconst (v := 0) hx hb dX8_isOrder_260 (by decide) ?_
                exact kzret (((pSg (R 5) (pn R) (pSg (R 5) (pn R) (pSg (R 5) (pn R) (a + 1) 48 53) 62 62) 48 53), (pDgO (R 5) (pn R) (pSg (R 5) (pn R) (pSg (R 5) (pn R) (a + 1) 48 53) 62 62) (pDgO (R 5) (pn R) (a + 1) (upd (O) (5 * o) (mSort (R 5) (pn R) a)) (5 * o + 1)) (5 * o + 2)))) hQ hx hb hr hlocks hP hS dX8_isOrder_261 (by first | exact Or.inl rfl | exact Or.inr rfl | exact kb_01 _) (by unfold mOrder; rw [if_neg c7, if_neg c9, if_pos c24]; rw [pD_t c26, pS_t c28, pD_f c30, pS_x, pN_x]; exact ⟨(kb_f (fun h => Bool.noConfusion h)).symm, rfl⟩)
            · refine kTop (kb_f c28) ?_
              refine lv_if_eq (tgt := 260) hx hb dX8_isOrder_228 (by decide) (fun _ => ?_) (fun h => False.elim (by revert h; decide))
              refine lv_iconst (v := 0) hx hb dX8_isOrder_260 (by decide) ?_
              exact kzret (((pSg (R 5) (pn R) (pSg (R 5) (pn R) (a + 1) 48 53) 62 62), (pDgO (R 5) (pn R) (a + 1) (upd (O) (5 * o) (mSort (R 5) (pn R) a)) (5 * o + 1)))) hQ hx hb hr hlocks hP hS dX8_isOrder_261 (by first | exact Or.inl rfl | exact Or.inr rfl | exact kb_01 _) (by unfold mOrder; rw [if_neg c7, if_neg c9, if_pos c24]; rw [pD_t c26, pS_f c28, pD_x, pS_x, pN_x]; exact ⟨(kb_f (fun h => Bool.noConfusion h)).symm, rfl⟩)
          · refine kTop (kb_f c26) ?_
            refine lv_if_eq (tgt := 260) hx hb dX8_isOrder_219 (by decide) (fun _ => ?_) (fun h => False.elim (by revert h; decide))
            refine lv_iconst (v := 0) hx hb dX8_isOrder_260 (by decide) ?_
            exact kzret (((pSg (R 5) (pn R) (a + 1) 48 53), (pDgO (R 5) (pn R) (a + 1) (upd (O) (5 * o) (mSort (R 5) (pn R) a)) (5 * o + 1)))) hQ hx hb hr hlocks hP hS dX8_isOrder_261 (by first | exact Or.inl rfl | exact Or.inr rfl | exact kb_01 _) (by unfold mOrder; rw [if_neg c7, if_neg c9, if_pos c24]; rw [pD_f c26, pS_x, pD_x, pS_x, pN_x]; exact ⟨(kb_f (fun h => Bool.noConfusion h)).symm, rfl⟩)
        · by_cases c35 : mSort (R 5) (pn R) a = 113
          · refine lv_lookup (off := 125) (tgt := 163) hx hb dX8_isOrder_38 (by decide) (by rw [c35]; decide) (by decide) ?_
            have haN : a < pn R := by omega
            refine lv_aload_n hx hb dX8_isOrder_163 rfl (lv_at hl 1 rfl) ?_
            refine lv_dup hx hb dX8_isOrder_164 rfl ?_
            refine gfX8_163 (v := .int (nI a)) hx hb hta hown hK hP 0 rfl rfl dX8_isOrder_165 ?_
            refine lv_iconst (v := 1) hx hb dX8_isOrder_168 (by decide) ?_
            refine lv_iadd hx hb dX8_isOrder_169 ?_
            refine kTop (nI_add a 1) ?_
            refine pfX8_163 (ws1 := wR Y b (pWr R (a + 1) (upd (O) (5 * o) (mSort (R 5) (pn R) a)) (o))) hx hb hta hown hK hP hD hS 0 rfl (Nat.le_of_ble_eq_true rfl) rfl dX8_isOrder_170 (fun H locs hP hD hS => ?_)
            refine lv_aload_n hx hb dX8_isOrder_173 rfl (lv_at hl 1 rfl) ?_
            refine lv_iconst (v := 1) hx hb dX8_isOrder_174 (by decide) ?_
            refine kc_i (krV (As := [.int 1]) (rest := []) (c_X8_isDigit l D Y b R (a + 1) (upd (O) (5 * o) (mSort (R 5) (pn R) a)) (o) hn h80 (by omega) 1 ho (by decide)) ⟨hx, hb, hml, hown, hta⟩ (cwX8_172 hta ⟨Nat.le_of_ble_eq_true rfl, Nat.le_of_ble_eq_true rfl⟩) kX0b (fun _ _ _ => trivial) hK hNs hP hD (kJ_all) (q0 := 0) rfl rfl rfl rfl hl.1 rfl (Nat.le_of_ble_eq_true rfl) dX8_isOrder_175 ⟨Nat.le_of_ble_eq_true rfl, Nat.le_of_ble_eq_true rfl⟩) hP hD hS hA (kJ_all) (fun _ => rfl) (fun r36 u H locs hw hP hD hS => ?_)
            obtain ⟨rfl, rfl⟩ := hw
            have hP : va_P D vwCl (wR Y b (pWr R (pSg (R 5) (pn R) (a + 1) 48 53) (pDgO (R 5) (pn R) (a + 1) (upd (O) (5 * o) (mSort (R 5) (pn R) a)) (5 * o + 1)) (o))) H := hP
            have hD : va_D A (wR Y b (pWr R (pSg (R 5) (pn R) (a + 1) 48 53) (pDgO (R 5) (pn R) (a + 1) (upd (O) (5 * o) (mSort (R 5) (pn R) a)) (5 * o + 1)) (o))) := hD
            by_cases c37 : pAt (R 5) (pn R) (a + 1) 48 53
            · refine kTop (kb_t c37) ?_
              refine lv_if_eq (tgt := 202) hx hb dX8_isOrder_178 (by decide) (fun h => False.elim (by revert h; decide)) (fun _ => ?_)
              refine lv_aload_n hx hb dX8_isOrder_181 rfl (lv_at hl 1 rfl) ?_
              refine lv_bipush (v := 61) hx hb dX8_isOrder_182 (by decide) ?_
              refine kc_i (krV (As := [.int 61]) (rest := []) (c_X8_isSign l D Y b R (pSg (R 5) (pn R) (a + 1) 48 53) (pDgO (R 5) (pn R) (a + 1) (upd (O) (5 * o) (mSort (R 5) (pn R) a)) (5 * o + 1)) (o) hn h80 ((pSg_le (by omega)).1) 61) ⟨hx, hb, hml, hown, hta⟩ (cwX8_175 hta ⟨Nat.le_of_ble_eq_true rfl, Nat.le_of_ble_eq_true rfl⟩) kX0b (fun _ _ _ => trivial) hK hNs hP hD (kJ_all) (q0 := 0) rfl rfl rfl rfl hl.1 rfl (Nat.le_of_ble_eq_true rfl) dX8_isOrder_184 ⟨Nat.le_of_ble_eq_true rfl, Nat.le_of_ble_eq_true rfl⟩) hP hD hS hA (kJ_all) (fun _ => rfl) (fun r38 u H locs hw hP hD hS => ?_)
              obtain ⟨rfl, rfl⟩ := hw
              have hP : va_P D vwCl (wR Y b (pWr R (pSg (R 5) (pn R) (pSg (R 5) (pn R) (a + 1) 48 53) 61 61) (pDgO (R 5) (pn R) (a + 1) (upd (O) (5 * o) (mSort (R 5) (pn R) a)) (5 * o + 1)) (o))) H := hP
              have hD : va_D A (wR Y b (pWr R (pSg (R 5) (pn R) (pSg (R 5) (pn R) (a + 1) 48 53) 61 61) (pDgO (R 5) (pn R) (a + 1) (upd (O) (5 * o) (mSort (R 5) (pn R) a)) (5 * o + 1)) (o))) := hD
              by_cases c39 : pAt (R 5) (pn R) (pSg (R 5) (pn R) (a + 1) 48 53) 61 61
              · refine kTop (kb_t c39) ?_
                refine lv_if_eq (tgt := 202) hx hb dX8_isOrder_187 (by decide) (fun h => False.elim (by revert h; decide)) (fun _ => ?_)
                refine lv_aload_n hx hb dX8_isOrder_190 rfl (lv_at hl 1 rfl) ?_
                refine lv_iconst (v := 2) hx hb dX8_isOrder_191 (by decide) ?_
                refine kc_i (krV (As := [.int 2]) (rest := []) (c_X8_isNumber l D Y b R (pSg (R 5) (pn R) (pSg (R 5) (pn R) (a + 1) 48 53) 61 61) (pDgO (R 5) (pn R) (a + 1) (upd (O) (5 * o) (mSort (R 5) (pn R) a)) (5 * o + 1)) (o) hn h80 ((pSg_le (pSg_le (by omega)).1).1) 2 ho (by decide)) ⟨hx, hb, hml, hown, hta⟩ (cwX8_178 hta ⟨Nat.le_of_ble_eq_true rfl, Nat.le_of_ble_eq_true rfl⟩) kX0b (fun _ _ _ => trivial) hK hNs hP hD (kJ_all) (q0 := 0) rfl rfl rfl rfl hl.1 rfl (Nat.le_of_ble_eq_true rfl) dX8_isOrder_192 ⟨Nat.le_of_ble_eq_true rfl, Nat.le_of_ble_eq_true rfl⟩) hP hD hS hA (kJ_all) (fun _ => rfl) (fun r40 u H locs hw hP hD hS => ?_)
                obtain ⟨rfl, rfl⟩ := hw
                have hP : va_P D vwCl (wR Y b (pWr R (pNuA (R 5) (pn R) (pSg (R 5) (pn R) (pSg (R 5) (pn R) (a + 1) 48 53) 61 61)) (pNuO (R 5) (pn R) (pSg (R 5) (pn R) (pSg (R 5) (pn R) (a + 1) 48 53) 61 61) (pDgO (R 5) (pn R) (a + 1) (upd (O) (5 * o) (mSort (R 5) (pn R) a)) (5 * o + 1)) (5 * o + 2)) (o))) H := hP
                have hD : va_D A (wR Y b (pWr R (pNuA (R 5) (pn R) (pSg (R 5) (pn R) (pSg (R 5) (pn R) (a + 1) 48 53) 61 61)) (pNuO (R 5) (pn R) (pSg (R 5) (pn R) (pSg (R 5) (pn R) (a + 1) 48 53) 61 61) (pDgO (R 5) (pn R) (a + 1) (upd (O) (5 * o) (mSort (R 5) (pn R) a)) (5 * o + 1)) (5 * o + 2)) (o))) := hD
                by_cases c41 : pAt (R 5) (pn R) (pSg (R 5) (pn R) (pSg (R 5) (pn R) (a + 1) 48 53) 61 61) 48 57
                · refine kTop (kb_t c41) ?_
                  refine lv_if_eq (tgt := 202) hx hb dX8_isOrder_195 (by decide) (fun h => False.elim (by revert h; decide)) (fun _ => ?_)
                  refine lv_iconst (v := 1) hx hb dX8_isOrder_198 (by decide) ?_
                  refine lv_goto (tgt := 203) hx hb dX8_isOrder_199 (by decide) ?_
                  exact kzret (((pNuA (R 5) (pn R) (pSg (R 5) (pn R) (pSg (R 5) (pn R) (a + 1) 48 53) 61 61)), (pNuO (R 5) (pn R) (pSg (R 5) (pn R) (pSg (R 5) (pn R) (a + 1) 48 53) 61 61) (pDgO (R 5) (pn R) (a + 1) (upd (O) (5 * o) (mSort (R 5) (pn R) a)) (5 * o + 1)) (5 * o + 2)))) hQ hx hb hr hlocks hP hS dX8_isOrder_203 (by first | exact Or.inl rfl | exact Or.inr rfl | exact kb_01 _) (by unfold mOrder; rw [if_neg c7, if_neg c9, if_neg c24, if_pos c35]; rw [pD_t c37, pS_t c39, pN_t c41]; exact ⟨(kb_t rfl).symm, rfl⟩)
                · refine kTop (kb_f c41) ?_
                  refine lv_if_eq (tgt := 202) hx hb dX8_isOrder_195 (by decide) (fun _ => ?_) (fun h => False.elim (by revert h; decide))
                  refine lv_iconst (v := 0) hx hb dX8_isOrder_202 (by decide) ?_
                  exact kzret (((pNuA (R 5) (pn R) (pSg (R 5) (pn R) (pSg (R 5) (pn R) (a + 1) 48 53) 61 61)), (pNuO (R 5) (pn R) (pSg (R 5) (pn R) (pSg (R 5) (pn R) (a + 1) 48 53) 61 61) (pDgO (R 5) (pn R) (a + 1) (upd (O) (5 * o) (mSort (R 5) (pn R) a)) (5 * o + 1)) (5 * o + 2)))) hQ hx hb hr hlocks hP hS dX8_isOrder_203 (by first | exact Or.inl rfl | exact Or.inr rfl | exact kb_01 _) (by unfold mOrder; rw [if_neg c7, if_neg c9, if_neg c24, if_pos c35]; rw [pD_t c37, pS_t c39, pN_f c41]; exact ⟨(kb_f (fun h => Bool.noConfusion h)).symm, rfl⟩)
              · refine kTop (kb_f c39) ?_
                refine lv_if_eq (tgt := 202) hx hb dX8_isOrder_187 (by decide) (fun _ => ?_) (fun h => False.elim (by revert h; decide))
                refine lv_iconst (v := 0) hx hb dX8_isOrder_202 (by decide) ?_
                exact kzret (((pSg (R 5) (pn R) (pSg (R 5) (pn R) (a + 1) 48 53) 61 61), (pDgO (R 5) (pn R) (a + 1) (upd (O) (5 * o) (mSort (R 5) (pn R) a)) (5 * o + 1)))) hQ hx hb hr hlocks hP hS dX8_isOrder_203 (by first | exact Or.inl rfl | exact Or.inr rfl | exact kb_01 _) (by unfold mOrder; rw [if_neg c7, if_neg c9, if_neg c24, if_pos c35]; rw [pD_t c37, pS_f c39, pN_x]; exact ⟨(kb_f (fun h => Bool.noConfusion h)).symm, rfl⟩)
            · refine kTop (kb_f c37) ?_
              refine lv_if_eq (tgt := 202) hx hb dX8_isOrder_178 (by decide) (fun _ => ?_) (fun h => False.elim (by revert h; decide))
              refine lv_iconst (v := 0) hx hb dX8_isOrder_202 (by decide) ?_
              exact kzret (((pSg (R 5) (pn R) (a + 1) 48 53), (pDgO (R 5) (pn R) (a + 1) (upd (O) (5 * o) (mSort (R 5) (pn R) a)) (5 * o + 1)))) hQ hx hb hr hlocks hP hS dX8_isOrder_203 (by first | exact Or.inl rfl | exact Or.inr rfl | exact kb_01 _) (by unfold mOrder; rw [if_neg c7, if_neg c9, if_neg c24, if_pos c35]; rw [pD_f c37, pS_x, pN_x]; exact ⟨(kb_f (fun h => Bool.noConfusion h)).symm, rfl⟩)
          · by_cases c42 : mSort (R 5) (pn R) a = 115
            · refine lv_lookup (off := 224) (tgt := 262) hx hb dX8_isOrder_38 (by decide) (by rw [c42]; decide) (by decide) ?_
              have haN : a < pn R := by omega
              refine lv_aload_n hx hb dX8_isOrder_262 rfl (lv_at hl 1 rfl) ?_
              refine lv_dup hx hb dX8_isOrder_263 rfl ?_
              refine gfX8_163 (v := .int (nI a)) hx hb hta hown hK hP 0 rfl rfl dX8_isOrder_264 ?_
              refine lv_iconst (v := 1) hx hb dX8_isOrder_267 (by decide) ?_
              refine lv_iadd hx hb dX8_isOrder_268 ?_
              refine kTop (nI_add a 1) ?_
              refine pfX8_163 (ws1 := wR Y b (pWr R (a + 1) (upd (O) (5 * o) (mSort (R 5) (pn R) a)) (o))) hx hb hta hown hK hP hD hS 0 rfl (Nat.le_of_ble_eq_true rfl) rfl dX8_isOrder_269 (fun H locs hP hD hS => ?_)
              refine lv_aload_n hx hb dX8_isOrder_272 rfl (lv_at hl 1 rfl) ?_
              refine lv_iconst (v := 1) hx hb dX8_isOrder_273 (by decide) ?_
              refine kc_i (krV (As := [.int 1]) (rest := []) (c_X8_isNumber l D Y b R (a + 1) (upd (O) (5 * o) (mSort (R 5) (pn R) a)) (o) hn h80 (by omega) 1 ho (by decide)) ⟨hx, hb, hml, hown, hta⟩ (cwX8_178 hta ⟨Nat.le_of_ble_eq_true rfl, Nat.le_of_ble_eq_true rfl⟩) kX0b (fun _ _ _ => trivial) hK hNs hP hD (kJ_all) (q0 := 0) rfl rfl rfl rfl hl.1 rfl (Nat.le_of_ble_eq_true rfl) dX8_isOrder_274 ⟨Nat.le_of_ble_eq_true rfl, Nat.le_of_ble_eq_true rfl⟩) hP hD hS hA (kJ_all) (fun _ => rfl) (fun r43 u H locs hw hP hD hS => ?_)
              obtain ⟨rfl, rfl⟩ := hw
              have hP : va_P D vwCl (wR Y b (pWr R (pNuA (R 5) (pn R) (a + 1)) (pNuO (R 5) (pn R) (a + 1) (upd (O) (5 * o) (mSort (R 5) (pn R) a)) (5 * o + 1)) (o))) H := hP
              have hD : va_D A (wR Y b (pWr R (pNuA (R 5) (pn R) (a + 1)) (pNuO (R 5) (pn R) (a + 1) (upd (O) (5 * o) (mSort (R 5) (pn R) a)) (5 * o + 1)) (o))) := hD
              by_cases c44 : pAt (R 5) (pn R) (a + 1) 48 57
              · refine kTop (kb_t c44) ?_
                refine lv_if_eq (tgt := 301) hx hb dX8_isOrder_277 (by decide) (fun h => False.elim (by revert h; decide)) (fun _ => ?_)
                refine lv_aload_n hx hb dX8_isOrder_280 rfl (lv_at hl 1 rfl) ?_
                refine lv_bipush (v := 45) hx hb dX8_isOrder_281 (by decide) ?_
                refine kc_i (krV (As := [.int 45]) (rest := []) (c_X8_isSign l D Y b R (pNuA (R 5) (pn R) (a + 1)) (pNuO (R 5) (pn R) (a + 1) (upd (O) (5 * o) (mSort (R 5) (pn R) a)) (5 * o + 1)) (o) hn h80 ((pNuA_le (by omega)).1) 45) ⟨hx, hb, hml, hown, hta⟩ (cwX8_175 hta ⟨Nat.le_of_ble_eq_true rfl, Nat.le_of_ble_eq_true rfl⟩) kX0b (fun _ _ _ => trivial) hK hNs hP hD (kJ_all) (q0 := 0) rfl rfl rfl rfl hl.1 rfl (Nat.le_of_ble_eq_true rfl) dX8_isOrder_283 ⟨Nat.le_of_ble_eq_true rfl, Nat.le_of_ble_eq_true rfl⟩) hP hD hS hA (kJ_all) (fun _ => rfl) (fun r45 u H locs hw hP hD hS => ?_)
                obtain ⟨rfl, rfl⟩ := hw
                have hP : va_P D vwCl (wR Y b (pWr R (pSg (R 5) (pn R) (pNuA (R 5) (pn R) (a + 1)) 45 45) (pNuO (R 5) (pn R) (a + 1) (upd (O) (5 * o) (mSort (R 5) (pn R) a)) (5 * o + 1)) (o))) H := hP
                have hD : va_D A (wR Y b (pWr R (pSg (R 5) (pn R) (pNuA (R 5) (pn R) (a + 1)) 45 45) (pNuO (R 5) (pn R) (a + 1) (upd (O) (5 * o) (mSort (R 5) (pn R) a)) (5 * o + 1)) (o))) := hD
                by_cases c46 : pAt (R 5) (pn R) (pNuA (R 5) (pn R) (a + 1)) 45 45
                · refine kTop (kb_t c46) ?_
                  refine lv_if_eq (tgt := 301) hx hb dX8_isOrder_286 (by decide) (fun h => False.elim (by revert h; decide)) (fun _ => ?_)
                  refine lv_aload_n hx hb dX8_isOrder_289 rfl (lv_at hl 1 rfl) ?_
                  refine lv_iconst (v := 2) hx hb dX8_isOrder_290 (by decide) ?_
                  refine kc_i (krV (As := [.int 2]) (rest := []) (c_X8_isNumber l D Y b R (pSg (R 5) (pn R) (pNuA (R 5) (pn R) (a + 1)) 45 45) (pNuO (R 5) (pn R) (a + 1) (upd (O) (5 * o) (mSort (R 5) (pn R) a)) (5 * o + 1)) (o) hn h80 ((pSg_le (pNuA_le (by omega)).1).1) 2 ho (by decide)) ⟨hx, hb, hml, hown, hta⟩ (cwX8_178 hta ⟨Nat.le_of_ble_eq_true rfl, Nat.le_of_ble_eq_true rfl⟩) kX0b (fun _ _ _ => trivial) hK hNs hP hD (kJ_all) (q0 := 0) rfl rfl rfl rfl hl.1 rfl (Nat.le_of_ble_eq_true rfl) dX8_isOrder_291 ⟨Nat.le_of_ble_eq_true rfl, Nat.le_of_ble_eq_true rfl⟩) hP hD hS hA (kJ_all) (fun _ => rfl) (fun r47 u H locs hw hP hD hS => ?_)
                  obtain ⟨rfl, rfl⟩ := hw
                  have hP : va_P D vwCl (wR Y b (pWr R (pNuA (R 5) (pn R) (pSg (R 5) (pn R) (pNuA (R 5) (pn R) (a + 1)) 45 45)) (pNuO (R 5) (pn R) (pSg (R 5) (pn R) (pNuA (R 5) (pn R) (a + 1)) 45 45) (pNuO (R 5) (pn R) (a + 1) (upd (O) (5 * o) (mSort (R 5) (pn R) a)) (5 * o + 1)) (5 * o + 2)) (o))) H := hP
                  have hD : va_D A (wR Y b (pWr R (pNuA (R 5) (pn R) (pSg (R 5) (pn R) (pNuA (R 5) (pn R) (a + 1)) 45 45)) (pNuO (R 5) (pn R) (pSg (R 5) (pn R) (pNuA (R 5) (pn R) (a + 1)) 45 45) (pNuO (R 5) (pn R) (a + 1) (upd (O) (5 * o) (mSort (R 5) (pn R) a)) (5 * o + 1)) (5 * o + 2)) (o))) := hD
                  by_cases c48 : pAt (R 5) (pn R) (pSg (R 5) (pn R) (pNuA (R 5) (pn R) (a + 1)) 45 45) 48 57
                  · refine kTop (kb_t c48) ?_
                    refine lv_if_eq (tgt := 301) hx hb dX8_isOrder_294 (by decide) (fun h => False.elim (by revert h; decide)) (fun _ => ?_)
                    refine lv_iconst (v := 1) hx hb dX8_isOrder_297 (by decide) ?_
                    refine lv_goto (tgt := 302) hx hb dX8_isOrder_298 (by decide) ?_
                    exact kzret (((pNuA (R 5) (pn R) (pSg (R 5) (pn R) (pNuA (R 5) (pn R) (a + 1)) 45 45)), (pNuO (R 5) (pn R) (pSg (R 5) (pn R) (pNuA (R 5) (pn R) (a + 1)) 45 45) (pNuO (R 5) (pn R) (a + 1) (upd (O) (5 * o) (mSort (R 5) (pn R) a)) (5 * o + 1)) (5 * o + 2)))) hQ hx hb hr hlocks hP hS dX8_isOrder_302 (by first | exact Or.inl rfl | exact Or.inr rfl | exact kb_01 _) (by unfold mOrder; rw [if_neg c7, if_neg c9, if_neg c24, if_neg c35, if_pos c42]; rw [pN_t c44, pS_t c46, pN_t c48]; exact ⟨(kb_t rfl).symm, rfl⟩)
                  · refine kTop (kb_f c48) ?_
                    refine lv_if_eq (tgt := 301) hx hb dX8_isOrder_294 (by decide) (fun _ => ?_) (fun h => False.elim (by revert h; decide))
                    refine lv_iconst (v := 0) hx hb dX8_isOrder_301 (by decide) ?_
                    exact kzret (((pNuA (R 5) (pn R) (pSg (R 5) (pn R) (pNuA (R 5) (pn R) (a + 1)) 45 45)), (pNuO (R 5) (pn R) (pSg (R 5) (pn R) (pNuA (R 5) (pn R) (a + 1)) 45 45) (pNuO (R 5) (pn R) (a + 1) (upd (O) (5 * o) (mSort (R 5) (pn R) a)) (5 * o + 1)) (5 * o + 2)))) hQ hx hb hr hlocks hP hS dX8_isOrder_302 (by first | exact Or.inl rfl | exact Or.inr rfl | exact kb_01 _) (by unfold mOrder; rw [if_neg c7, if_neg c9, if_neg c24, if_neg c35, if_pos c42]; rw [pN_t c44, pS_t c46, pN_f c48]; exact ⟨(kb_f (fun h => Bool.noConfusion h)).symm, rfl⟩)
                · refine kTop (kb_f c46) ?_
                  refine lv_if_eq (tgt := 301) hx hb dX8_isOrder_286 (by decide) (fun _ => ?_) (fun h => False.elim (by revert h; decide))
                  refine lv_iconst (v := 0) hx hb dX8_isOrder_301 (by decide) ?_
                  exact kzret (((pSg (R 5) (pn R) (pNuA (R 5) (pn R) (a + 1)) 45 45), (pNuO (R 5) (pn R) (a + 1) (upd (O) (5 * o) (mSort (R 5) (pn R) a)) (5 * o + 1)))) hQ hx hb hr hlocks hP hS dX8_isOrder_302 (by first | exact Or.inl rfl | exact Or.inr rfl | exact kb_01 _) (by unfold mOrder; rw [if_neg c7, if_neg c9, if_neg c24, if_neg c35, if_pos c42]; rw [pN_t c44, pS_f c46, pN_x]; exact ⟨(kb_f (fun h => Bool.noConfusion h)).symm, rfl⟩)
              · refine kTop (kb_f c44) ?_
                refine lv_if_eq (tgt := 301) hx hb dX8_isOrder_277 (by decide) (fun _ => ?_) (fun h => False.elim (by revert h; decide))
                refine lv_iconst (v := 0) hx hb dX8_isOrder_301 (by decide) ?_
                exact kzret (((pNuA (R 5) (pn R) (a + 1)), (pNuO (R 5) (pn R) (a + 1) (upd (O) (5 * o) (mSort (R 5) (pn R) a)) (5 * o + 1)))) hQ hx hb hr hlocks hP hS dX8_isOrder_302 (by first | exact Or.inl rfl | exact Or.inr rfl | exact kb_01 _) (by unfold mOrder; rw [if_neg c7, if_neg c9, if_neg c24, if_neg c35, if_pos c42]; rw [pN_f c44, pS_x, pN_x]; exact ⟨(kb_f (fun h => Bool.noConfusion h)).symm, rfl⟩)
            · refine lv_lookup (off := 281) (tgt := 319) hx hb dX8_isOrder_38 (by decide) (by have q0 : ¬ (mSort (R 5) (pn R) a).toInt = 100 := fun h => c7 (Int32.toInt_inj.mp (h.trans (by decide))); have q1 : ¬ (mSort (R 5) (pn R) a).toInt = 102 := fun h => c9 (Int32.toInt_inj.mp (h.trans (by decide))); have q2 : ¬ (mSort (R 5) (pn R) a).toInt = 108 := fun h => c24 (Int32.toInt_inj.mp (h.trans (by decide))); have q3 : ¬ (mSort (R 5) (pn R) a).toInt = 113 := fun h => c35 (Int32.toInt_inj.mp (h.trans (by decide))); have q4 : ¬ (mSort (R 5) (pn R) a).toInt = 115 := fun h => c42 (Int32.toInt_inj.mp (h.trans (by decide))); simp [Op.lookupswitch.offset, q0, Ne.symm q0, q1, Ne.symm q1, q2, Ne.symm q2, q3, Ne.symm q3, q4, Ne.symm q4]) (by decide) ?_
              refine lv_iconst (v := 0) hx hb dX8_isOrder_319 (by decide) ?_
              exact kzret (((a), (upd (O) (5 * o) (mSort (R 5) (pn R) a)))) hQ hx hb hr hlocks hP hS dX8_isOrder_320 (by first | exact Or.inl rfl | exact Or.inr rfl | exact kb_01 _) (by unfold mOrder; rw [if_neg c7, if_neg c9, if_neg c24, if_neg c35, if_neg c42]; exact ⟨(kb_f (fun h => Bool.noConfusion h)).symm, rfl⟩)
