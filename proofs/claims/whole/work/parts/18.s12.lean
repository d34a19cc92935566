set_option maxHeartbeats 4000000 in
set_option maxRecDepth 100000 in
theorem c_X8_mayLend (l : Launch) (D : va_G) (Y : Nat → ClassId) (b : Nat → Nat) (R : kN) (g o t : Int32) : kM l yX8_mayLend wX8_mayLend rX8_mayLend D Y (wR Y b R) [.ref (b 0), .int g, .int o, .int t] kX0 (kQi D (fun r (_ : Unit) => r = mMayLend (R 0) g o t) (fun _ => wR Y b R)) := by
  refine kentry (cc := cX8_mayLend) (maxL := 4) (ret := (some .int)) (by decide +kernel) rfl (Nat.le_of_ble_eq_true rfl) ?_
  intro p e s0 m args below meth c A Q ls hQ hx hb hr hlocks hml hown hin hta hA hX0 hK hNs hP hD hS hl
  have hown : s0.vm.findClass RX8 = some m.cls := hown
  have hl : lv_has ls 4 [(0, .ref (b 0)), (1, .int g), (2, .int o), (3, .int t)] := hl
  refine lv_iload_n hx hb dX8_mayLend_0 rfl (lv_at hl 1 rfl) ?_
  refine kc_i (krS (As := [.int g]) (rest := []) (c_X8_isGrower l D Y g) ⟨hx, hb, hml, hown, hta⟩ (cwX8_103 hta ⟨Nat.le_of_ble_eq_true rfl, Nat.le_of_ble_eq_true rfl⟩) kX0b (fun _ _ _ => trivial) hK hNs hP hD (kJ_nil) rfl hl.1 rfl (Nat.le_of_ble_eq_true rfl) dX8_mayLend_1 ⟨Nat.le_of_ble_eq_true rfl, Nat.le_of_ble_eq_true rfl⟩) hP hD hS hA (kJ_nil) (fun _ => rfl) (fun r1 u H locs hw hP hD hS => ?_)
  subst hw
  have hP : va_P D vwCl (wR Y b R) H := hP
  have hD : va_D A (wR Y b R) := hD
  by_cases c2 : pIn g 0 5
  · refine kTop (kb_t c2) ?_
    refine lv_if_eq (tgt := 14) hx hb dX8_mayLend_4 (by decide) (fun h => False.elim (by revert h; decide)) (fun _ => ?_)
    refine lv_iload_n hx hb dX8_mayLend_7 rfl (lv_at hl 2 rfl) ?_
    refine kc_i (krS (As := [.int o]) (rest := []) (c_X8_isGrower l D Y o) ⟨hx, hb, hml, hown, hta⟩ (cwX8_103 hta ⟨Nat.le_of_ble_eq_true rfl, Nat.le_of_ble_eq_true rfl⟩) kX0b (fun _ _ _ => trivial) hK hNs hP hD (kJ_nil) rfl hl.1 rfl (Nat.le_of_ble_eq_true rfl) dX8_mayLend_8 ⟨Nat.le_of_ble_eq_true rfl, Nat.le_of_ble_eq_true rfl⟩) hP hD hS hA (kJ_nil) (fun _ => rfl) (fun r3 u H locs hw hP hD hS => ?_)
    subst hw
    have hP : va_P D vwCl (wR Y b R) H := hP
    have hD : va_D A (wR Y b R) := hD
    by_cases c4 : pIn o 0 5
    · refine kTop (kb_t c4) ?_
      refine lv_if_ne (tgt := 16) hx hb dX8_mayLend_11 (by decide) (fun _ => ?_) (fun h => False.elim (by revert h; decide))
      obtain ⟨j, rfl, hj0, hj1⟩ := pIn_nat c2 (show (0 : Int32) = nI 0 from rfl) (show (5 : Int32) = nI 5 from rfl) (by omega) (by omega)
      obtain ⟨i, rfl, hi0, hi1⟩ := pIn_nat c4 (show (0 : Int32) = nI 0 from rfl) (show (5 : Int32) = nI 5 from rfl) (by omega) (by omega)
      refine lv_iload_n hx hb dX8_mayLend_16 rfl (lv_at hl 3 rfl) ?_
      refine lv_iconst (v := 1) hx hb dX8_mayLend_17 (by decide) ?_
      refine lv_icmp_lt (tgt := 26) hx hb dX8_mayLend_18 (by decide) (fun c5 => ?_) (fun c5 => ?_)
      · refine lv_bipush (v := (-2)) hx hb dX8_mayLend_26 (by decide) ?_
        exact kiret (()) hQ hx hb hr hlocks hP hS dX8_mayLend_28 (by unfold mMayLend; rw [nI_clamp (n := j) (by omega), nI_clamp (n := i) (by omega)]; rw [if_pos c2, if_pos c4, if_pos c5])
      · refine lv_iload_n hx hb dX8_mayLend_21 rfl (lv_at hl 1 rfl) ?_
        refine lv_iload_n hx hb dX8_mayLend_22 rfl (lv_at hl 2 rfl) ?_
        refine lv_icmp_ne (tgt := 29) hx hb dX8_mayLend_23 (by decide) (fun c6 => ?_) (fun c6 => ?_)
        · have c6n : ¬ j = i := fun h => c6 ((nI_eq (a := j) (b := i) (by omega) (by omega)).mpr h)
          refine lv_iload_n hx hb dX8_mayLend_29 rfl (lv_at hl 3 rfl) ?_
          refine lv_aload_n hx hb dX8_mayLend_30 rfl (lv_at hl 0 rfl) ?_
          refine gfX8_7 (v := .ref (b 1)) hx hb hta hown hK hP 0 rfl rfl dX8_mayLend_31 ?_
          refine lv_bipush (v := 10) hx hb dX8_mayLend_34 (by decide) ?_
          refine lv_iload_n hx hb dX8_mayLend_36 rfl (lv_at hl 1 rfl) ?_
          refine lv_iadd hx hb dX8_mayLend_37 ?_
          refine kTop (nI_add 10 j) ?_
          refine kiald (f := R 0) hx hb hK hP 1 rfl (10 + j) rfl (by omega) (by omega) dX8_mayLend_38 ?_
          refine lv_icmp_gt (tgt := 59) hx hb dX8_mayLend_39 (by decide) (fun c7 => ?_) (fun c7 => ?_)
          · refine lv_bipush (v := (-5)) hx hb dX8_mayLend_59 (by decide) ?_
            refine lv_goto (tgt := 65) hx hb dX8_mayLend_61 (by decide) ?_
            exact kiret (()) hQ hx hb hr hlocks hP hS dX8_mayLend_65 (by unfold mMayLend; rw [nI_clamp (n := j) (by omega), nI_clamp (n := i) (by omega)]; rw [if_pos c2, if_pos c4, if_neg c5, if_neg c6, if_pos c7])
          · refine lv_iload_n hx hb dX8_mayLend_42 rfl (lv_at hl 3 rfl) ?_
            refine lv_sipush (v := 9999) hx hb dX8_mayLend_43 (by decide) ?_
            refine lv_aload_n hx hb dX8_mayLend_46 rfl (lv_at hl 0 rfl) ?_
            refine gfX8_7 (v := .ref (b 1)) hx hb hta hown hK hP 0 rfl rfl dX8_mayLend_47 ?_
            refine lv_bipush (v := 10) hx hb dX8_mayLend_50 (by decide) ?_
            refine lv_iload_n hx hb dX8_mayLend_52 rfl (lv_at hl 2 rfl) ?_
            refine lv_iadd hx hb dX8_mayLend_53 ?_
            refine kTop (nI_add 10 i) ?_
            refine kiald (f := R 0) hx hb hK hP 1 rfl (10 + i) rfl (by omega) (by omega) dX8_mayLend_54 ?_
            refine lv_isub hx hb dX8_mayLend_55 ?_
            refine lv_icmp_le (tgt := 64) hx hb dX8_mayLend_56 (by decide) (fun c8 => ?_) (fun c8 => ?_)
            · refine lv_iconst (v := 0) hx hb dX8_mayLend_64 (by decide) ?_
              exact kiret (()) hQ hx hb hr hlocks hP hS dX8_mayLend_65 (by unfold mMayLend; rw [nI_clamp (n := j) (by omega), nI_clamp (n := i) (by omega)]; rw [if_pos c2, if_pos c4, if_neg c5, if_neg c6, if_neg c7, if_pos c8])
            · refine lv_bipush (v := (-5)) hx hb dX8_mayLend_59 (by decide) ?_
              refine lv_goto (tgt := 65) hx hb dX8_mayLend_61 (by decide) ?_
              exact kiret (()) hQ hx hb hr hlocks hP hS dX8_mayLend_65 (by unfold mMayLend; rw [nI_clamp (n := j) (by omega), nI_clamp (n := i) (by omega)]; rw [if_pos c2, if_pos c4, if_neg c5, if_neg c6, if_neg c7, if_neg c8])
        · have c6n : j = i := (nI_eq (a := j) (b := i) (by omega) (by omega)).mp c6
          refine lv_bipush (v := (-2)) hx hb dX8_mayLend_26 (by decide) ?_
          exact kiret (()) hQ hx hb hr hlocks hP hS dX8_mayLend_28 (by unfold mMayLend; rw [nI_clamp (n := j) (by omega), nI_clamp (n := i) (by omega)]; rw [if_pos c2, if_pos c4, if_neg c5, if_pos c6])
    · refine kTop (kb_f c4) ?_
      refine lv_if_ne (tgt := 16) hx hb dX8_mayLend_11 (by decide) (fun h => False.elim (by revert h; decide)) (fun _ => ?_)
      refine lv_iconst (v := (-1)) hx hb dX8_mayLend_14 (by decide) ?_
      exact kiret (()) hQ hx hb hr hlocks hP hS dX8_mayLend_15 (by unfold mMayLend; rw [if_pos c2, if_neg c4])
  · refine kTop (kb_f c2) ?_
    refine lv_if_eq (tgt := 14) hx hb dX8_mayLend_4 (by decide) (fun _ => ?_) (fun h => False.elim (by revert h; decide))
    refine lv_iconst (v := (-1)) hx hb dX8_mayLend_14 (by decide) ?_
    exact kiret (()) hQ hx hb hr hlocks hP hS dX8_mayLend_15 (by unfold mMayLend; rw [if_neg c2])
