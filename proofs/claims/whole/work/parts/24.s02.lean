set_option maxHeartbeats 4000000 in
set_option maxRecDepth 100000 in
theorem c_X8_ofGrower (l : Launch) (D : va_G) (Y : Nat → ClassId) (b : Nat → Nat) (R : kN) (g w : Int32) (hZ : mX (R 0)) : kM l yX8_ofGrower wX8_ofGrower rX8_ofGrower D Y (wR Y b R) [.ref (b 0), .int g, .int w] kX0 (kQi D (fun r (_ : Unit) => r = mOfGrower (R 0) g w) (fun _ => wR Y b R)) := by
  refine kentry (cc := cX8_ofGrower) (maxL := 3) (ret := (some .int)) (by decide +kernel) rfl (Nat.le_of_ble_eq_true rfl) ?_
  intro p e s0 m args below meth c A Q ls hQ hx hb hr hlocks hml hown hin hta hA hX0 hK hNs hP hD hS hl
  have hown : s0.vm.findClass RX8 = some m.cls := hown
  have hl : lv_has ls 3 [(0, .ref (b 0)), (1, .int g), (2, .int w)] := hl
  refine lv_iload_n hx hb dX8_ofGrower_0 rfl (lv_at hl 1 rfl) ?_
  refine kc_i (krS (As := [.int g]) (rest := []) (c_X8_isGrower l D Y g) ⟨hx, hb, hml, hown, hta⟩ (cwX8_103 hta ⟨Nat.le_of_ble_eq_true rfl, Nat.le_of_ble_eq_true rfl⟩) kX0b (fun _ _ _ => trivial) hK hNs hP hD (kJ_nil) rfl hl.1 rfl (Nat.le_of_ble_eq_true rfl) dX8_ofGrower_1 ⟨Nat.le_of_ble_eq_true rfl, Nat.le_of_ble_eq_true rfl⟩) hP hD hS hA (kJ_nil) (fun _ => rfl) (fun r1 u H locs hw hP hD hS => ?_)
  subst hw
  have hP : va_P D vwCl (wR Y b R) H := hP
  have hD : va_D A (wR Y b R) := hD
  by_cases c2 : pIn g 0 5
  · refine kTop (kb_t c2) ?_
    refine lv_if_ne (tgt := 9) hx hb dX8_ofGrower_4 (by decide) (fun _ => ?_) (fun h => False.elim (by revert h; decide))
    refine lv_iload_n hx hb dX8_ofGrower_9 rfl (lv_at hl 2 rfl) ?_
    refine lv_iconst (v := 0) hx hb dX8_ofGrower_10 (by decide) ?_
    refine lv_iconst (v := 5) hx hb dX8_ofGrower_11 (by decide) ?_
    refine kc_i (krS (As := [.int w, .int 0, .int 5]) (rest := []) (c_X8_in l D Y w 0 5) ⟨hx, hb, hml, hown, hta⟩ (cwX8_32 hta ⟨Nat.le_of_ble_eq_true rfl, Nat.le_of_ble_eq_true rfl⟩) kX0b (fun _ _ _ => trivial) hK hNs hP hD (kJ_nil) rfl hl.1 rfl (Nat.le_of_ble_eq_true rfl) dX8_ofGrower_12 ⟨Nat.le_of_ble_eq_true rfl, Nat.le_of_ble_eq_true rfl⟩) hP hD hS hA (kJ_nil) (fun _ => rfl) (fun r3 u H locs hw hP hD hS => ?_)
    subst hw
    have hP : va_P D vwCl (wR Y b R) H := hP
    have hD : va_D A (wR Y b R) := hD
    by_cases c4 : pIn w 0 5
    · refine kTop (kb_t c4) ?_
      refine lv_if_ne (tgt := 21) hx hb dX8_ofGrower_15 (by decide) (fun _ => ?_) (fun h => False.elim (by revert h; decide))
      obtain ⟨k, rfl, hkl, hkh⟩ := pIn_nat c2 (show (0 : Int32) = nI 0 from rfl) (show (5 : Int32) = nI 5 from rfl) (by omega) (by omega)
      obtain ⟨wn, rfl, hwnl, hwnh⟩ := pIn_nat c4 (show (0 : Int32) = nI 0 from rfl) (show (5 : Int32) = nI 5 from rfl) (by omega) (by omega)
      refine lv_iload_n hx hb dX8_ofGrower_21 rfl (lv_at hl 2 rfl) ?_
      refine lv_if_ne (tgt := 37) hx hb dX8_ofGrower_22 (by decide) (fun c5 => ?_) (fun c5 => ?_)
      · have c5n : ¬ wn = 0 := fun h => c5 ((nI_eq (a := wn) (b := 0) (by omega) (by omega)).mpr h)
        refine lv_iload_n hx hb dX8_ofGrower_37 rfl (lv_at hl 2 rfl) ?_
        refine lv_iconst (v := 5) hx hb dX8_ofGrower_38 (by decide) ?_
        refine lv_icmp_ge (tgt := 60) hx hb dX8_ofGrower_39 (by decide) (fun c6 => ?_) (fun c6 => ?_)
        · have c6n : 5 ≤ wn := (nI_leI (a := 5) (b := wn) (by omega) (by omega)).mp c6
          refine lv_aload_n hx hb dX8_ofGrower_60 rfl (lv_at hl 0 rfl) ?_
          refine lv_iload_n hx hb dX8_ofGrower_61 rfl (lv_at hl 1 rfl) ?_
          refine kc_i (krV (As := [.int (nI k)]) (rest := []) (c_X8_burnt l D Y b R (nI k) hZ) ⟨hx, hb, hml, hown, hta⟩ (cwX8_140 hta ⟨Nat.le_of_ble_eq_true rfl, Nat.le_of_ble_eq_true rfl⟩) kX0b (fun _ _ _ => trivial) hK hNs hP hD (kJ_all) (q0 := 0) rfl rfl rfl rfl hl.1 rfl (Nat.le_of_ble_eq_true rfl) dX8_ofGrower_62 ⟨Nat.le_of_ble_eq_true rfl, Nat.le_of_ble_eq_true rfl⟩) hP hD hS hA (kJ_all) (fun _ => rfl) (fun r7 u H locs hw hP hD hS => ?_)
          subst hw
          have hP : va_P D vwCl (wR Y b R) H := hP
          have hD : va_D A (wR Y b R) := hD
          exact kiret (()) hQ hx hb hr hlocks hP hS dX8_ofGrower_65 (by unfold mOfGrower; rw [nI_clamp (n := k) (by omega), nI_clamp (n := wn) (by omega), if_pos c2, if_pos c4, if_neg c5, if_pos c6])
        · have c6n : ¬ 5 ≤ wn := fun h => c6 ((nI_leI (a := 5) (b := wn) (by omega) (by omega)).mpr h)
          refine lv_aload_n hx hb dX8_ofGrower_42 rfl (lv_at hl 0 rfl) ?_
          refine gfX8_7 (v := .ref (b 1)) hx hb hta hown hK hP 0 rfl rfl dX8_ofGrower_43 ?_
          refine lv_bipush (v := 32) hx hb dX8_ofGrower_46 (by decide) ?_
          refine lv_iconst (v := 4) hx hb dX8_ofGrower_48 (by decide) ?_
          refine lv_iload_n hx hb dX8_ofGrower_49 rfl (lv_at hl 1 rfl) ?_
          refine lv_imul hx hb dX8_ofGrower_50 ?_
          refine kTop (pk_mul 4 k) ?_
          refine lv_iadd hx hb dX8_ofGrower_51 ?_
          refine kTop (nI_add 32 (4 * k)) ?_
          refine lv_iload_n hx hb dX8_ofGrower_52 rfl (lv_at hl 2 rfl) ?_
          refine lv_iadd hx hb dX8_ofGrower_53 ?_
          refine kTop (nI_add (32 + 4 * k) wn) ?_
          refine lv_iconst (v := 1) hx hb dX8_ofGrower_54 (by decide) ?_
          refine lv_isub hx hb dX8_ofGrower_55 ?_
          refine kTop (y := nI (32 + 4 * k + wn - 1)) (pk_sub (a := 32 + 4 * k + wn) (b := 1) (by omega)) ?_
          refine kiald (f := R 0) hx hb hK hP 1 rfl (32 + 4 * k + wn - 1) rfl (by omega) (by omega) dX8_ofGrower_56 ?_
          refine lv_goto (tgt := 65) hx hb dX8_ofGrower_57 (by decide) ?_
          exact kiret (()) hQ hx hb hr hlocks hP hS dX8_ofGrower_65 (by unfold mOfGrower; rw [nI_clamp (n := k) (by omega), nI_clamp (n := wn) (by omega), if_pos c2, if_pos c4, if_neg c5, if_neg c6])
      · have c5n : wn = 0 := (nI_eq (a := wn) (b := 0) (by omega) (by omega)).mp c5
        refine lv_aload_n hx hb dX8_ofGrower_25 rfl (lv_at hl 0 rfl) ?_
        refine gfX8_7 (v := .ref (b 1)) hx hb hta hown hK hP 0 rfl rfl dX8_ofGrower_26 ?_
        refine lv_bipush (v := 10) hx hb dX8_ofGrower_29 (by decide) ?_
        refine lv_iload_n hx hb dX8_ofGrower_31 rfl (lv_at hl 1 rfl) ?_
        refine lv_iadd hx hb dX8_ofGrower_32 ?_
        refine kTop (nI_add 10 k) ?_
        refine kiald (f := R 0) hx hb hK hP 1 rfl (10 + k) rfl (by omega) (by omega) dX8_ofGrower_33 ?_
        refine lv_goto (tgt := 65) hx hb dX8_ofGrower_34 (by decide) ?_
        exact kiret (()) hQ hx hb hr hlocks hP hS dX8_ofGrower_65 (by unfold mOfGrower; rw [nI_clamp (n := k) (by omega), nI_clamp (n := wn) (by omega), if_pos c2, if_pos c4, if_pos c5])
    · refine kTop (kb_f c4) ?_
      refine lv_if_ne (tgt := 21) hx hb dX8_ofGrower_15 (by decide) (fun h => False.elim (by revert h; decide)) (fun _ => ?_)
      refine lv_bipush (v := (-2)) hx hb dX8_ofGrower_18 (by decide) ?_
      exact kiret (()) hQ hx hb hr hlocks hP hS dX8_ofGrower_20 (by unfold mOfGrower; rw [if_pos c2, if_neg c4])
  · refine kTop (kb_f c2) ?_
    refine lv_if_ne (tgt := 9) hx hb dX8_ofGrower_4 (by decide) (fun h => False.elim (by revert h; decide)) (fun _ => ?_)
    refine lv_iconst (v := (-1)) hx hb dX8_ofGrower_7 (by decide) ?_
    exact kiret (()) hQ hx hb hr hlocks hP hS dX8_ofGrower_8 (by unfold mOfGrower; rw [if_neg c2])
