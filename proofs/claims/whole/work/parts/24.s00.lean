set_option maxHeartbeats 4000000 in
set_option maxRecDepth 100000 in
theorem c_X8_ofField (l : Launch) (D : va_G) (Y : Nat → ClassId) (b : Nat → Nat) (R : kN) (f w : Int32) (hZ : mX (R 0)) : kM l yX8_ofField wX8_ofField rX8_ofField D Y (wR Y b R) [.ref (b 0), .int f, .int w] kX0 (kQi D (fun r (_ : Unit) => r = mOfField (R 0) f w) (fun _ => wR Y b R)) := by
  refine kentry (cc := cX8_ofField) (maxL := 3) (ret := (some .int)) (by decide +kernel) rfl (Nat.le_of_ble_eq_true rfl) ?_
  intro p e s0 m args below meth c A Q ls hQ hx hb hr hlocks hml hown hin hta hA hX0 hK hNs hP hD hS hl
  have hown : s0.vm.findClass RX8 = some m.cls := hown
  have hl : lv_has ls 3 [(0, .ref (b 0)), (1, .int f), (2, .int w)] := hl
  have hF30 := hZ.f30
  refine lv_iload_n hx hb dX8_ofField_0 rfl (lv_at hl 1 rfl) ?_
  refine lv_iconst (v := 0) hx hb dX8_ofField_1 (by decide) ?_
  refine lv_aload_n hx hb dX8_ofField_2 rfl (lv_at hl 0 rfl) ?_
  refine gfX8_7 (v := .ref (b 1)) hx hb hta hown hK hP 0 rfl rfl dX8_ofField_3 ?_
  refine lv_iconst (v := 1) hx hb dX8_ofField_6 (by decide) ?_
  refine kiald (f := R 0) hx hb hK hP 1 rfl 1 rfl (by omega) (by omega) dX8_ofField_7 ?_
  refine kTop hZ.f ?_
  refine lv_iconst (v := 1) hx hb dX8_ofField_8 (by decide) ?_
  refine lv_isub hx hb dX8_ofField_9 ?_
  refine kc_i (krS (As := [.int f, .int 0, .int ((nI (mF (R 0))) - 1)]) (rest := []) (c_X8_in l D Y f 0 ((nI (mF (R 0))) - 1)) ⟨hx, hb, hml, hown, hta⟩ (cwX8_32 hta ⟨Nat.le_of_ble_eq_true rfl, Nat.le_of_ble_eq_true rfl⟩) kX0b (fun _ _ _ => trivial) hK hNs hP hD (kJ_nil) rfl hl.1 rfl (Nat.le_of_ble_eq_true rfl) dX8_ofField_10 ⟨Nat.le_of_ble_eq_true rfl, Nat.le_of_ble_eq_true rfl⟩) hP hD hS hA (kJ_nil) (fun _ => rfl) (fun r1 u H locs hw hP hD hS => ?_)
  subst hw
  have hP : va_P D vwCl (wR Y b R) H := hP
  have hD : va_D A (wR Y b R) := hD
  by_cases c2 : pIn f 0 ((nI (mF (R 0))) - 1)
  · refine kTop (kb_t c2) ?_
    refine lv_if_ne (tgt := 18) hx hb dX8_ofField_13 (by decide) (fun _ => ?_) (fun h => False.elim (by revert h; decide))
    refine lv_iload_n hx hb dX8_ofField_18 rfl (lv_at hl 2 rfl) ?_
    refine lv_iconst (v := 0) hx hb dX8_ofField_19 (by decide) ?_
    refine lv_bipush (v := 9) hx hb dX8_ofField_20 (by decide) ?_
    refine kc_i (krS (As := [.int w, .int 0, .int 9]) (rest := []) (c_X8_in l D Y w 0 9) ⟨hx, hb, hml, hown, hta⟩ (cwX8_32 hta ⟨Nat.le_of_ble_eq_true rfl, Nat.le_of_ble_eq_true rfl⟩) kX0b (fun _ _ _ => trivial) hK hNs hP hD (kJ_nil) rfl hl.1 rfl (Nat.le_of_ble_eq_true rfl) dX8_ofField_22 ⟨Nat.le_of_ble_eq_true rfl, Nat.le_of_ble_eq_true rfl⟩) hP hD hS hA (kJ_nil) (fun _ => rfl) (fun r3 u H locs hw hP hD hS => ?_)
    subst hw
    have hP : va_P D vwCl (wR Y b R) H := hP
    have hD : va_D A (wR Y b R) := hD
    by_cases c4 : pIn w 0 9
    · refine kTop (kb_t c4) ?_
      refine lv_if_ne (tgt := 31) hx hb dX8_ofField_25 (by decide) (fun _ => ?_) (fun h => False.elim (by revert h; decide))
      obtain ⟨k, rfl, hk⟩ := pIn_lt (by omega) c2
      obtain ⟨wn, rfl, hwnl, hwnh⟩ := pIn_nat c4 (show (0 : Int32) = nI 0 from rfl) (show (9 : Int32) = nI 9 from rfl) (by omega) (by omega)
      refine lv_iload_n hx hb dX8_ofField_31 rfl (lv_at hl 2 rfl) ?_
      refine lv_iconst (v := 4) hx hb dX8_ofField_32 (by decide) ?_
      refine lv_icmp_ge (tgt := 48) hx hb dX8_ofField_33 (by decide) (fun c5 => ?_) (fun c5 => ?_)
      · have c5n : 4 ≤ wn := (nI_leI (a := 4) (b := wn) (by omega) (by omega)).mp c5
        refine lv_iload_n hx hb dX8_ofField_48 rfl (lv_at hl 2 rfl) ?_
        refine lv_iconst (v := 4) hx hb dX8_ofField_49 (by decide) ?_
        refine lv_icmp_ne (tgt := 64) hx hb dX8_ofField_50 (by decide) (fun c6 => ?_) (fun c6 => ?_)
        · have c6n : ¬ wn = 4 := fun h => c6 ((nI_eq (a := wn) (b := 4) (by omega) (by omega)).mpr h)
          refine lv_iload_n hx hb dX8_ofField_64 rfl (lv_at hl 2 rfl) ?_
          refine lv_bipush (v := 9) hx hb dX8_ofField_65 (by decide) ?_
          refine lv_icmp_ne (tgt := 81) hx hb dX8_ofField_67 (by decide) (fun c7 => ?_) (fun c7 => ?_)
          · have c7n : ¬ wn = 9 := fun h => c7 ((nI_eq (a := wn) (b := 9) (by omega) (by omega)).mpr h)
            refine lv_aload_n hx hb dX8_ofField_81 rfl (lv_at hl 0 rfl) ?_
            refine gfX8_7 (v := .ref (b 1)) hx hb hta hown hK hP 0 rfl rfl dX8_ofField_82 ?_
            refine lv_iload_n hx hb dX8_ofField_85 rfl (lv_at hl 1 rfl) ?_
            refine lv_iconst (v := 4) hx hb dX8_ofField_86 (by decide) ?_
            refine lv_iload_n hx hb dX8_ofField_87 rfl (lv_at hl 2 rfl) ?_
            refine lv_iadd hx hb dX8_ofField_88 ?_
            refine kTop (nI_add 4 wn) ?_
            refine lv_iconst (v := 5) hx hb dX8_ofField_89 (by decide) ?_
            refine lv_isub hx hb dX8_ofField_90 ?_
            refine kTop (y := nI (wn - 1)) ((pk_sub (a := 4 + wn) (b := 5) (by omega)).trans (congrArg nI (by omega))) ?_
            refine kc_i (krS (As := [.ref (b 1), .int (nI k), .int (nI (wn - 1))]) (rest := []) (c_X8_of l D Y (b 1) (R 0) k (wn - 1) (by omega) (by omega)) ⟨hx, hb, hml, hown, hta⟩ (cwX8_47 hta ⟨Nat.le_of_ble_eq_true rfl, Nat.le_of_ble_eq_true rfl⟩) kX0b (fun _ _ _ => trivial) hK hNs hP hD (kJ_sub [1] rfl rfl) rfl hl.1 rfl (Nat.le_of_ble_eq_true rfl) dX8_ofField_91 ⟨Nat.le_of_ble_eq_true rfl, Nat.le_of_ble_eq_true rfl⟩) hP hD hS hA (kJ_sub [1] rfl rfl) (fun _ => rfl) (fun r8 u H locs hw hP hD hS => ?_)
            subst hw
            have hP : va_P D vwCl (wR Y b R) H := hP
            have hD : va_D A (wR Y b R) := hD
            exact kiret (()) hQ hx hb hr hlocks hP hS dX8_ofField_94 (by unfold mOfField; rw [hZ.f, nI_clamp (n := k) (by omega), nI_clamp (n := wn) (by omega), if_pos c2, if_pos c4, if_pos c5, if_neg c6, if_neg c7])
          · have c7n : wn = 9 := (nI_eq (a := wn) (b := 9) (by omega) (by omega)).mp c7
            refine lv_aload_n hx hb dX8_ofField_70 rfl (lv_at hl 0 rfl) ?_
            refine gfX8_7 (v := .ref (b 1)) hx hb hta hown hK hP 0 rfl rfl dX8_ofField_71 ?_
            refine lv_iload_n hx hb dX8_ofField_74 rfl (lv_at hl 1 rfl) ?_
            refine kc_i (krS (As := [.ref (b 1), .int (nI k)]) (rest := []) (c_X8_purity l D Y (b 1) (R 0) k (by omega)) ⟨hx, hb, hml, hown, hta⟩ (cwX8_67 hta ⟨Nat.le_of_ble_eq_true rfl, Nat.le_of_ble_eq_true rfl⟩) kX0b (fun _ _ _ => trivial) hK hNs hP hD (kJ_sub [1] rfl rfl) rfl hl.1 rfl (Nat.le_of_ble_eq_true rfl) dX8_ofField_75 ⟨Nat.le_of_ble_eq_true rfl, Nat.le_of_ble_eq_true rfl⟩) hP hD hS hA (kJ_sub [1] rfl rfl) (fun _ => rfl) (fun r9 u H locs hw hP hD hS => ?_)
            subst hw
            have hP : va_P D vwCl (wR Y b R) H := hP
            have hD : va_D A (wR Y b R) := hD
            refine lv_goto (tgt := 94) hx hb dX8_ofField_78 (by decide) ?_
            exact kiret (()) hQ hx hb hr hlocks hP hS dX8_ofField_94 (by unfold mOfField; rw [hZ.f, nI_clamp (n := k) (by omega), nI_clamp (n := wn) (by omega), if_pos c2, if_pos c4, if_pos c5, if_neg c6, if_pos c7])
        · have c6n : wn = 4 := (nI_eq (a := wn) (b := 4) (by omega) (by omega)).mp c6
          refine lv_aload_n hx hb dX8_ofField_53 rfl (lv_at hl 0 rfl) ?_
          refine gfX8_7 (v := .ref (b 1)) hx hb hta hown hK hP 0 rfl rfl dX8_ofField_54 ?_
          refine lv_iload_n hx hb dX8_ofField_57 rfl (lv_at hl 1 rfl) ?_
          refine kc_i (krS (As := [.ref (b 1), .int (nI k)]) (rest := []) (c_X8_how l D Y (b 1) (R 0) k (by omega)) ⟨hx, hb, hml, hown, hta⟩ (cwX8_51 hta ⟨Nat.le_of_ble_eq_true rfl, Nat.le_of_ble_eq_true rfl⟩) kX0b (fun _ _ _ => trivial) hK hNs hP hD (kJ_sub [1] rfl rfl) rfl hl.1 rfl (Nat.le_of_ble_eq_true rfl) dX8_ofField_58 ⟨Nat.le_of_ble_eq_true rfl, Nat.le_of_ble_eq_true rfl⟩) hP hD hS hA (kJ_sub [1] rfl rfl) (fun _ => rfl) (fun r10 u H locs hw hP hD hS => ?_)
          subst hw
          have hP : va_P D vwCl (wR Y b R) H := hP
          have hD : va_D A (wR Y b R) := hD
          refine lv_goto (tgt := 94) hx hb dX8_ofField_61 (by decide) ?_
          exact kiret (()) hQ hx hb hr hlocks hP hS dX8_ofField_94 (by unfold mOfField; rw [hZ.f, nI_clamp (n := k) (by omega), nI_clamp (n := wn) (by omega), if_pos c2, if_pos c4, if_pos c5, if_pos c6])
      · have c5n : ¬ 4 ≤ wn := fun h => c5 ((nI_leI (a := 4) (b := wn) (by omega) (by omega)).mpr h)
        refine lv_aload_n hx hb dX8_ofField_36 rfl (lv_at hl 0 rfl) ?_
        refine gfX8_7 (v := .ref (b 1)) hx hb hta hown hK hP 0 rfl rfl dX8_ofField_37 ?_
        refine lv_iload_n hx hb dX8_ofField_40 rfl (lv_at hl 1 rfl) ?_
        refine lv_iload_n hx hb dX8_ofField_41 rfl (lv_at hl 2 rfl) ?_
        refine kc_i (krS (As := [.ref (b 1), .int (nI k), .int (nI wn)]) (rest := []) (c_X8_of l D Y (b 1) (R 0) k wn (by omega) (by omega)) ⟨hx, hb, hml, hown, hta⟩ (cwX8_47 hta ⟨Nat.le_of_ble_eq_true rfl, Nat.le_of_ble_eq_true rfl⟩) kX0b (fun _ _ _ => trivial) hK hNs hP hD (kJ_sub [1] rfl rfl) rfl hl.1 rfl (Nat.le_of_ble_eq_true rfl) dX8_ofField_42 ⟨Nat.le_of_ble_eq_true rfl, Nat.le_of_ble_eq_true rfl⟩) hP hD hS hA (kJ_sub [1] rfl rfl) (fun _ => rfl) (fun r11 u H locs hw hP hD hS => ?_)
        subst hw
        have hP : va_P D vwCl (wR Y b R) H := hP
        have hD : va_D A (wR Y b R) := hD
        refine lv_goto (tgt := 94) hx hb dX8_ofField_45 (by decide) ?_
        exact kiret (()) hQ hx hb hr hlocks hP hS dX8_ofField_94 (by unfold mOfField; rw [hZ.f, nI_clamp (n := k) (by omega), nI_clamp (n := wn) (by omega), if_pos c2, if_pos c4, if_neg c5])
    · refine kTop (kb_f c4) ?_
      refine lv_if_ne (tgt := 31) hx hb dX8_ofField_25 (by decide) (fun h => False.elim (by revert h; decide)) (fun _ => ?_)
      refine lv_bipush (v := (-2)) hx hb dX8_ofField_28 (by decide) ?_
      exact kiret (()) hQ hx hb hr hlocks hP hS dX8_ofField_30 (by unfold mOfField; rw [hZ.f]; rw [if_pos c2, if_neg c4])
  · refine kTop (kb_f c2) ?_
    refine lv_if_ne (tgt := 18) hx hb dX8_ofField_13 (by decide) (fun h => False.elim (by revert h; decide)) (fun _ => ?_)
    refine lv_iconst (v := (-1)) hx hb dX8_ofField_16 (by decide) ?_
    exact kiret (()) hQ hx hb hr hlocks hP hS dX8_ofField_17 (by unfold mOfField; rw [hZ.f]; rw [if_neg c2])
