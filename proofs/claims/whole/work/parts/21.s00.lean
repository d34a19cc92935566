set_option maxHeartbeats 4000000 in
set_option maxRecDepth 100000 in
theorem c_X8_mayCome (l : Launch) (D : va_G) (Y : Nat → ClassId) (b : Nat → Nat) (R : kN) (g t p0 b0 : Int32) (hZ : mX (R 0)) : kM l yX8_mayCome wX8_mayCome rX8_mayCome D Y (wR Y b R) [.ref (b 0), .int g, .int t, .int p0, .int b0] kX0 (kQi D (fun r (_ : Unit) => r = mMayCome (R 0) g t p0 b0) (fun _ => wR Y b R)) := by
  refine kentry (cc := cX8_mayCome) (maxL := 5) (ret := (some .int)) (by decide +kernel) rfl (Nat.le_of_ble_eq_true rfl) ?_
  intro p e s0 m args below meth c A Q ls hQ hx hb hr hlocks hml hown hin hta hA hX0 hK hNs hP hD hS hl
  have hown : s0.vm.findClass RX8 = some m.cls := hown
  have hl : lv_has ls 5 [(0, .ref (b 0)), (1, .int g), (2, .int t), (3, .int p0), (4, .int b0)] := hl
  have hF30 := hZ.f30
  refine lv_iload_n hx hb dX8_mayCome_0 rfl (lv_at hl 1 rfl) ?_
  refine kc_i (krS (As := [.int g]) (rest := []) (c_X8_isGrower l D Y g) ⟨hx, hb, hml, hown, hta⟩ (cwX8_103 hta ⟨Nat.le_of_ble_eq_true rfl, Nat.le_of_ble_eq_true rfl⟩) kX0b (fun _ _ _ => trivial) hK hNs hP hD (kJ_nil) rfl hl.1 rfl (Nat.le_of_ble_eq_true rfl) dX8_mayCome_1 ⟨Nat.le_of_ble_eq_true rfl, Nat.le_of_ble_eq_true rfl⟩) hP hD hS hA (kJ_nil) (fun _ => rfl) (fun r1 u H locs hw hP hD hS => ?_)
  subst hw
  have hP : va_P D vwCl (wR Y b R) H := hP
  have hD : va_D A (wR Y b R) := hD
  by_cases c2 : pIn g 0 5
  · refine kTop (kb_t c2) ?_
    refine lv_if_ne (tgt := 9) hx hb dX8_mayCome_4 (by decide) (fun _ => ?_) (fun h => False.elim (by revert h; decide))
    refine lv_iload_n hx hb dX8_mayCome_9 rfl (lv_at hl 2 rfl) ?_
    refine lv_iconst (v := 1) hx hb dX8_mayCome_10 (by decide) ?_
    refine lv_sipush (v := 300) hx hb dX8_mayCome_11 (by decide) ?_
    refine kc_i (krS (As := [.int t, .int 1, .int 300]) (rest := []) (c_X8_in l D Y t 1 300) ⟨hx, hb, hml, hown, hta⟩ (cwX8_32 hta ⟨Nat.le_of_ble_eq_true rfl, Nat.le_of_ble_eq_true rfl⟩) kX0b (fun _ _ _ => trivial) hK hNs hP hD (kJ_nil) rfl hl.1 rfl (Nat.le_of_ble_eq_true rfl) dX8_mayCome_14 ⟨Nat.le_of_ble_eq_true rfl, Nat.le_of_ble_eq_true rfl⟩) hP hD hS hA (kJ_nil) (fun _ => rfl) (fun r3 u H locs hw hP hD hS => ?_)
    subst hw
    have hP : va_P D vwCl (wR Y b R) H := hP
    have hD : va_D A (wR Y b R) := hD
    by_cases c4 : pIn t 1 300
    · refine kTop (kb_t c4) ?_
      refine lv_if_eq (tgt := 47) hx hb dX8_mayCome_17 (by decide) (fun h => False.elim (by revert h; decide)) (fun _ => ?_)
      refine lv_iload_n hx hb dX8_mayCome_20 rfl (lv_at hl 3 rfl) ?_
      refine lv_iconst (v := 1) hx hb dX8_mayCome_21 (by decide) ?_
      refine lv_bipush (v := 100) hx hb dX8_mayCome_22 (by decide) ?_
      refine kc_i (krS (As := [.int p0, .int 1, .int 100]) (rest := []) (c_X8_in l D Y p0 1 100) ⟨hx, hb, hml, hown, hta⟩ (cwX8_32 hta ⟨Nat.le_of_ble_eq_true rfl, Nat.le_of_ble_eq_true rfl⟩) kX0b (fun _ _ _ => trivial) hK hNs hP hD (kJ_nil) rfl hl.1 rfl (Nat.le_of_ble_eq_true rfl) dX8_mayCome_24 ⟨Nat.le_of_ble_eq_true rfl, Nat.le_of_ble_eq_true rfl⟩) hP hD hS hA (kJ_nil) (fun _ => rfl) (fun r5 u H locs hw hP hD hS => ?_)
      subst hw
      have hP : va_P D vwCl (wR Y b R) H := hP
      have hD : va_D A (wR Y b R) := hD
      by_cases c6 : pIn p0 1 100
      · refine kTop (kb_t c6) ?_
        refine lv_if_eq (tgt := 47) hx hb dX8_mayCome_27 (by decide) (fun h => False.elim (by revert h; decide)) (fun _ => ?_)
        refine lv_iload hx hb dX8_mayCome_30 (lv_at hl 4 rfl) ?_
        refine lv_aload_n hx hb dX8_mayCome_32 rfl (lv_at hl 0 rfl) ?_
        refine gfX8_7 (v := .ref (b 1)) hx hb hta hown hK hP 0 rfl rfl dX8_mayCome_33 ?_
        refine lv_iconst (v := 0) hx hb dX8_mayCome_36 (by decide) ?_
        refine kiald (f := R 0) hx hb hK hP 1 rfl 0 rfl (by omega) (by omega) dX8_mayCome_37 ?_
        refine lv_sipush (v := 999) hx hb dX8_mayCome_38 (by decide) ?_
        refine kc_i (krS (As := [.int b0, .int (R 0 0), .int 999]) (rest := []) (c_X8_in l D Y b0 (R 0 0) 999) ⟨hx, hb, hml, hown, hta⟩ (cwX8_32 hta ⟨Nat.le_of_ble_eq_true rfl, Nat.le_of_ble_eq_true rfl⟩) kX0b (fun _ _ _ => trivial) hK hNs hP hD (kJ_nil) rfl hl.1 rfl (Nat.le_of_ble_eq_true rfl) dX8_mayCome_41 ⟨Nat.le_of_ble_eq_true rfl, Nat.le_of_ble_eq_true rfl⟩) hP hD hS hA (kJ_nil) (fun _ => rfl) (fun r7 u H locs hw hP hD hS => ?_)
        subst hw
        have hP : va_P D vwCl (wR Y b R) H := hP
        have hD : va_D A (wR Y b R) := hD
        by_cases c8 : pIn b0 (R 0 0) 999
        · refine kTop (kb_t c8) ?_
          refine lv_if_ne (tgt := 50) hx hb dX8_mayCome_44 (by decide) (fun _ => ?_) (fun h => False.elim (by revert h; decide))
          refine lv_aload_n hx hb dX8_mayCome_50 rfl (lv_at hl 0 rfl) ?_
          refine gfX8_7 (v := .ref (b 1)) hx hb hta hown hK hP 0 rfl rfl dX8_mayCome_51 ?_
          refine lv_iconst (v := 1) hx hb dX8_mayCome_54 (by decide) ?_
          refine kiald (f := R 0) hx hb hK hP 1 rfl 1 rfl (by omega) (by omega) dX8_mayCome_55 ?_
          refine kTop hZ.f ?_
          refine lv_bipush (v := 30) hx hb dX8_mayCome_56 (by decide) ?_
          refine lv_icmp_ne (tgt := 66) hx hb dX8_mayCome_58 (by decide) (fun c9 => ?_) (fun c9 => ?_)
          · have c9n : ¬ (mF (R 0)) = 30 := fun h => c9 ((nI_eq (a := mF (R 0)) (b := 30) (by omega) (by omega)).mpr h)
            refine lv_iconst (v := 0) hx hb dX8_mayCome_66 (by decide) ?_
            exact kiret (()) hQ hx hb hr hlocks hP hS dX8_mayCome_67 (by unfold mMayCome; rw [if_pos c2, if_pos c4, if_pos c6, if_pos c8, if_neg c9n])
          · have c9n : (mF (R 0)) = 30 := (nI_eq (a := mF (R 0)) (b := 30) (by omega) (by omega)).mp c9
            refine lv_bipush (v := (-4)) hx hb dX8_mayCome_61 (by decide) ?_
            refine lv_goto (tgt := 67) hx hb dX8_mayCome_63 (by decide) ?_
            exact kiret (()) hQ hx hb hr hlocks hP hS dX8_mayCome_67 (by unfold mMayCome; rw [if_pos c2, if_pos c4, if_pos c6, if_pos c8, if_pos c9n])
        · refine kTop (kb_f c8) ?_
          refine lv_if_ne (tgt := 50) hx hb dX8_mayCome_44 (by decide) (fun h => False.elim (by revert h; decide)) (fun _ => ?_)
          refine lv_bipush (v := (-2)) hx hb dX8_mayCome_47 (by decide) ?_
          exact kiret (()) hQ hx hb hr hlocks hP hS dX8_mayCome_49 (by unfold mMayCome; rw [if_pos c2, if_pos c4, if_pos c6, if_neg c8])
      · refine kTop (kb_f c6) ?_
        refine lv_if_eq (tgt := 47) hx hb dX8_mayCome_27 (by decide) (fun _ => ?_) (fun h => False.elim (by revert h; decide))
        refine lv_bipush (v := (-2)) hx hb dX8_mayCome_47 (by decide) ?_
        exact kiret (()) hQ hx hb hr hlocks hP hS dX8_mayCome_49 (by unfold mMayCome; rw [if_pos c2, if_pos c4, if_neg c6])
    · refine kTop (kb_f c4) ?_
      refine lv_if_eq (tgt := 47) hx hb dX8_mayCome_17 (by decide) (fun _ => ?_) (fun h => False.elim (by revert h; decide))
      refine lv_bipush (v := (-2)) hx hb dX8_mayCome_47 (by decide) ?_
      exact kiret (()) hQ hx hb hr hlocks hP hS dX8_mayCome_49 (by unfold mMayCome; rw [if_pos c2, if_neg c4])
  · refine kTop (kb_f c2) ?_
    refine lv_if_ne (tgt := 9) hx hb dX8_mayCome_4 (by decide) (fun h => False.elim (by revert h; decide)) (fun _ => ?_)
    refine lv_iconst (v := (-1)) hx hb dX8_mayCome_7 (by decide) ?_
    exact kiret (()) hQ hx hb hr hlocks hP hS dX8_mayCome_8 (by unfold mMayCome; rw [if_neg c2])
