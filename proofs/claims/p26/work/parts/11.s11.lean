set_option maxHeartbeats 4000000 in
set_option maxRecDepth 100000 in
theorem c_X3_addField (l : Launch) (D : va_G) (Y : Nat → ClassId) (a : Nat → Nat) (M : kN) (g t p0 b0 : Int32) (hI : cI M) : kM l yX3_addField wX3_addField rX3_addField D Y (wM Y a M) [.ref (a 0), .int g, .int t, .int p0, .int b0] kX0 (kQi D (fun r u => r = (cField M g t p0 b0).1 ∧ u = (cField M g t p0 b0).2) (fun u => wM Y a u)) := by
  refine kentry (cc := cX3_addField) (maxL := 5) (ret := (some .int)) (by decide +kernel) rfl (Nat.le_of_ble_eq_true rfl) ?_
  intro p e s m args below meth c A Q ls hQ hx hb hr hlocks hml hown hin hta hA hX hK hNs hP hD hS hl
  have hown : s.vm.findClass RX3 = some m.cls := hown
  have hl : lv_has ls 5 [(0, .ref (a 0)), (1, .int g), (2, .int t), (3, .int p0), (4, .int b0)] := hl
  refine lv_iload_n hx hb dX3_addField_0 rfl (lv_at hl 1 rfl) ?_
  refine kc_i (krSN (As := [.int g]) (rest := []) (c_X7_isGrower l D Y g) ⟨hx, hb, hml, hown, hta⟩ (cwX3_83 hta hNs ⟨Nat.le_of_ble_eq_true rfl, Nat.le_of_ble_eq_true rfl⟩) kX0b (fun _ _ _ => trivial) hK hNs hP hD (kJ_nil) rfl hl.1 rfl (Nat.le_of_ble_eq_true rfl) dX3_addField_1 ⟨Nat.le_of_ble_eq_true rfl, Nat.le_of_ble_eq_true rfl⟩) hP hD hS hA (kJ_nil) (fun _ => rfl) (fun r1 u H locs hw hP hD hS => ?_)
  subst hw
  have hP : va_P D vwCl (wM Y a M) H := hP
  have hD : va_D A (wM Y a M) := hD
  by_cases c2 : pIn g 0 5
  · refine kTop (kb_t c2) ?_
    refine lv_if_ne (tgt := 9) hx hb dX3_addField_4 (by decide) (fun _ => ?_) (fun h => False.elim (by revert h; decide))
    refine lv_iload_n hx hb dX3_addField_9 rfl (lv_at hl 2 rfl) ?_
    refine lv_iconst (v := 1) hx hb dX3_addField_10 (by decide) ?_
    refine lv_sipush (v := 300) hx hb dX3_addField_11 (by decide) ?_
    refine kc_i (krSN (As := [.int t, .int 1, .int 300]) (rest := []) (c_X7_isWithin l D Y t 1 300) ⟨hx, hb, hml, hown, hta⟩ (cwX3_73 hta hNs ⟨Nat.le_of_ble_eq_true rfl, Nat.le_of_ble_eq_true rfl⟩) kX0b (fun _ _ _ => trivial) hK hNs hP hD (kJ_nil) rfl hl.1 rfl (Nat.le_of_ble_eq_true rfl) dX3_addField_14 ⟨Nat.le_of_ble_eq_true rfl, Nat.le_of_ble_eq_true rfl⟩) hP hD hS hA (kJ_nil) (fun _ => rfl) (fun r3 u H locs hw hP hD hS => ?_)
    subst hw
    have hP : va_P D vwCl (wM Y a M) H := hP
    have hD : va_D A (wM Y a M) := hD
    by_cases c4 : pIn t 1 300
    · refine kTop (kb_t c4) ?_
      refine lv_if_eq (tgt := 30) hx hb dX3_addField_17 (by decide) (fun h => False.elim (by revert h; decide)) (fun _ => ?_)
      refine lv_iload_n hx hb dX3_addField_20 rfl (lv_at hl 3 rfl) ?_
      refine lv_iconst (v := 1) hx hb dX3_addField_21 (by decide) ?_
      refine lv_bipush (v := 100) hx hb dX3_addField_22 (by decide) ?_
      refine kc_i (krSN (As := [.int p0, .int 1, .int 100]) (rest := []) (c_X7_isWithin l D Y p0 1 100) ⟨hx, hb, hml, hown, hta⟩ (cwX3_73 hta hNs ⟨Nat.le_of_ble_eq_true rfl, Nat.le_of_ble_eq_true rfl⟩) kX0b (fun _ _ _ => trivial) hK hNs hP hD (kJ_nil) rfl hl.1 rfl (Nat.le_of_ble_eq_true rfl) dX3_addField_24 ⟨Nat.le_of_ble_eq_true rfl, Nat.le_of_ble_eq_true rfl⟩) hP hD hS hA (kJ_nil) (fun _ => rfl) (fun r5 u H locs hw hP hD hS => ?_)
      subst hw
      have hP : va_P D vwCl (wM Y a M) H := hP
      have hD : va_D A (wM Y a M) := hD
      by_cases c6 : pIn p0 1 100
      · refine kTop (kb_t c6) ?_
        refine lv_if_ne (tgt := 33) hx hb dX3_addField_27 (by decide) (fun _ => ?_) (fun h => False.elim (by revert h; decide))
        refine lv_iload hx hb dX3_addField_33 (lv_at hl 4 rfl) ?_
        refine lv_aload_n hx hb dX3_addField_35 rfl (lv_at hl 0 rfl) ?_
        refine gfX3_60 (v := .int (M 19 0)) hx hb hta hown hK hP 0 rfl rfl dX3_addField_36 ?_
        refine lv_sipush (v := 999) hx hb dX3_addField_39 (by decide) ?_
        refine kc_i (krSN (As := [.int b0, .int (M 19 0), .int 999]) (rest := []) (c_X7_isWithin l D Y b0 (M 19 0) 999) ⟨hx, hb, hml, hown, hta⟩ (cwX3_73 hta hNs ⟨Nat.le_of_ble_eq_true rfl, Nat.le_of_ble_eq_true rfl⟩) kX0b (fun _ _ _ => trivial) hK hNs hP hD (kJ_nil) rfl hl.1 rfl (Nat.le_of_ble_eq_true rfl) dX3_addField_42 ⟨Nat.le_of_ble_eq_true rfl, Nat.le_of_ble_eq_true rfl⟩) hP hD hS hA (kJ_nil) (fun _ => rfl) (fun r7 u H locs hw hP hD hS => ?_)
        subst hw
        have hP : va_P D vwCl (wM Y a M) H := hP
        have hD : va_D A (wM Y a M) := hD
        by_cases c8 : pIn b0 (M 19 0) 999
        · refine kTop (kb_t c8) ?_
          refine lv_if_ne (tgt := 51) hx hb dX3_addField_45 (by decide) (fun _ => ?_) (fun h => False.elim (by revert h; decide))
          refine lv_aload_n hx hb dX3_addField_51 rfl (lv_at hl 0 rfl) ?_
          refine gfX3_25 (v := .ref (a 8)) hx hb hta hown hK hP 0 rfl rfl dX3_addField_52 ?_
          refine lv_iload_n hx hb dX3_addField_55 rfl (lv_at hl 1 rfl) ?_
          refine lv_iload_n hx hb dX3_addField_56 rfl (lv_at hl 2 rfl) ?_
          refine lv_iload_n hx hb dX3_addField_57 rfl (lv_at hl 3 rfl) ?_
          refine lv_iload hx hb dX3_addField_58 (lv_at hl 4 rfl) ?_
          refine kc_i (krV (As := [.int g, .int t, .int p0, .int b0]) (rest := []) (c_X0_append l D Y a M g t p0 b0 hI) ⟨hx, hb, hml, hown, hta⟩ (cwX3_90 hta ⟨Nat.le_of_ble_eq_true rfl, Nat.le_of_ble_eq_true rfl⟩) kX0b (fun _ _ _ => trivial) hK hNs hP hD (kJ_all) (q0 := 8) rfl rfl rfl rfl hl.1 rfl (Nat.le_of_ble_eq_true rfl) dX3_addField_60 ⟨Nat.le_of_ble_eq_true rfl, Nat.le_of_ble_eq_true rfl⟩) hP hD hS hA (kJ_all) (fun _ => rfl) (fun r9 N1 H locs hw hP hD hS => ?_)
          obtain ⟨rfl, hN1⟩ := hw
          have hP : va_P D vwCl (wM Y a N1) H := hP
          have hD : va_D A (wM Y a N1) := hD
          exact kiret (N1) hQ hx hb hr hlocks hP hS dX3_addField_63 (by unfold cField; rw [if_pos c2, if_pos c4, if_pos c6, if_pos c8]; exact ⟨rfl, hN1⟩)
        · refine kTop (kb_f c8) ?_
          refine lv_if_ne (tgt := 51) hx hb dX3_addField_45 (by decide) (fun h => False.elim (by revert h; decide)) (fun _ => ?_)
          refine lv_bipush (v := (-2)) hx hb dX3_addField_48 (by decide) ?_
          exact kiret (M) hQ hx hb hr hlocks hP hS dX3_addField_50 (by unfold cField; rw [if_pos c2, if_pos c4, if_pos c6, if_neg c8]; exact ⟨rfl, rfl⟩)
      · refine kTop (kb_f c6) ?_
        refine lv_if_ne (tgt := 33) hx hb dX3_addField_27 (by decide) (fun h => False.elim (by revert h; decide)) (fun _ => ?_)
        refine lv_bipush (v := (-2)) hx hb dX3_addField_30 (by decide) ?_
        exact kiret (M) hQ hx hb hr hlocks hP hS dX3_addField_32 (by unfold cField; rw [if_pos c2, if_pos c4, if_neg c6]; exact ⟨rfl, rfl⟩)
    · refine kTop (kb_f c4) ?_
      refine lv_if_eq (tgt := 30) hx hb dX3_addField_17 (by decide) (fun _ => ?_) (fun h => False.elim (by revert h; decide))
      refine lv_bipush (v := (-2)) hx hb dX3_addField_30 (by decide) ?_
      exact kiret (M) hQ hx hb hr hlocks hP hS dX3_addField_32 (by unfold cField; rw [if_pos c2, if_neg c4]; exact ⟨rfl, rfl⟩)
  · refine kTop (kb_f c2) ?_
    refine lv_if_ne (tgt := 9) hx hb dX3_addField_4 (by decide) (fun h => False.elim (by revert h; decide)) (fun _ => ?_)
    refine lv_iconst (v := (-1)) hx hb dX3_addField_7 (by decide) ?_
    exact kiret (M) hQ hx hb hr hlocks hP hS dX3_addField_8 (by unfold cField; rw [if_neg c2]; exact ⟨rfl, rfl⟩)
