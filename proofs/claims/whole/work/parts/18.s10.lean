set_option maxHeartbeats 4000000 in
set_option maxRecDepth 100000 in
theorem c_X8_mayQuota (l : Launch) (D : va_G) (Y : Nat → ClassId) (g t : Int32) : kM l yX8_mayQuota wX8_mayQuota rX8_mayQuota D Y ([]) [.int g, .int t] kX0 (kQi D (fun r (_ : Unit) => r = mMayQuota g t) (fun _ => [])) := by
  refine kentry (cc := cX8_mayQuota) (maxL := 2) (ret := (some .int)) (by decide +kernel) rfl (Nat.le_of_ble_eq_true rfl) ?_
  intro p e s0 m args below meth c A Q ls hQ hx hb hr hlocks hml hown hin hta hA hX0 hK hNs hP hD hS hl
  have hown : s0.vm.findClass RX8 = some m.cls := hown
  have hl : lv_has ls 2 [(0, .int g), (1, .int t)] := hl
  refine lv_iload_n hx hb dX8_mayQuota_0 rfl (lv_at hl 0 rfl) ?_
  refine kc_i (krS (As := [.int g]) (rest := []) (c_X8_isGrower l D Y g) ⟨hx, hb, hml, hown, hta⟩ (cwX8_103 hta ⟨Nat.le_of_ble_eq_true rfl, Nat.le_of_ble_eq_true rfl⟩) kX0b (fun _ _ _ => trivial) hK hNs hP hD (kJ_nil) rfl hl.1 rfl (Nat.le_of_ble_eq_true rfl) dX8_mayQuota_1 ⟨Nat.le_of_ble_eq_true rfl, Nat.le_of_ble_eq_true rfl⟩) hP hD hS hA (kJ_nil) (fun _ => rfl) (fun r1 u H locs hw hP hD hS => ?_)
  subst hw
  have hP : va_P D vwCl ([]) H := hP
  have hD : va_D A ([]) := hD
  by_cases c2 : pIn g 0 5
  · refine kTop (kb_t c2) ?_
    refine lv_if_ne (tgt := 11) hx hb dX8_mayQuota_4 (by decide) (fun _ => ?_) (fun h => False.elim (by revert h; decide))
    refine lv_iload_n hx hb dX8_mayQuota_11 rfl (lv_at hl 1 rfl) ?_
    refine lv_iconst (v := 0) hx hb dX8_mayQuota_12 (by decide) ?_
    refine lv_sipush (v := 9999) hx hb dX8_mayQuota_13 (by decide) ?_
    refine kc_i (krS (As := [.int t, .int 0, .int 9999]) (rest := []) (c_X8_in l D Y t 0 9999) ⟨hx, hb, hml, hown, hta⟩ (cwX8_32 hta ⟨Nat.le_of_ble_eq_true rfl, Nat.le_of_ble_eq_true rfl⟩) kX0b (fun _ _ _ => trivial) hK hNs hP hD (kJ_nil) rfl hl.1 rfl (Nat.le_of_ble_eq_true rfl) dX8_mayQuota_16 ⟨Nat.le_of_ble_eq_true rfl, Nat.le_of_ble_eq_true rfl⟩) hP hD hS hA (kJ_nil) (fun _ => rfl) (fun r3 u H locs hw hP hD hS => ?_)
    subst hw
    have hP : va_P D vwCl ([]) H := hP
    have hD : va_D A ([]) := hD
    by_cases c4 : pIn t 0 9999
    · refine kTop (kb_t c4) ?_
      refine lv_if_eq (tgt := 26) hx hb dX8_mayQuota_19 (by decide) (fun h => False.elim (by revert h; decide)) (fun _ => ?_)
      refine lv_iconst (v := 0) hx hb dX8_mayQuota_22 (by decide) ?_
      refine lv_goto (tgt := 28) hx hb dX8_mayQuota_23 (by decide) ?_
      exact kiret (()) hQ hx hb hr hlocks hP hS dX8_mayQuota_28 (by unfold mMayQuota; rw [if_pos c2, if_pos c4])
    · refine kTop (kb_f c4) ?_
      refine lv_if_eq (tgt := 26) hx hb dX8_mayQuota_19 (by decide) (fun _ => ?_) (fun h => False.elim (by revert h; decide))
      refine lv_bipush (v := (-2)) hx hb dX8_mayQuota_26 (by decide) ?_
      exact kiret (()) hQ hx hb hr hlocks hP hS dX8_mayQuota_28 (by unfold mMayQuota; rw [if_pos c2, if_neg c4])
  · refine kTop (kb_f c2) ?_
    refine lv_if_ne (tgt := 11) hx hb dX8_mayQuota_4 (by decide) (fun h => False.elim (by revert h; decide)) (fun _ => ?_)
    refine lv_iconst (v := (-1)) hx hb dX8_mayQuota_7 (by decide) ?_
    refine lv_goto (tgt := 28) hx hb dX8_mayQuota_8 (by decide) ?_
    exact kiret (()) hQ hx hb hr hlocks hP hS dX8_mayQuota_28 (by unfold mMayQuota; rw [if_neg c2])
