set_option maxHeartbeats 4000000 in
set_option maxRecDepth 100000 in
theorem c_X8_set (l : Launch) (D : va_G) (Y : Nat → ClassId) (b : Nat → Nat) (R : kN) (k v : Int32) (hk : R 7 0 = nI (kp R) ∧ kp R ≤ 6) : kM l yX8_set wX8_set rX8_set D Y (wR Y b R) [.ref (b 0), .int k, .int v] kX0 (kQi D (fun r u => r = (mSet R k v).1 ∧ u = (mSet R k v).2) (fun u => wR Y b u)) := by
  refine kentry (cc := cX8_set) (maxL := 3) (ret := (some .int)) (by decide +kernel) rfl (Nat.le_of_ble_eq_true rfl) ?_
  intro p e s0 m args below meth c A Q ls hQ hx hb hr hlocks hml hown hin hta hA hX0 hK hNs hP hD hS hl
  have hown : s0.vm.findClass RX8 = some m.cls := hown
  have hl : lv_has ls 3 [(0, .ref (b 0)), (1, .int k), (2, .int v)] := hl
  refine lv_iload_n hx hb dX8_set_0 rfl (lv_at hl 1 rfl) ?_
  refine lv_iconst (v := 0) hx hb dX8_set_1 (by decide) ?_
  refine lv_bipush (v := 6) hx hb dX8_set_2 (by decide) ?_
  refine kc_i (krS (As := [.int k, .int 0, .int 6]) (rest := []) (c_X8_in l D Y k 0 6) ⟨hx, hb, hml, hown, hta⟩ (cwX8_32 hta ⟨Nat.le_of_ble_eq_true rfl, Nat.le_of_ble_eq_true rfl⟩) kX0b (fun _ _ _ => trivial) hK hNs hP hD (kJ_nil) rfl hl.1 rfl (Nat.le_of_ble_eq_true rfl) dX8_set_4 ⟨Nat.le_of_ble_eq_true rfl, Nat.le_of_ble_eq_true rfl⟩) hP hD hS hA (kJ_nil) (fun _ => rfl) (fun r1 u H locs hw hP hD hS => ?_)
  subst hw
  have hP : va_P D vwCl (wR Y b R) H := hP
  have hD : va_D A (wR Y b R) := hD
  by_cases c2 : pIn k 0 6
  · refine kTop (kb_t c2) ?_
    refine lv_if_eq (tgt := 18) hx hb dX8_set_7 (by decide) (fun h => False.elim (by revert h; decide)) (fun _ => ?_)
    refine lv_iload_n hx hb dX8_set_10 rfl (lv_at hl 1 rfl) ?_
    refine lv_iload_n hx hb dX8_set_11 rfl (lv_at hl 2 rfl) ?_
    refine kc_i (krS (As := [.int k, .int v]) (rest := []) (c_X8_isFor l D Y k v) ⟨hx, hb, hml, hown, hta⟩ (cwX8_96 hta ⟨Nat.le_of_ble_eq_true rfl, Nat.le_of_ble_eq_true rfl⟩) kX0b (fun _ _ _ => trivial) hK hNs hP hD (kJ_nil) rfl hl.1 rfl (Nat.le_of_ble_eq_true rfl) dX8_set_12 ⟨Nat.le_of_ble_eq_true rfl, Nat.le_of_ble_eq_true rfl⟩) hP hD hS hA (kJ_nil) (fun _ => rfl) (fun r3 u H locs hw hP hD hS => ?_)
    subst hw
    have hP : va_P D vwCl (wR Y b R) H := hP
    have hD : va_D A (wR Y b R) := hD
    by_cases c4 : pIn v (sLo k) (sHi k)
    · refine kTop (kb_t c4) ?_
      refine lv_if_ne (tgt := 21) hx hb dX8_set_15 (by decide) (fun _ => ?_) (fun h => False.elim (by revert h; decide))
      obtain ⟨j, rfl, hj0, hj1⟩ := pIn_nat c2 (show (0 : Int32) = nI 0 from rfl) (show (6 : Int32) = nI 6 from rfl) (by omega) (by omega)
      refine lv_aload_n hx hb dX8_set_21 rfl (lv_at hl 0 rfl) ?_
      refine kc_v (krV (As := []) (rest := []) (c_X8_records l D Y b R hk) ⟨hx, hb, hml, hown, hta⟩ (cwX8_44 hta ⟨Nat.le_of_ble_eq_true rfl, Nat.le_of_ble_eq_true rfl⟩) kX0b (fun _ _ _ => trivial) hK hNs hP hD (kJ_all) (q0 := 0) rfl rfl rfl rfl hl.1 rfl (Nat.le_of_ble_eq_true rfl) dX8_set_22 ⟨Nat.le_of_ble_eq_true rfl, Nat.le_of_ble_eq_true rfl⟩) hP hD hS hA (kJ_all) (fun _ => rfl) (fun N1 H locs hw hP hD hS => ?_)
      have hN1 := hw
      have hP : va_P D vwCl (wR Y b N1) H := hP
      have hD : va_D A (wR Y b N1) := hD
      refine lv_aload_n hx hb dX8_set_25 rfl (lv_at hl 0 rfl) ?_
      refine lv_iconst (v := 3) hx hb dX8_set_26 (by decide) ?_
      refine lv_iload_n hx hb dX8_set_27 rfl (lv_at hl 1 rfl) ?_
      refine lv_iadd hx hb dX8_set_28 ?_
      refine kTop (nI_add 3 j) ?_
      refine lv_iload_n hx hb dX8_set_29 rfl (lv_at hl 2 rfl) ?_
      refine kc_i (krV (As := [.int (nI (3 + j)), .int v]) (rest := []) (c_X8_changes l D Y b N1 (3 + j) v (by omega)) ⟨hx, hb, hml, hown, hta⟩ (cwX8_100 hta ⟨Nat.le_of_ble_eq_true rfl, Nat.le_of_ble_eq_true rfl⟩) kX0b (fun _ _ _ => trivial) hK hNs hP hD (kJ_all) (q0 := 0) rfl rfl rfl rfl hl.1 rfl (Nat.le_of_ble_eq_true rfl) dX8_set_30 ⟨Nat.le_of_ble_eq_true rfl, Nat.le_of_ble_eq_true rfl⟩) hP hD hS hA (kJ_all) (fun _ => rfl) (fun r6 N2 H locs hw hP hD hS => ?_)
      obtain ⟨rfl, hN2⟩ := hw
      have hP : va_P D vwCl (wR Y b N2) H := hP
      have hD : va_D A (wR Y b N2) := hD
      exact kiret (N2) hQ hx hb hr hlocks hP hS dX8_set_33 (by subst hN2; subst hN1; unfold mSet; rw [if_pos c2, if_pos c4, nI_clamp (by omega)]; exact ⟨rfl, rfl⟩)
    · refine kTop (kb_f c4) ?_
      refine lv_if_ne (tgt := 21) hx hb dX8_set_15 (by decide) (fun h => False.elim (by revert h; decide)) (fun _ => ?_)
      refine lv_bipush (v := (-2)) hx hb dX8_set_18 (by decide) ?_
      exact kiret (R) hQ hx hb hr hlocks hP hS dX8_set_20 (by unfold mSet; rw [if_pos c2, if_neg c4]; exact ⟨rfl, rfl⟩)
  · refine kTop (kb_f c2) ?_
    refine lv_if_eq (tgt := 18) hx hb dX8_set_7 (by decide) (fun _ => ?_) (fun h => False.elim (by revert h; decide))
    refine lv_bipush (v := (-2)) hx hb dX8_set_18 (by decide) ?_
    exact kiret (R) hQ hx hb hr hlocks hP hS dX8_set_20 (by unfold mSet; rw [if_neg c2]; exact ⟨rfl, rfl⟩)
