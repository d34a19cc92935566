set_option maxHeartbeats 4000000 in
set_option maxRecDepth 100000 in
theorem c_X8_load (l : Launch) (D : va_G) (Y : Nat → ClassId) (b : Nat → Nat) (R : kN) (q w : Int32) (hZ : mX (R 0)) : kM l yX8_load wX8_load rX8_load D Y (wR Y b R) [.ref (b 0), .int q, .int w] kX0 (kQi D (fun r (_ : Unit) => r = mLoad (R 0) q w) (fun _ => wR Y b R)) := by
  refine kentry (cc := cX8_load) (maxL := 3) (ret := (some .int)) (by decide +kernel) rfl (Nat.le_of_ble_eq_true rfl) ?_
  intro p e s0 m args below meth c A Q ls hQ hx hb hr hlocks hml hown hin hta hA hX0 hK hNs hP hD hS hl
  have hown : s0.vm.findClass RX8 = some m.cls := hown
  have hl : lv_has ls 3 [(0, .ref (b 0)), (1, .int q), (2, .int w)] := hl
  have h400 := hZ.y400
  refine lv_iload_n hx hb dX8_load_0 rfl (lv_at hl 1 rfl) ?_
  refine lv_iconst (v := 0) hx hb dX8_load_1 (by decide) ?_
  refine lv_aload_n hx hb dX8_load_2 rfl (lv_at hl 0 rfl) ?_
  refine gfX8_7 (v := .ref (b 1)) hx hb hta hown hK hP 0 rfl rfl dX8_load_3 ?_
  refine lv_sipush (v := 296) hx hb dX8_load_6 (by decide) ?_
  refine kiald (f := R 0) hx hb hK hP 1 rfl 296 rfl (by omega) (by omega) dX8_load_9 ?_
  refine kTop hZ.y ?_
  refine lv_iconst (v := 1) hx hb dX8_load_10 (by decide) ?_
  refine lv_isub hx hb dX8_load_11 ?_
  refine kc_i (krS (As := [.int q, .int 0, .int ((nI (mY (R 0))) - 1)]) (rest := []) (c_X8_in l D Y q 0 ((nI (mY (R 0))) - 1)) ⟨hx, hb, hml, hown, hta⟩ (cwX8_32 hta ⟨Nat.le_of_ble_eq_true rfl, Nat.le_of_ble_eq_true rfl⟩) kX0b (fun _ _ _ => trivial) hK hNs hP hD (kJ_nil) rfl hl.1 rfl (Nat.le_of_ble_eq_true rfl) dX8_load_12 ⟨Nat.le_of_ble_eq_true rfl, Nat.le_of_ble_eq_true rfl⟩) hP hD hS hA (kJ_nil) (fun _ => rfl) (fun r1 u H locs hw hP hD hS => ?_)
  subst hw
  have hP : va_P D vwCl (wR Y b R) H := hP
  have hD : va_D A (wR Y b R) := hD
  by_cases c2 : pIn q 0 ((nI (mY (R 0))) - 1)
  · refine kTop (kb_t c2) ?_
    refine lv_if_ne (tgt := 20) hx hb dX8_load_15 (by decide) (fun _ => ?_) (fun h => False.elim (by revert h; decide))
    obtain ⟨k, rfl, hk⟩ := pIn_lt (by omega) c2
    refine lv_iload_n hx hb dX8_load_20 rfl (lv_at hl 2 rfl) ?_
    refine lv_iconst (v := 0) hx hb dX8_load_21 (by decide) ?_
    refine lv_iconst (v := 2) hx hb dX8_load_22 (by decide) ?_
    refine kc_i (krS (As := [.int w, .int 0, .int 2]) (rest := []) (c_X8_in l D Y w 0 2) ⟨hx, hb, hml, hown, hta⟩ (cwX8_32 hta ⟨Nat.le_of_ble_eq_true rfl, Nat.le_of_ble_eq_true rfl⟩) kX0b (fun _ _ _ => trivial) hK hNs hP hD (kJ_nil) rfl hl.1 rfl (Nat.le_of_ble_eq_true rfl) dX8_load_23 ⟨Nat.le_of_ble_eq_true rfl, Nat.le_of_ble_eq_true rfl⟩) hP hD hS hA (kJ_nil) (fun _ => rfl) (fun r3 u H locs hw hP hD hS => ?_)
    subst hw
    have hP : va_P D vwCl (wR Y b R) H := hP
    have hD : va_D A (wR Y b R) := hD
    by_cases c4 : pIn w 0 2
    · refine kTop (kb_t c4) ?_
      refine lv_if_eq (tgt := 46) hx hb dX8_load_26 (by decide) (fun h => False.elim (by revert h; decide)) (fun _ => ?_)
      obtain ⟨wn, rfl, hwnl, hwnh⟩ := pIn_nat c4 (show (0 : Int32) = nI 0 from rfl) (show (2 : Int32) = nI 2 from rfl) (by omega) (by omega)
      refine lv_aload_n hx hb dX8_load_29 rfl (lv_at hl 0 rfl) ?_
      refine gfX8_7 (v := .ref (b 1)) hx hb hta hown hK hP 0 rfl rfl dX8_load_30 ?_
      refine lv_sipush (v := 297) hx hb dX8_load_33 (by decide) ?_
      refine lv_iconst (v := 3) hx hb dX8_load_36 (by decide) ?_
      refine lv_iload_n hx hb dX8_load_37 rfl (lv_at hl 1 rfl) ?_
      refine lv_imul hx hb dX8_load_38 ?_
      refine kTop (pk_mul 3 k) ?_
      refine lv_iadd hx hb dX8_load_39 ?_
      refine kTop (nI_add 297 (3 * k)) ?_
      refine lv_iload_n hx hb dX8_load_40 rfl (lv_at hl 2 rfl) ?_
      refine lv_iadd hx hb dX8_load_41 ?_
      refine kTop (nI_add (297 + 3 * k) wn) ?_
      refine kiald (f := R 0) hx hb hK hP 1 rfl (297 + 3 * k + wn) rfl (by omega) (by omega) dX8_load_42 ?_
      refine lv_goto (tgt := 48) hx hb dX8_load_43 (by decide) ?_
      exact kiret (()) hQ hx hb hr hlocks hP hS dX8_load_48 (by unfold mLoad; rw [hZ.y, nI_clamp (n := k) (by omega), nI_clamp (n := wn) (by omega), if_pos c2, if_pos c4])
    · refine kTop (kb_f c4) ?_
      refine lv_if_eq (tgt := 46) hx hb dX8_load_26 (by decide) (fun _ => ?_) (fun h => False.elim (by revert h; decide))
      refine lv_bipush (v := (-2)) hx hb dX8_load_46 (by decide) ?_
      exact kiret (()) hQ hx hb hr hlocks hP hS dX8_load_48 (by unfold mLoad; rw [hZ.y, if_pos c2, if_neg c4])
  · refine kTop (kb_f c2) ?_
    refine lv_if_ne (tgt := 20) hx hb dX8_load_15 (by decide) (fun h => False.elim (by revert h; decide)) (fun _ => ?_)
    refine lv_iconst (v := (-1)) hx hb dX8_load_18 (by decide) ?_
    exact kiret (()) hQ hx hb hr hlocks hP hS dX8_load_19 (by unfold mLoad; rw [hZ.y, if_neg c2])
