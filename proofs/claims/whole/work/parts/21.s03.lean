set_option maxHeartbeats 4000000 in
set_option maxRecDepth 100000 in
theorem c_X8_mayStop (l : Launch) (D : va_G) (Y : Nat → ClassId) (b : Nat → Nat) (R : kN) (f t : Int32) (hZ : mX (R 0)) : kM l yX8_mayStop wX8_mayStop rX8_mayStop D Y (wR Y b R) [.ref (b 0), .int f, .int t] kX0 (kQi D (fun r (_ : Unit) => r = mMayStop (R 0) f t) (fun _ => wR Y b R)) := by
  refine kentry (cc := cX8_mayStop) (maxL := 3) (ret := (some .int)) (by decide +kernel) rfl (Nat.le_of_ble_eq_true rfl) ?_
  intro p e s0 m args below meth c A Q ls hQ hx hb hr hlocks hml hown hin hta hA hX0 hK hNs hP hD hS hl
  have hown : s0.vm.findClass RX8 = some m.cls := hown
  have hl : lv_has ls 3 [(0, .ref (b 0)), (1, .int f), (2, .int t)] := hl
  have hS5 := hZ.s5
  refine lv_iload_n hx hb dX8_mayStop_0 rfl (lv_at hl 1 rfl) ?_
  refine kc_i (krS (As := [.int f]) (rest := []) (c_X8_isDay l D Y f) ⟨hx, hb, hml, hown, hta⟩ (cwX8_124 hta ⟨Nat.le_of_ble_eq_true rfl, Nat.le_of_ble_eq_true rfl⟩) kX0b (fun _ _ _ => trivial) hK hNs hP hD (kJ_nil) rfl hl.1 rfl (Nat.le_of_ble_eq_true rfl) dX8_mayStop_1 ⟨Nat.le_of_ble_eq_true rfl, Nat.le_of_ble_eq_true rfl⟩) hP hD hS hA (kJ_nil) (fun _ => rfl) (fun r1 u H locs hw hP hD hS => ?_)
  subst hw
  have hP : va_P D vwCl (wR Y b R) H := hP
  have hD : va_D A (wR Y b R) := hD
  by_cases c2 : pIn f 0 999
  · refine kTop (kb_t c2) ?_
    refine lv_if_eq (tgt := 18) hx hb dX8_mayStop_4 (by decide) (fun h => False.elim (by revert h; decide)) (fun _ => ?_)
    refine lv_iload_n hx hb dX8_mayStop_7 rfl (lv_at hl 2 rfl) ?_
    refine lv_iload_n hx hb dX8_mayStop_8 rfl (lv_at hl 1 rfl) ?_
    refine lv_sipush (v := 999) hx hb dX8_mayStop_9 (by decide) ?_
    refine kc_i (krS (As := [.int t, .int f, .int 999]) (rest := []) (c_X8_in l D Y t f 999) ⟨hx, hb, hml, hown, hta⟩ (cwX8_32 hta ⟨Nat.le_of_ble_eq_true rfl, Nat.le_of_ble_eq_true rfl⟩) kX0b (fun _ _ _ => trivial) hK hNs hP hD (kJ_nil) rfl hl.1 rfl (Nat.le_of_ble_eq_true rfl) dX8_mayStop_12 ⟨Nat.le_of_ble_eq_true rfl, Nat.le_of_ble_eq_true rfl⟩) hP hD hS hA (kJ_nil) (fun _ => rfl) (fun r3 u H locs hw hP hD hS => ?_)
    subst hw
    have hP : va_P D vwCl (wR Y b R) H := hP
    have hD : va_D A (wR Y b R) := hD
    by_cases c4 : pIn t f 999
    · refine kTop (kb_t c4) ?_
      refine lv_if_ne (tgt := 23) hx hb dX8_mayStop_15 (by decide) (fun _ => ?_) (fun h => False.elim (by revert h; decide))
      refine lv_aload_n hx hb dX8_mayStop_23 rfl (lv_at hl 0 rfl) ?_
      refine gfX8_7 (v := .ref (b 1)) hx hb hta hown hK hP 0 rfl rfl dX8_mayStop_24 ?_
      refine lv_iconst (v := 2) hx hb dX8_mayStop_27 (by decide) ?_
      refine kiald (f := R 0) hx hb hK hP 1 rfl 2 rfl (by omega) (by omega) dX8_mayStop_28 ?_
      refine kTop hZ.s ?_
      refine lv_iconst (v := 5) hx hb dX8_mayStop_29 (by decide) ?_
      refine lv_icmp_ne (tgt := 38) hx hb dX8_mayStop_30 (by decide) (fun c5 => ?_) (fun c5 => ?_)
      · have c5n : ¬ (mS (R 0)) = 5 := fun h => c5 ((nI_eq (a := mS (R 0)) (b := 5) (by omega) (by omega)).mpr h)
        refine lv_iconst (v := 0) hx hb dX8_mayStop_38 (by decide) ?_
        exact kiret (()) hQ hx hb hr hlocks hP hS dX8_mayStop_39 (by unfold mMayStop; rw [if_pos c2, if_pos c4, if_neg c5n])
      · have c5n : (mS (R 0)) = 5 := (nI_eq (a := mS (R 0)) (b := 5) (by omega) (by omega)).mp c5
        refine lv_bipush (v := (-4)) hx hb dX8_mayStop_33 (by decide) ?_
        refine lv_goto (tgt := 39) hx hb dX8_mayStop_35 (by decide) ?_
        exact kiret (()) hQ hx hb hr hlocks hP hS dX8_mayStop_39 (by unfold mMayStop; rw [if_pos c2, if_pos c4, if_pos c5n])
    · refine kTop (kb_f c4) ?_
      refine lv_if_ne (tgt := 23) hx hb dX8_mayStop_15 (by decide) (fun h => False.elim (by revert h; decide)) (fun _ => ?_)
      refine lv_bipush (v := (-2)) hx hb dX8_mayStop_18 (by decide) ?_
      refine lv_goto (tgt := 39) hx hb dX8_mayStop_20 (by decide) ?_
      exact kiret (()) hQ hx hb hr hlocks hP hS dX8_mayStop_39 (by unfold mMayStop; rw [if_pos c2, if_neg c4])
  · refine kTop (kb_f c2) ?_
    refine lv_if_eq (tgt := 18) hx hb dX8_mayStop_4 (by decide) (fun _ => ?_) (fun h => False.elim (by revert h; decide))
    refine lv_bipush (v := (-2)) hx hb dX8_mayStop_18 (by decide) ?_
    refine lv_goto (tgt := 39) hx hb dX8_mayStop_20 (by decide) ?_
    exact kiret (()) hQ hx hb hr hlocks hP hS dX8_mayStop_39 (by unfold mMayStop; rw [if_neg c2])
