set_option maxHeartbeats 4000000 in
set_option maxRecDepth 100000 in
theorem c_X8_mayPass (l : Launch) (D : va_G) (Y : Nat → ClassId) (b : Nat → Nat) (R : kN) (d : Int32) : kM l yX8_mayPass wX8_mayPass rX8_mayPass D Y (wR Y b R) [.ref (b 0), .int d] kX0 (kQi D (fun r (_ : Unit) => r = mMayPass (R 0) d) (fun _ => wR Y b R)) := by
  refine kentry (cc := cX8_mayPass) (maxL := 2) (ret := (some .int)) (by decide +kernel) rfl (Nat.le_of_ble_eq_true rfl) ?_
  intro p e s0 m args below meth c A Q ls hQ hx hb hr hlocks hml hown hin hta hA hX0 hK hNs hP hD hS hl
  have hown : s0.vm.findClass RX8 = some m.cls := hown
  have hl : lv_has ls 2 [(0, .ref (b 0)), (1, .int d)] := hl
  refine lv_iload_n hx hb dX8_mayPass_0 rfl (lv_at hl 1 rfl) ?_
  refine lv_iconst (v := 1) hx hb dX8_mayPass_1 (by decide) ?_
  refine lv_bipush (v := 99) hx hb dX8_mayPass_2 (by decide) ?_
  refine kc_i (krS (As := [.int d, .int 1, .int 99]) (rest := []) (c_X8_in l D Y d 1 99) ⟨hx, hb, hml, hown, hta⟩ (cwX8_32 hta ⟨Nat.le_of_ble_eq_true rfl, Nat.le_of_ble_eq_true rfl⟩) kX0b (fun _ _ _ => trivial) hK hNs hP hD (kJ_nil) rfl hl.1 rfl (Nat.le_of_ble_eq_true rfl) dX8_mayPass_4 ⟨Nat.le_of_ble_eq_true rfl, Nat.le_of_ble_eq_true rfl⟩) hP hD hS hA (kJ_nil) (fun _ => rfl) (fun r1 u H locs hw hP hD hS => ?_)
  subst hw
  have hP : va_P D vwCl (wR Y b R) H := hP
  have hD : va_D A (wR Y b R) := hD
  by_cases c2 : pIn d 1 99
  · refine kTop (kb_t c2) ?_
    refine lv_if_ne (tgt := 15) hx hb dX8_mayPass_7 (by decide) (fun _ => ?_) (fun h => False.elim (by revert h; decide))
    refine lv_aload_n hx hb dX8_mayPass_15 rfl (lv_at hl 0 rfl) ?_
    refine gfX8_7 (v := .ref (b 1)) hx hb hta hown hK hP 0 rfl rfl dX8_mayPass_16 ?_
    refine lv_iconst (v := 0) hx hb dX8_mayPass_19 (by decide) ?_
    refine kiald (f := R 0) hx hb hK hP 1 rfl 0 rfl (by omega) (by omega) dX8_mayPass_20 ?_
    refine lv_iload_n hx hb dX8_mayPass_21 rfl (lv_at hl 1 rfl) ?_
    refine lv_iadd hx hb dX8_mayPass_22 ?_
    refine lv_sipush (v := 1000) hx hb dX8_mayPass_23 (by decide) ?_
    refine lv_icmp_le (tgt := 34) hx hb dX8_mayPass_26 (by decide) (fun c3 => ?_) (fun c3 => ?_)
    · refine lv_iconst (v := 0) hx hb dX8_mayPass_34 (by decide) ?_
      exact kiret (()) hQ hx hb hr hlocks hP hS dX8_mayPass_35 (by unfold mMayPass; rw [if_pos c2, if_pos c3])
    · refine lv_bipush (v := (-5)) hx hb dX8_mayPass_29 (by decide) ?_
      refine lv_goto (tgt := 35) hx hb dX8_mayPass_31 (by decide) ?_
      exact kiret (()) hQ hx hb hr hlocks hP hS dX8_mayPass_35 (by unfold mMayPass; rw [if_pos c2, if_neg c3])
  · refine kTop (kb_f c2) ?_
    refine lv_if_ne (tgt := 15) hx hb dX8_mayPass_7 (by decide) (fun h => False.elim (by revert h; decide)) (fun _ => ?_)
    refine lv_bipush (v := (-2)) hx hb dX8_mayPass_10 (by decide) ?_
    refine lv_goto (tgt := 35) hx hb dX8_mayPass_12 (by decide) ?_
    exact kiret (()) hQ hx hb hr hlocks hP hS dX8_mayPass_35 (by unfold mMayPass; rw [if_neg c2])
