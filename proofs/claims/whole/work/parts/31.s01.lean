set_option maxHeartbeats 4000000 in
set_option maxRecDepth 100000 in
theorem c_X8_fault (l : Launch) (D : va_G) (Y : Nat → ClassId) (b : Nat → Nat) (R : kN) (hn : R 7 1 = nI (pn R)) (h80 : pn R ≤ 80) : kM l yX8_fault wX8_fault rX8_fault D Y (wR Y b R) [.ref (b 0)] kX0 (kQi D (fun r (_ : Unit) => r = mFault R) (fun _ => wR Y b (pWr R (mText R).2.1 (mText R).2.2.1 (mText R).2.2.2))) := by
  refine kentry (cc := cX8_fault) (maxL := 1) (ret := (some .int)) (by decide +kernel) rfl (Nat.le_of_ble_eq_true rfl) ?_
  intro p e s0 m args below meth c A Q ls hQ hx hb hr hlocks hml hown hin hta hA hX0 hK hNs hP hD hS hl
  have hown : s0.vm.findClass RX8 = some m.cls := hown
  have hl : lv_has ls 1 [(0, .ref (b 0))] := hl
  refine lv_aload_n hx hb dX8_fault_0 rfl (lv_at hl 0 rfl) ?_
  refine kc_i (krV (As := []) (rest := []) (c_X8_isText l D Y b R hn h80) ⟨hx, hb, hml, hown, hta⟩ (cwX8_185 hta ⟨Nat.le_of_ble_eq_true rfl, Nat.le_of_ble_eq_true rfl⟩) kX0b (fun _ _ _ => trivial) hK hNs hP hD (kJ_all) (q0 := 0) rfl rfl rfl rfl hl.1 rfl (Nat.le_of_ble_eq_true rfl) dX8_fault_1 ⟨Nat.le_of_ble_eq_true rfl, Nat.le_of_ble_eq_true rfl⟩) hP hD hS hA (kJ_all) (fun _ => rfl) (fun r1 u H locs hw hP hD hS => ?_)
  obtain ⟨rfl, rfl⟩ := hw
  have hP : va_P D vwCl (wR Y b (pWr R ((mText R).2.1) ((mText R).2.2.1) ((mText R).2.2.2))) H := hP
  have hD : va_D A (wR Y b (pWr R ((mText R).2.1) ((mText R).2.2.1) ((mText R).2.2.2))) := hD
  by_cases c2 : (mText R).1 = true
  · refine kTop (kb_t c2) ?_
    refine lv_if_eq (tgt := 12) hx hb dX8_fault_4 (by decide) (fun h => False.elim (by revert h; decide)) (fun _ => ?_)
    refine lv_bipush (v := (-6)) hx hb dX8_fault_7 (by decide) ?_
    refine lv_goto (tgt := 16) hx hb dX8_fault_9 (by decide) ?_
    exact kiret (()) hQ hx hb hr hlocks hP hS dX8_fault_16 (by unfold mFault; rw [if_pos c2])
  · refine kTop (kb_f c2) ?_
    refine lv_if_eq (tgt := 12) hx hb dX8_fault_4 (by decide) (fun _ => ?_) (fun h => False.elim (by revert h; decide))
    refine lv_aload_n hx hb dX8_fault_12 rfl (lv_at hl 0 rfl) ?_
    refine gfX8_163 (v := .int (nI ((mText R).2.1))) hx hb hta hown hK hP 0 rfl rfl dX8_fault_13 ?_
    exact kiret (()) hQ hx hb hr hlocks hP hS dX8_fault_16 (by unfold mFault; rw [if_neg c2])
