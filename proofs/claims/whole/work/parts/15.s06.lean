set_option maxHeartbeats 4000000 in
set_option maxRecDepth 100000 in
theorem c_X8_purity (l : Launch) (D : va_G) (Y : Nat → ClassId) (x : Nat) (s : kS) (f : Nat) (hf : f < 30) : kM l yX8_purity wX8_purity rX8_purity D Y ([(x, .inl (Y 0, 1497, .inl s))]) [.ref x, .int (nI f)] kX0 (kQi D (fun r (_ : Unit) => r = mPur s f) (fun _ => [(x, .inl (Y 0, 1497, .inl s))])) := by
  refine kentry (cc := cX8_purity) (maxL := 4) (ret := (some .int)) (by decide +kernel) rfl (Nat.le_of_ble_eq_true rfl) ?_
  intro p e s0 m args below meth c A Q ls hQ hx hb hr hlocks hml hown hin hta hA hX0 hK hNs hP hD hS hl
  have hown : s0.vm.findClass RX8 = some m.cls := hown
  have hl : lv_has ls 4 [(0, .ref x), (1, .int (nI f))] := hl
  refine lv_aload_n hx hb dX8_purity_0 rfl (lv_at hl 0 rfl) ?_
  refine lv_iconst (v := 0) hx hb dX8_purity_1 (by decide) ?_
  refine kiald (f := s) hx hb hK hP 0 rfl 0 rfl (by omega) (by omega) dX8_purity_2 ?_
  refine lv_aload_n hx hb dX8_purity_3 rfl (lv_at hl 0 rfl) ?_
  refine lv_iload_n hx hb dX8_purity_4 rfl (lv_at hl 1 rfl) ?_
  refine lv_iconst (v := 3) hx hb dX8_purity_5 (by decide) ?_
  refine kc_i (krS (As := [.ref x, .int (nI f), .int 3]) (rest := [.int (s 0)]) (c_X8_of l D Y (x) s f 3 (hf) (by decide)) ⟨hx, hb, hml, hown, hta⟩ (cwX8_47 hta ⟨Nat.le_of_ble_eq_true rfl, Nat.le_of_ble_eq_true rfl⟩) kX0b (fun _ _ _ => trivial) hK hNs hP hD (kJ_all) rfl hl.1 rfl (Nat.le_of_ble_eq_true rfl) dX8_purity_6 ⟨Nat.le_of_ble_eq_true rfl, Nat.le_of_ble_eq_true rfl⟩) hP hD hS hA (kJ_all) (fun _ => rfl) (fun r1 u H locs hw hP hD hS => ?_)
  subst hw
  have hP : va_P D vwCl ([(x, .inl (Y 0, 1497, .inl s))]) H := hP
  have hD : va_D A ([(x, .inl (Y 0, 1497, .inl s))]) := hD
  refine lv_isub hx hb dX8_purity_9 ?_
  refine lv_istore_n (lv' := [(2, .int ((s 0) - (s (56 + 8 * f + 3)))), (0, .ref x), (1, .int (nI f))]) hx hb dX8_purity_10 rfl hl (by decide) rfl (fun ls hl => ?_)
  refine lv_aload_n hx hb dX8_purity_11 rfl (lv_at hl 1 rfl) ?_
  refine lv_iload_n hx hb dX8_purity_12 rfl (lv_at hl 2 rfl) ?_
  refine lv_iconst (v := 2) hx hb dX8_purity_13 (by decide) ?_
  refine kc_i (krS (As := [.ref x, .int (nI f), .int 2]) (rest := []) (c_X8_of l D Y (x) s f 2 (hf) (by decide)) ⟨hx, hb, hml, hown, hta⟩ (cwX8_47 hta ⟨Nat.le_of_ble_eq_true rfl, Nat.le_of_ble_eq_true rfl⟩) kX0b (fun _ _ _ => trivial) hK hNs hP hD (kJ_all) rfl hl.1 rfl (Nat.le_of_ble_eq_true rfl) dX8_purity_14 ⟨Nat.le_of_ble_eq_true rfl, Nat.le_of_ble_eq_true rfl⟩) hP hD hS hA (kJ_all) (fun _ => rfl) (fun r2 u H locs hw hP hD hS => ?_)
  subst hw
  have hP : va_P D vwCl ([(x, .inl (Y 0, 1497, .inl s))]) H := hP
  have hD : va_D A ([(x, .inl (Y 0, 1497, .inl s))]) := hD
  refine lv_iload_n hx hb dX8_purity_17 rfl (lv_at hl 0 rfl) ?_
  refine lv_if_le (tgt := 30) hx hb dX8_purity_18 (by decide) (fun c3 => ?_) (fun c3 => ?_)
  · refine lv_iconst (v := 0) hx hb dX8_purity_30 (by decide) ?_
    refine lv_isub hx hb dX8_purity_31 ?_
    refine lv_istore_n (lv' := [(3, .int ((s (56 + 8 * f + 2)) - 0)), (2, .int ((s 0) - (s (56 + 8 * f + 3)))), (0, .ref x), (1, .int (nI f))]) hx hb dX8_purity_32 rfl hl (by decide) rfl (fun ls hl => ?_)
    refine lv_iload_n hx hb dX8_purity_33 rfl (lv_at hl 0 rfl) ?_
    refine lv_if_le (tgt := 41) hx hb dX8_purity_34 (by decide) (fun c4 => ?_) (fun c4 => ?_)
    · refine lv_iconst (v := 0) hx hb dX8_purity_41 (by decide) ?_
      exact kiret (()) hQ hx hb hr hlocks hP hS dX8_purity_42 (by unfold mPur; rw [if_pos c3, if_pos c4])
    · refine lv_iload_n hx hb dX8_purity_37 rfl (lv_at hl 0 rfl) ?_
      refine lv_goto (tgt := 42) hx hb dX8_purity_38 (by decide) ?_
      exact kiret (()) hQ hx hb hr hlocks hP hS dX8_purity_42 (by unfold mPur; rw [if_pos c3, if_neg c4])
  · refine lv_aload_n hx hb dX8_purity_21 rfl (lv_at hl 1 rfl) ?_
    refine lv_bipush (v := 7) hx hb dX8_purity_22 (by decide) ?_
    refine kiald (f := s) hx hb hK hP 0 rfl 7 rfl (by omega) (by omega) dX8_purity_24 ?_
    refine lv_iload_n hx hb dX8_purity_25 rfl (lv_at hl 0 rfl) ?_
    refine lv_imul hx hb dX8_purity_26 ?_
    refine lv_goto (tgt := 31) hx hb dX8_purity_27 (by decide) ?_
    refine lv_isub hx hb dX8_purity_31 ?_
    refine lv_istore_n (lv' := [(3, .int ((s (56 + 8 * f + 2)) - ((s 7) * ((s 0) - (s (56 + 8 * f + 3)))))), (2, .int ((s 0) - (s (56 + 8 * f + 3)))), (0, .ref x), (1, .int (nI f))]) hx hb dX8_purity_32 rfl hl (by decide) rfl (fun ls hl => ?_)
    refine lv_iload_n hx hb dX8_purity_33 rfl (lv_at hl 0 rfl) ?_
    refine lv_if_le (tgt := 41) hx hb dX8_purity_34 (by decide) (fun c5 => ?_) (fun c5 => ?_)
    · refine lv_iconst (v := 0) hx hb dX8_purity_41 (by decide) ?_
      exact kiret (()) hQ hx hb hr hlocks hP hS dX8_purity_42 (by unfold mPur; rw [if_neg c3, if_pos c5])
    · refine lv_iload_n hx hb dX8_purity_37 rfl (lv_at hl 0 rfl) ?_
      refine lv_goto (tgt := 42) hx hb dX8_purity_38 (by decide) ?_
      exact kiret (()) hQ hx hb hr hlocks hP hS dX8_purity_42 (by unfold mPur; rw [if_neg c3, if_neg c5])
