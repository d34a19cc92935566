set_option maxHeartbeats 4000000 in
set_option maxRecDepth 100000 in
theorem c_X8_isAhead (l : Launch) (D : va_G) (Y : Nat → ClassId) (x : Nat) (s : kS) (f b : Nat) (hf : f < 30) (hb0 : b < 30) (hgf : s (56 + 8 * f + 0) = nI (mg s f) ∧ mg s f < 6) (hgb : s (56 + 8 * b + 0) = nI (mg s b) ∧ mg s b < 6) : kM l yX8_isAhead wX8_isAhead rX8_isAhead D Y ([(x, .inl (Y 0, 1497, .inl s))]) [.ref x, .int (nI f), .int (nI b)] kX0 (kQi D (fun r (_ : Unit) => r = kb (mAheadP s f b)) (fun _ => [(x, .inl (Y 0, 1497, .inl s))])) := by
  refine kentry (cc := cX8_isAhead) (maxL := 4) (ret := (some .boolean)) (by decide +kernel) rfl (Nat.le_of_ble_eq_true rfl) ?_
  intro p e s0 m args below meth c A Q ls hQ hx hb hr hlocks hml hown hin hta hA hX0 hK hNs hP hD hS hl
  have hown : s0.vm.findClass RX8 = some m.cls := hown
  have hl : lv_has ls 4 [(0, .ref x), (1, .int (nI f)), (2, .int (nI b))] := hl
  refine lv_aload_n hx hb dX8_isAhead_0 rfl (lv_at hl 0 rfl) ?_
  refine lv_iload_n hx hb dX8_isAhead_1 rfl (lv_at hl 1 rfl) ?_
  refine lv_iconst (v := 3) hx hb dX8_isAhead_2 (by decide) ?_
  refine kc_i (krS (As := [.ref x, .int (nI f), .int 3]) (rest := []) (c_X8_of l D Y (x) s f 3 (by omega) (by decide)) ⟨hx, hb, hml, hown, hta⟩ (cwX8_47 hta ⟨Nat.le_of_ble_eq_true rfl, Nat.le_of_ble_eq_true rfl⟩) kX0b (fun _ _ _ => trivial) hK hNs hP hD (kJ_all) rfl hl.1 rfl (Nat.le_of_ble_eq_true rfl) dX8_isAhead_3 ⟨Nat.le_of_ble_eq_true rfl, Nat.le_of_ble_eq_true rfl⟩) hP hD hS hA (kJ_all) (fun _ => rfl) (fun r1 u H locs hw hP hD hS => ?_)
  subst hw
  have hP : va_P D vwCl ([(x, .inl (Y 0, 1497, .inl s))]) H := hP
  have hD : va_D A ([(x, .inl (Y 0, 1497, .inl s))]) := hD
  refine lv_aload_n hx hb dX8_isAhead_6 rfl (lv_at hl 0 rfl) ?_
  refine lv_iload_n hx hb dX8_isAhead_7 rfl (lv_at hl 2 rfl) ?_
  refine lv_iconst (v := 3) hx hb dX8_isAhead_8 (by decide) ?_
  refine kc_i (krS (As := [.ref x, .int (nI b), .int 3]) (rest := [.int (s (56 + 8 * f + 3))]) (c_X8_of l D Y (x) s b 3 (by omega) (by decide)) ⟨hx, hb, hml, hown, hta⟩ (cwX8_47 hta ⟨Nat.le_of_ble_eq_true rfl, Nat.le_of_ble_eq_true rfl⟩) kX0b (fun _ _ _ => trivial) hK hNs hP hD (kJ_all) rfl hl.1 rfl (Nat.le_of_ble_eq_true rfl) dX8_isAhead_9 ⟨Nat.le_of_ble_eq_true rfl, Nat.le_of_ble_eq_true rfl⟩) hP hD hS hA (kJ_all) (fun _ => rfl) (fun r2 u H locs hw hP hD hS => ?_)
  subst hw
  have hP : va_P D vwCl ([(x, .inl (Y 0, 1497, .inl s))]) H := hP
  have hD : va_D A ([(x, .inl (Y 0, 1497, .inl s))]) := hD
  refine lv_isub hx hb dX8_isAhead_12 ?_
  refine lv_istore_n (lv' := [(3, .int ((s (56 + 8 * f + 3)) - (s (56 + 8 * b + 3)))), (0, .ref x), (1, .int (nI f)), (2, .int (nI b))]) hx hb dX8_isAhead_13 rfl hl (by decide) rfl (fun ls hl => ?_)
  refine lv_iload_n hx hb dX8_isAhead_14 rfl (lv_at hl 0 rfl) ?_
  refine lv_if_lt (tgt := 47) hx hb dX8_isAhead_15 (by decide) (fun c3 => ?_) (fun c3 => ?_)
  · refine lv_iconst (v := 1) hx hb dX8_isAhead_47 (by decide) ?_
    refine lv_goto (tgt := 52) hx hb dX8_isAhead_48 (by decide) ?_
    exact kzret (()) hQ hx hb hr hlocks hP hS dX8_isAhead_52 (by first | exact Or.inl rfl | exact Or.inr rfl | exact kb_01 _) (by simp [kb, mAheadP, c3])
  · refine lv_iload_n hx hb dX8_isAhead_18 rfl (lv_at hl 0 rfl) ?_
    refine lv_if_ne (tgt := 51) hx hb dX8_isAhead_19 (by decide) (fun c4 => ?_) (fun c4 => ?_)
    · refine lv_iconst (v := 0) hx hb dX8_isAhead_51 (by decide) ?_
      exact kzret (()) hQ hx hb hr hlocks hP hS dX8_isAhead_52 (by first | exact Or.inl rfl | exact Or.inr rfl | exact kb_01 _) (by simp [kb, mAheadP, c3, c4])
    · refine lv_aload_n hx hb dX8_isAhead_22 rfl (lv_at hl 1 rfl) ?_
      refine lv_bipush (v := 10) hx hb dX8_isAhead_23 (by decide) ?_
      refine lv_aload_n hx hb dX8_isAhead_25 rfl (lv_at hl 1 rfl) ?_
      refine lv_iload_n hx hb dX8_isAhead_26 rfl (lv_at hl 2 rfl) ?_
      refine lv_iconst (v := 0) hx hb dX8_isAhead_27 (by decide) ?_
      refine kc_i (krS (As := [.ref x, .int (nI f), .int 0]) (rest := [.int 10, .ref x]) (c_X8_of l D Y (x) s f 0 (by omega) (by decide)) ⟨hx, hb, hml, hown, hta⟩ (cwX8_47 hta ⟨Nat.le_of_ble_eq_true rfl, Nat.le_of_ble_eq_true rfl⟩) kX0b (fun _ _ _ => trivial) hK hNs hP hD (kJ_all) rfl hl.1 rfl (Nat.le_of_ble_eq_true rfl) dX8_isAhead_28 ⟨Nat.le_of_ble_eq_true rfl, Nat.le_of_ble_eq_true rfl⟩) hP hD hS hA (kJ_all) (fun _ => rfl) (fun r5 u H locs hw hP hD hS => ?_)
      subst hw
      have hP : va_P D vwCl ([(x, .inl (Y 0, 1497, .inl s))]) H := hP
      have hD : va_D A ([(x, .inl (Y 0, 1497, .inl s))]) := hD
      refine kTop hgf.1 ?_
      refine lv_iadd hx hb dX8_isAhead_31 ?_
      refine kTop (nI_add 10 (mg s f)) ?_
      refine kiald (f := s) hx hb hK hP 0 rfl (10 + mg s f) rfl (by omega) (by omega) dX8_isAhead_32 ?_
      refine lv_aload_n hx hb dX8_isAhead_33 rfl (lv_at hl 1 rfl) ?_
      refine lv_bipush (v := 10) hx hb dX8_isAhead_34 (by decide) ?_
      refine lv_aload_n hx hb dX8_isAhead_36 rfl (lv_at hl 1 rfl) ?_
      refine lv_iload_n hx hb dX8_isAhead_37 rfl (lv_at hl 3 rfl) ?_
      refine lv_iconst (v := 0) hx hb dX8_isAhead_38 (by decide) ?_
      refine kc_i (krS (As := [.ref x, .int (nI b), .int 0]) (rest := [.int 10, .ref x, .int (s (10 + mg s f))]) (c_X8_of l D Y (x) s b 0 (by omega) (by decide)) ⟨hx, hb, hml, hown, hta⟩ (cwX8_47 hta ⟨Nat.le_of_ble_eq_true rfl, Nat.le_of_ble_eq_true rfl⟩) kX0b (fun _ _ _ => trivial) hK hNs hP hD (kJ_all) rfl hl.1 rfl (Nat.le_of_ble_eq_true rfl) dX8_isAhead_39 ⟨Nat.le_of_ble_eq_true rfl, Nat.le_of_ble_eq_true rfl⟩) hP hD hS hA (kJ_all) (fun _ => rfl) (fun r6 u H locs hw hP hD hS => ?_)
      subst hw
      have hP : va_P D vwCl ([(x, .inl (Y 0, 1497, .inl s))]) H := hP
      have hD : va_D A ([(x, .inl (Y 0, 1497, .inl s))]) := hD
      refine kTop hgb.1 ?_
      refine lv_iadd hx hb dX8_isAhead_42 ?_
      refine kTop (nI_add 10 (mg s b)) ?_
      refine kiald (f := s) hx hb hK hP 0 rfl (10 + mg s b) rfl (by omega) (by omega) dX8_isAhead_43 ?_
      refine lv_icmp_le (tgt := 51) hx hb dX8_isAhead_44 (by decide) (fun c7 => ?_) (fun c7 => ?_)
      · refine lv_iconst (v := 0) hx hb dX8_isAhead_51 (by decide) ?_
        exact kzret (()) hQ hx hb hr hlocks hP hS dX8_isAhead_52 (by first | exact Or.inl rfl | exact Or.inr rfl | exact kb_01 _) (by simp [kb, mAheadP, c3, c4, c7])
      · refine lv_iconst (v := 1) hx hb dX8_isAhead_47 (by decide) ?_
        refine lv_goto (tgt := 52) hx hb dX8_isAhead_48 (by decide) ?_
        exact kzret (()) hQ hx hb hr hlocks hP hS dX8_isAhead_52 (by first | exact Or.inl rfl | exact Or.inr rfl | exact kb_01 _) (by simp [kb, mAheadP, c3, c4, c7])
