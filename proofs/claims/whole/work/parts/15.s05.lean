set_option maxHeartbeats 4000000 in
set_option maxRecDepth 100000 in
theorem c_X8_how (l : Launch) (D : va_G) (Y : Nat → ClassId) (x : Nat) (s : kS) (f : Nat) (hf : f < 30) : kM l yX8_how wX8_how rX8_how D Y ([(x, .inl (Y 0, 1497, .inl s))]) [.ref x, .int (nI f)] kX0 (kQi D (fun r (_ : Unit) => r = mHow s f) (fun _ => [(x, .inl (Y 0, 1497, .inl s))])) := by
  refine kentry (cc := cX8_how) (maxL := 2) (ret := (some .int)) (by decide +kernel) rfl (Nat.le_of_ble_eq_true rfl) ?_
  intro p e s0 m args below meth c A Q ls hQ hx hb hr hlocks hml hown hin hta hA hX0 hK hNs hP hD hS hl
  have hown : s0.vm.findClass RX8 = some m.cls := hown
  have hl : lv_has ls 2 [(0, .ref x), (1, .int (nI f))] := hl
  refine lv_aload_n hx hb dX8_how_0 rfl (lv_at hl 0 rfl) ?_
  refine lv_iconst (v := 0) hx hb dX8_how_1 (by decide) ?_
  refine kiald (f := s) hx hb hK hP 0 rfl 0 rfl (by omega) (by omega) dX8_how_2 ?_
  refine lv_aload_n hx hb dX8_how_3 rfl (lv_at hl 0 rfl) ?_
  refine lv_iload_n hx hb dX8_how_4 rfl (lv_at hl 1 rfl) ?_
  refine lv_iconst (v := 3) hx hb dX8_how_5 (by decide) ?_
  refine kc_i (krS (As := [.ref x, .int (nI f), .int 3]) (rest := [.int (s 0)]) (c_X8_of l D Y (x) s f 3 (hf) (by decide)) ⟨hx, hb, hml, hown, hta⟩ (cwX8_47 hta ⟨Nat.le_of_ble_eq_true rfl, Nat.le_of_ble_eq_true rfl⟩) kX0b (fun _ _ _ => trivial) hK hNs hP hD (kJ_all) rfl hl.1 rfl (Nat.le_of_ble_eq_true rfl) dX8_how_6 ⟨Nat.le_of_ble_eq_true rfl, Nat.le_of_ble_eq_true rfl⟩) hP hD hS hA (kJ_all) (fun _ => rfl) (fun r1 u H locs hw hP hD hS => ?_)
  subst hw
  have hP : va_P D vwCl ([(x, .inl (Y 0, 1497, .inl s))]) H := hP
  have hD : va_D A ([(x, .inl (Y 0, 1497, .inl s))]) := hD
  refine lv_icmp_ge (tgt := 14) hx hb dX8_how_9 (by decide) (fun c2 => ?_) (fun c2 => ?_)
  · refine lv_aload_n hx hb dX8_how_14 rfl (lv_at hl 0 rfl) ?_
    refine lv_iload_n hx hb dX8_how_15 rfl (lv_at hl 1 rfl) ?_
    refine lv_iconst (v := 4) hx hb dX8_how_16 (by decide) ?_
    refine kc_i (krS (As := [.ref x, .int (nI f), .int 4]) (rest := []) (c_X8_of l D Y (x) s f 4 (hf) (by decide)) ⟨hx, hb, hml, hown, hta⟩ (cwX8_47 hta ⟨Nat.le_of_ble_eq_true rfl, Nat.le_of_ble_eq_true rfl⟩) kX0b (fun _ _ _ => trivial) hK hNs hP hD (kJ_all) rfl hl.1 rfl (Nat.le_of_ble_eq_true rfl) dX8_how_17 ⟨Nat.le_of_ble_eq_true rfl, Nat.le_of_ble_eq_true rfl⟩) hP hD hS hA (kJ_all) (fun _ => rfl) (fun r3 u H locs hw hP hD hS => ?_)
    subst hw
    have hP : va_P D vwCl ([(x, .inl (Y 0, 1497, .inl s))]) H := hP
    have hD : va_D A ([(x, .inl (Y 0, 1497, .inl s))]) := hD
    refine lv_if_le (tgt := 27) hx hb dX8_how_20 (by decide) (fun c4 => ?_) (fun c4 => ?_)
    · refine lv_aload_n hx hb dX8_how_27 rfl (lv_at hl 0 rfl) ?_
      refine lv_iload_n hx hb dX8_how_28 rfl (lv_at hl 1 rfl) ?_
      refine lv_bipush (v := 7) hx hb dX8_how_29 (by decide) ?_
      refine kc_i (krS (As := [.ref x, .int (nI f), .int 7]) (rest := []) (c_X8_of l D Y (x) s f 7 (hf) (by decide)) ⟨hx, hb, hml, hown, hta⟩ (cwX8_47 hta ⟨Nat.le_of_ble_eq_true rfl, Nat.le_of_ble_eq_true rfl⟩) kX0b (fun _ _ _ => trivial) hK hNs hP hD (kJ_all) rfl hl.1 rfl (Nat.le_of_ble_eq_true rfl) dX8_how_31 ⟨Nat.le_of_ble_eq_true rfl, Nat.le_of_ble_eq_true rfl⟩) hP hD hS hA (kJ_all) (fun _ => rfl) (fun r5 u H locs hw hP hD hS => ?_)
      subst hw
      have hP : va_P D vwCl ([(x, .inl (Y 0, 1497, .inl s))]) H := hP
      have hD : va_D A ([(x, .inl (Y 0, 1497, .inl s))]) := hD
      refine lv_if_le (tgt := 41) hx hb dX8_how_34 (by decide) (fun c6 => ?_) (fun c6 => ?_)
      · refine lv_iconst (v := 2) hx hb dX8_how_41 (by decide) ?_
        exact kiret (()) hQ hx hb hr hlocks hP hS dX8_how_42 (by simp [mHow, sHow, c2, c4, c6])
      · refine lv_iconst (v := 3) hx hb dX8_how_37 (by decide) ?_
        refine lv_goto (tgt := 42) hx hb dX8_how_38 (by decide) ?_
        exact kiret (()) hQ hx hb hr hlocks hP hS dX8_how_42 (by simp [mHow, sHow, c2, c4, c6])
    · refine lv_iconst (v := 1) hx hb dX8_how_23 (by decide) ?_
      refine lv_goto (tgt := 42) hx hb dX8_how_24 (by decide) ?_
      exact kiret (()) hQ hx hb hr hlocks hP hS dX8_how_42 (by simp [mHow, sHow, c2, c4])
  · refine lv_iconst (v := 0) hx hb dX8_how_12 (by decide) ?_
    exact kiret (()) hQ hx hb hr hlocks hP hS dX8_how_13 (by simp [mHow, sHow, c2])
