set_option maxHeartbeats 4000000 in
set_option maxRecDepth 100000 in
theorem c_X8_restore (l : Launch) (D : va_G) (Y : Nat → ClassId) (b : Nat → Nat) (R : kN) (q : Int32) (hk : R 7 0 = nI (kp R) ∧ kp R ≤ 6) : kM l yX8_restore wX8_restore rX8_restore D Y (wR Y b R) [.ref (b 0), .int q] kX0 (kQi D (fun r u => r = (mRestore R q).1 ∧ u = (mRestore R q).2) (fun u => wR Y b u)) := by
  refine kentry (cc := cX8_restore) (maxL := 2) (ret := (some .int)) (by decide +kernel) rfl (Nat.le_of_ble_eq_true rfl) ?_
  intro p e s0 m args below meth c A Q ls hQ hx hb hr hlocks hml hown hin hta hA hX0 hK hNs hP hD hS hl
  have hown : s0.vm.findClass RX8 = some m.cls := hown
  have hl : lv_has ls 2 [(0, .ref (b 0)), (1, .int q)] := hl
  refine lv_iload_n hx hb dX8_restore_0 rfl (lv_at hl 1 rfl) ?_
  refine lv_iconst (v := 0) hx hb dX8_restore_1 (by decide) ?_
  refine lv_iconst (v := 1) hx hb dX8_restore_2 (by decide) ?_
  refine kc_i (krS (As := [.int q, .int 0, .int 1]) (rest := []) (c_X8_in l D Y q 0 1) ⟨hx, hb, hml, hown, hta⟩ (cwX8_32 hta ⟨Nat.le_of_ble_eq_true rfl, Nat.le_of_ble_eq_true rfl⟩) kX0b (fun _ _ _ => trivial) hK hNs hP hD (kJ_nil) rfl hl.1 rfl (Nat.le_of_ble_eq_true rfl) dX8_restore_3 ⟨Nat.le_of_ble_eq_true rfl, Nat.le_of_ble_eq_true rfl⟩) hP hD hS hA (kJ_nil) (fun _ => rfl) (fun r1 u H locs hw hP hD hS => ?_)
  subst hw
  have hP : va_P D vwCl (wR Y b R) H := hP
  have hD : va_D A (wR Y b R) := hD
  by_cases c2 : pIn q 0 1
  · refine kTop (kb_t c2) ?_
    refine lv_if_ne (tgt := 12) hx hb dX8_restore_6 (by decide) (fun _ => ?_) (fun h => False.elim (by revert h; decide))
    obtain ⟨j, rfl, hj0, hj1⟩ := pIn_nat c2 (show (0 : Int32) = nI 0 from rfl) (show (1 : Int32) = nI 1 from rfl) (by omega) (by omega)
    refine lv_aload_n hx hb dX8_restore_12 rfl (lv_at hl 0 rfl) ?_
    refine gfX8_22 (v := .ref (b 5)) hx hb hta hown hK hP 0 rfl rfl dX8_restore_13 ?_
    refine lv_iload_n hx hb dX8_restore_16 rfl (lv_at hl 1 rfl) ?_
    refine kzald (f := R 4) hx hb hK hP 5 rfl j rfl (by omega) (by omega) dX8_restore_17 ?_
    refine lv_if_ne (tgt := 24) hx hb dX8_restore_18 (by decide) (fun c3 => ?_) (fun c3 => ?_)
    · refine lv_aload_n hx hb dX8_restore_24 rfl (lv_at hl 0 rfl) ?_
      refine kc_v (krV (As := []) (rest := []) (c_X8_records l D Y b R hk) ⟨hx, hb, hml, hown, hta⟩ (cwX8_44 hta ⟨Nat.le_of_ble_eq_true rfl, Nat.le_of_ble_eq_true rfl⟩) kX0b (fun _ _ _ => trivial) hK hNs hP hD (kJ_all) (q0 := 0) rfl rfl rfl rfl hl.1 rfl (Nat.le_of_ble_eq_true rfl) dX8_restore_25 ⟨Nat.le_of_ble_eq_true rfl, Nat.le_of_ble_eq_true rfl⟩) hP hD hS hA (kJ_all) (fun _ => rfl) (fun N1 H locs hw hP hD hS => ?_)
      have hN1 := hw
      have hP : va_P D vwCl (wR Y b N1) H := hP
      have hD : va_D A (wR Y b N1) := hD
      refine lv_aload_n hx hb dX8_restore_28 rfl (lv_at hl 0 rfl) ?_
      refine gfX8_19 (v := .ref (b 4)) hx hb hta hown hK hP 0 rfl rfl dX8_restore_29 ?_
      refine lv_sipush (v := 1497) hx hb dX8_restore_32 (by decide) ?_
      refine lv_iload_n hx hb dX8_restore_35 rfl (lv_at hl 1 rfl) ?_
      refine lv_imul hx hb dX8_restore_36 ?_
      refine kTop (pk_mul 1497 j) ?_
      refine lv_aload_n hx hb dX8_restore_37 rfl (lv_at hl 0 rfl) ?_
      refine gfX8_7 (v := .ref (b 1)) hx hb hta hown hK hP 0 rfl rfl dX8_restore_38 ?_
      refine lv_iconst (v := 0) hx hb dX8_restore_41 (by decide) ?_
      refine kc_v (krS (As := [.ref (b 4), .int (nI (1497 * j)), .ref (b 1), .int 0]) (rest := []) (c_X8_lays l D Y (b 4) 2994 (N1 3) (1497 * j) (b 1) 1497 (N1 0) 0 (by omega) (by omega) (by omega) (by omega)) ⟨hx, hb, hml, hown, hta⟩ (cwX8_40 hta ⟨Nat.le_of_ble_eq_true rfl, Nat.le_of_ble_eq_true rfl⟩) kX0b (fun _ _ _ => trivial) hK hNs hP hD (kJ_sub [4, 1] rfl rfl) rfl hl.1 rfl (Nat.le_of_ble_eq_true rfl) dX8_restore_42 ⟨Nat.le_of_ble_eq_true rfl, Nat.le_of_ble_eq_true rfl⟩) hP hD hS hA (kJ_sub [4, 1] rfl rfl) (fun _ => rfl) (fun u H locs hw hP hD hS => ?_)
      have hP : va_P D vwCl (wR Y b (sR N1 0 (kcy (N1 3) (N1 0) (1497 * j) 0 1497))) H := hP
      have hD : va_D A (wR Y b (sR N1 0 (kcy (N1 3) (N1 0) (1497 * j) 0 1497))) := hD
      refine lv_aload_n hx hb dX8_restore_45 rfl (lv_at hl 0 rfl) ?_
      refine gfX8_7 (v := .ref (b 1)) hx hb hta hown hK hP 0 rfl rfl dX8_restore_46 ?_
      refine lv_iconst (v := 1) hx hb dX8_restore_49 (by decide) ?_
      refine kiald (f := kcy (N1 3) (N1 0) (1497 * j) 0 1497) hx hb hK hP 1 rfl 1 rfl (by omega) (by omega) dX8_restore_50 ?_
      exact kiret (sR N1 0 (kcy (N1 3) (N1 0) (1497 * j) 0 1497)) hQ hx hb hr hlocks hP hS dX8_restore_51 (by subst hN1; unfold mRestore; rw [if_pos c2, nI_clamp (by omega), if_neg c3]; exact ⟨rfl, rfl⟩)
    · refine lv_bipush (v := (-5)) hx hb dX8_restore_21 (by decide) ?_
      exact kiret (R) hQ hx hb hr hlocks hP hS dX8_restore_23 (by unfold mRestore; rw [if_pos c2, nI_clamp (by omega), if_pos c3]; exact ⟨rfl, rfl⟩)
  · refine kTop (kb_f c2) ?_
    refine lv_if_ne (tgt := 12) hx hb dX8_restore_6 (by decide) (fun h => False.elim (by revert h; decide)) (fun _ => ?_)
    refine lv_bipush (v := (-2)) hx hb dX8_restore_9 (by decide) ?_
    exact kiret (R) hQ hx hb hr hlocks hP hS dX8_restore_11 (by unfold mRestore; rw [if_neg c2]; exact ⟨rfl, rfl⟩)
