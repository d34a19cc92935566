set_option maxHeartbeats 4000000 in
set_option maxRecDepth 100000 in
theorem c_X8_undo (l : Launch) (D : va_G) (Y : Nat → ClassId) (b : Nat → Nat) (R : kN) (hk : R 7 0 = nI (kp R) ∧ kp R ≤ 6) : kM l yX8_undo wX8_undo rX8_undo D Y (wR Y b R) [.ref (b 0)] kX0 (kQi D (fun r u => r = (mUndo R).1 ∧ u = (mUndo R).2) (fun u => wR Y b u)) := by
  refine kentry (cc := cX8_undo) (maxL := 1) (ret := (some .int)) (by decide +kernel) rfl (Nat.le_of_ble_eq_true rfl) ?_
  intro p e s0 m args below meth c A Q ls hQ hx hb hr hlocks hml hown hin hta hA hX0 hK hNs hP hD hS hl
  have hown : s0.vm.findClass RX8 = some m.cls := hown
  have hl : lv_has ls 1 [(0, .ref (b 0))] := hl
  have hk6 := hk.2
  refine lv_aload_n hx hb dX8_undo_0 rfl (lv_at hl 0 rfl) ?_
  refine gfX8_36 (v := .int (R 7 0)) hx hb hta hown hK hP 0 rfl rfl dX8_undo_1 ?_
  refine kTop hk.1 ?_
  refine lv_if_ne (tgt := 10) hx hb dX8_undo_4 (by decide) (fun c1 => ?_) (fun c1 => ?_)
  · have c1n : ¬ (kp R) = 0 := fun h => c1 ((nI_eq (a := kp R) (b := 0) (by omega) (by omega)).mpr h)
    refine lv_aload_n hx hb dX8_undo_10 rfl (lv_at hl 0 rfl) ?_
    refine lv_dup hx hb dX8_undo_11 rfl ?_
    refine gfX8_36 (v := .int (R 7 0)) hx hb hta hown hK hP 0 rfl rfl dX8_undo_12 ?_
    refine kTop hk.1 ?_
    refine lv_iconst (v := 1) hx hb dX8_undo_15 (by decide) ?_
    refine lv_isub hx hb dX8_undo_16 ?_
    refine kTop (pk_sub (a := kp R) (b := 1) (by omega)) ?_
    refine pfX8_36 (ws1 := wR Y b (sM R 7 0 (nI ((kp R) - 1)))) hx hb hta hown hK hP hD hS 0 rfl (Nat.le_of_ble_eq_true rfl) rfl dX8_undo_17 (fun H locs hP hD hS => ?_)
    refine lv_aload_n hx hb dX8_undo_20 rfl (lv_at hl 0 rfl) ?_
    refine gfX8_16 (v := .ref (b 3)) hx hb hta hown hK hP 0 rfl rfl dX8_undo_21 ?_
    refine lv_sipush (v := 1497) hx hb dX8_undo_24 (by decide) ?_
    refine lv_aload_n hx hb dX8_undo_27 rfl (lv_at hl 0 rfl) ?_
    refine gfX8_36 (v := .int (nI ((kp R) - 1))) hx hb hta hown hK hP 0 rfl rfl dX8_undo_28 ?_
    refine lv_imul hx hb dX8_undo_31 ?_
    refine kTop (pk_mul 1497 ((kp R) - 1)) ?_
    refine lv_aload_n hx hb dX8_undo_32 rfl (lv_at hl 0 rfl) ?_
    refine gfX8_7 (v := .ref (b 1)) hx hb hta hown hK hP 0 rfl rfl dX8_undo_33 ?_
    refine lv_iconst (v := 0) hx hb dX8_undo_36 (by decide) ?_
    refine kc_v (krS (As := [.ref (b 3), .int (nI (1497 * ((kp R) - 1))), .ref (b 1), .int 0]) (rest := []) (c_X8_lays l D Y (b 3) 8982 (R 2) (1497 * ((kp R) - 1)) (b 1) 1497 (R 0) 0 (by omega) (by omega) (by omega) (by omega)) ⟨hx, hb, hml, hown, hta⟩ (cwX8_40 hta ⟨Nat.le_of_ble_eq_true rfl, Nat.le_of_ble_eq_true rfl⟩) kX0b (fun _ _ _ => trivial) hK hNs hP hD (kJ_sub [3, 1] rfl rfl) rfl hl.1 rfl (Nat.le_of_ble_eq_true rfl) dX8_undo_37 ⟨Nat.le_of_ble_eq_true rfl, Nat.le_of_ble_eq_true rfl⟩) hP hD hS hA (kJ_sub [3, 1] rfl rfl) (fun _ => rfl) (fun u H locs hw hP hD hS => ?_)
    have hP : va_P D vwCl (wR Y b (sR (sM R 7 0 (nI ((kp R) - 1))) 0 (kcy (R 2) (R 0) (1497 * ((kp R) - 1)) 0 1497))) H := hP
    have hD : va_D A (wR Y b (sR (sM R 7 0 (nI ((kp R) - 1))) 0 (kcy (R 2) (R 0) (1497 * ((kp R) - 1)) 0 1497))) := hD
    refine lv_aload_n hx hb dX8_undo_40 rfl (lv_at hl 0 rfl) ?_
    refine gfX8_36 (v := .int (nI ((kp R) - 1))) hx hb hta hown hK hP 0 rfl rfl dX8_undo_41 ?_
    exact kiret (sR (sM R 7 0 (nI ((kp R) - 1))) 0 (kcy (R 2) (R 0) (1497 * ((kp R) - 1)) 0 1497)) hQ hx hb hr hlocks hP hS dX8_undo_44 (by unfold mUndo; rw [if_neg c1n]; exact ⟨rfl, rfl⟩)
  · have c1n : (kp R) = 0 := (nI_eq (a := kp R) (b := 0) (by omega) (by omega)).mp c1
    refine lv_bipush (v := (-5)) hx hb dX8_undo_7 (by decide) ?_
    exact kiret (R) hQ hx hb hr hlocks hP hS dX8_undo_9 (by unfold mUndo; rw [if_pos c1n]; exact ⟨rfl, rfl⟩)
