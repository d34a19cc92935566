set_option maxHeartbeats 4000000 in
set_option maxRecDepth 100000 in
theorem c_X8_field (l : Launch) (D : va_G) (Y : Nat → ClassId) (b : Nat → Nat) (R : kN) (g t p0 b0 : Int32) (hZ : mX (R 0)) (hk : R 7 0 = nI (kp R) ∧ kp R ≤ 6) : kM l yX8_field wX8_field rX8_field D Y (wR Y b R) [.ref (b 0), .int g, .int t, .int p0, .int b0] kX0 (kQi D (fun r u => r = (mField R g t p0 b0).1 ∧ u = (mField R g t p0 b0).2) (fun u => wR Y b u)) := by
  refine kentry (cc := cX8_field) (maxL := 6) (ret := (some .int)) (by decide +kernel) rfl (Nat.le_of_ble_eq_true rfl) ?_
  intro p e s0 m args below meth c A Q ls hQ hx hb hr hlocks hml hown hin hta hA hX0 hK hNs hP hD hS hl
  have hown : s0.vm.findClass RX8 = some m.cls := hown
  have hl : lv_has ls 6 [(0, .ref (b 0)), (1, .int g), (2, .int t), (3, .int p0), (4, .int b0)] := hl
  refine lv_aload_n hx hb dX8_field_0 rfl (lv_at hl 0 rfl) ?_
  refine lv_iload_n hx hb dX8_field_1 rfl (lv_at hl 1 rfl) ?_
  refine lv_iload_n hx hb dX8_field_2 rfl (lv_at hl 2 rfl) ?_
  refine lv_iload_n hx hb dX8_field_3 rfl (lv_at hl 3 rfl) ?_
  refine lv_iload hx hb dX8_field_4 (lv_at hl 4 rfl) ?_
  refine kc_i (krV (As := [.int g, .int t, .int p0, .int b0]) (rest := []) (c_X8_mayCome l D Y b R g t p0 b0 hZ) ⟨hx, hb, hml, hown, hta⟩ (cwX8_117 hta ⟨Nat.le_of_ble_eq_true rfl, Nat.le_of_ble_eq_true rfl⟩) kX0b (fun _ _ _ => trivial) hK hNs hP hD (kJ_all) (q0 := 0) rfl rfl rfl rfl hl.1 rfl (Nat.le_of_ble_eq_true rfl) dX8_field_6 ⟨Nat.le_of_ble_eq_true rfl, Nat.le_of_ble_eq_true rfl⟩) hP hD hS hA (kJ_all) (fun _ => rfl) (fun r1 u H locs hw hP hD hS => ?_)
  subst hw
  have hP : va_P D vwCl (wR Y b R) H := hP
  have hD : va_D A (wR Y b R) := hD
  refine lv_istore (lv' := [(5, .int (mMayCome (R 0) g t p0 b0)), (0, .ref (b 0)), (1, .int g), (2, .int t), (3, .int p0), (4, .int b0)]) hx hb dX8_field_9 hl (by decide) rfl (fun ls hl => ?_)
  refine lv_iload hx hb dX8_field_11 (lv_at hl 0 rfl) ?_
  refine lv_if_eq (tgt := 19) hx hb dX8_field_13 (by decide) (fun c2 => ?_) (fun c2 => ?_)
  · have hc0 := c2
    refine lv_aload_n hx hb dX8_field_19 rfl (lv_at hl 1 rfl) ?_
    refine kc_v (krV (As := []) (rest := []) (c_X8_records l D Y b R hk) ⟨hx, hb, hml, hown, hta⟩ (cwX8_44 hta ⟨Nat.le_of_ble_eq_true rfl, Nat.le_of_ble_eq_true rfl⟩) kX0b (fun _ _ _ => trivial) hK hNs hP hD (kJ_all) (q0 := 0) rfl rfl rfl rfl hl.1 rfl (Nat.le_of_ble_eq_true rfl) dX8_field_20 ⟨Nat.le_of_ble_eq_true rfl, Nat.le_of_ble_eq_true rfl⟩) hP hD hS hA (kJ_all) (fun _ => rfl) (fun N1 H locs hw hP hD hS => ?_)
    have hN1 := hw
    have hP : va_P D vwCl (wR Y b N1) H := hP
    have hD : va_D A (wR Y b N1) := hD
    have e0 : N1 0 = R 0 := by rw [hN1]; exact mRec_o R (by decide) (by decide)
    have hP : va_P D vwCl (wR Y b (sR N1 0 (R 0))) H := by rw [row0 e0]; exact hP
    have hD : va_D A (wR Y b (sR N1 0 (R 0))) := by rw [row0 e0]; exact hD
    refine lv_aload_n hx hb dX8_field_23 rfl (lv_at hl 1 rfl) ?_
    refine lv_iload_n hx hb dX8_field_24 rfl (lv_at hl 2 rfl) ?_
    refine lv_iload_n hx hb dX8_field_25 rfl (lv_at hl 3 rfl) ?_
    refine lv_iload_n hx hb dX8_field_26 rfl (lv_at hl 4 rfl) ?_
    refine lv_iload hx hb dX8_field_27 (lv_at hl 5 rfl) ?_
    refine kc_i (krV (As := [.int g, .int t, .int p0, .int b0]) (rest := []) (c_X8_comes l D Y b N1 (R 0) g t p0 b0 hZ (by have := (mMayCome_0 hc0).2.2.2.2; have := hZ.f30; omega)) ⟨hx, hb, hml, hown, hta⟩ (cwX8_121 hta ⟨Nat.le_of_ble_eq_true rfl, Nat.le_of_ble_eq_true rfl⟩) kX0b (fun _ _ _ => trivial) hK hNs hP hD (kJ_all) (q0 := 0) rfl rfl rfl rfl hl.1 rfl (Nat.le_of_ble_eq_true rfl) dX8_field_29 ⟨Nat.le_of_ble_eq_true rfl, Nat.le_of_ble_eq_true rfl⟩) hP hD hS hA (kJ_all) (fun _ => rfl) (fun r4 u H locs hw hP hD hS => ?_)
    obtain ⟨rfl, rfl⟩ := hw
    have hP : va_P D vwCl (wR Y b (sR N1 0 (mComes (R 0) g t p0 b0))) H := hP
    have hD : va_D A (wR Y b (sR N1 0 (mComes (R 0) g t p0 b0))) := hD
    exact kiret (sR N1 0 (mComes (R 0) g t p0 b0)) hQ hx hb hr hlocks hP hS dX8_field_32 (by subst hN1; unfold mField; rw [if_pos c2]; exact ⟨rfl, rfl⟩)
  · refine lv_iload hx hb dX8_field_16 (lv_at hl 0 rfl) ?_
    exact kiret (R) hQ hx hb hr hlocks hP hS dX8_field_18 (by unfold mField; rw [if_neg c2]; exact ⟨rfl, rfl⟩)
