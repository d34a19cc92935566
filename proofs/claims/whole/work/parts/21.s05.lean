set_option maxHeartbeats 4000000 in
set_option maxRecDepth 100000 in
theorem c_X8_stop (l : Launch) (D : va_G) (Y : Nat → ClassId) (b : Nat → Nat) (R : kN) (f t : Int32) (hZ : mX (R 0)) (hk : R 7 0 = nI (kp R) ∧ kp R ≤ 6) : kM l yX8_stop wX8_stop rX8_stop D Y (wR Y b R) [.ref (b 0), .int f, .int t] kX0 (kQi D (fun r u => r = (mStop R f t).1 ∧ u = (mStop R f t).2) (fun u => wR Y b u)) := by
  refine kentry (cc := cX8_stop) (maxL := 4) (ret := (some .int)) (by decide +kernel) rfl (Nat.le_of_ble_eq_true rfl) ?_
  intro p e s0 m args below meth c A Q ls hQ hx hb hr hlocks hml hown hin hta hA hX0 hK hNs hP hD hS hl
  have hown : s0.vm.findClass RX8 = some m.cls := hown
  have hl : lv_has ls 4 [(0, .ref (b 0)), (1, .int f), (2, .int t)] := hl
  refine lv_aload_n hx hb dX8_stop_0 rfl (lv_at hl 0 rfl) ?_
  refine lv_iload_n hx hb dX8_stop_1 rfl (lv_at hl 1 rfl) ?_
  refine lv_iload_n hx hb dX8_stop_2 rfl (lv_at hl 2 rfl) ?_
  refine kc_i (krV (As := [.int f, .int t]) (rest := []) (c_X8_mayStop l D Y b R f t hZ) ⟨hx, hb, hml, hown, hta⟩ (cwX8_127 hta ⟨Nat.le_of_ble_eq_true rfl, Nat.le_of_ble_eq_true rfl⟩) kX0b (fun _ _ _ => trivial) hK hNs hP hD (kJ_all) (q0 := 0) rfl rfl rfl rfl hl.1 rfl (Nat.le_of_ble_eq_true rfl) dX8_stop_3 ⟨Nat.le_of_ble_eq_true rfl, Nat.le_of_ble_eq_true rfl⟩) hP hD hS hA (kJ_all) (fun _ => rfl) (fun r1 u H locs hw hP hD hS => ?_)
  subst hw
  have hP : va_P D vwCl (wR Y b R) H := hP
  have hD : va_D A (wR Y b R) := hD
  refine lv_istore_n (lv' := [(3, .int (mMayStop (R 0) f t)), (0, .ref (b 0)), (1, .int f), (2, .int t)]) hx hb dX8_stop_6 rfl hl (by decide) rfl (fun ls hl => ?_)
  refine lv_iload_n hx hb dX8_stop_7 rfl (lv_at hl 0 rfl) ?_
  refine lv_if_eq (tgt := 13) hx hb dX8_stop_8 (by decide) (fun c2 => ?_) (fun c2 => ?_)
  · have hc0 := c2
    refine lv_aload_n hx hb dX8_stop_13 rfl (lv_at hl 1 rfl) ?_
    refine kc_v (krV (As := []) (rest := []) (c_X8_records l D Y b R hk) ⟨hx, hb, hml, hown, hta⟩ (cwX8_44 hta ⟨Nat.le_of_ble_eq_true rfl, Nat.le_of_ble_eq_true rfl⟩) kX0b (fun _ _ _ => trivial) hK hNs hP hD (kJ_all) (q0 := 0) rfl rfl rfl rfl hl.1 rfl (Nat.le_of_ble_eq_true rfl) dX8_stop_14 ⟨Nat.le_of_ble_eq_true rfl, Nat.le_of_ble_eq_true rfl⟩) hP hD hS hA (kJ_all) (fun _ => rfl) (fun N1 H locs hw hP hD hS => ?_)
    have hN1 := hw
    have hP : va_P D vwCl (wR Y b N1) H := hP
    have hD : va_D A (wR Y b N1) := hD
    have e0 : N1 0 = R 0 := by rw [hN1]; exact mRec_o R (by decide) (by decide)
    have hP : va_P D vwCl (wR Y b (sR N1 0 (R 0))) H := by rw [row0 e0]; exact hP
    have hD : va_D A (wR Y b (sR N1 0 (R 0))) := by rw [row0 e0]; exact hD
    refine lv_aload_n hx hb dX8_stop_17 rfl (lv_at hl 1 rfl) ?_
    refine lv_iload_n hx hb dX8_stop_18 rfl (lv_at hl 2 rfl) ?_
    refine lv_iload_n hx hb dX8_stop_19 rfl (lv_at hl 3 rfl) ?_
    refine kc_i (krV (As := [.int f, .int t]) (rest := []) (c_X8_stops l D Y b N1 (R 0) f t hZ (by have := (mMayStop_0 hc0).2.2; have := hZ.s5; omega)) ⟨hx, hb, hml, hown, hta⟩ (cwX8_130 hta ⟨Nat.le_of_ble_eq_true rfl, Nat.le_of_ble_eq_true rfl⟩) kX0b (fun _ _ _ => trivial) hK hNs hP hD (kJ_all) (q0 := 0) rfl rfl rfl rfl hl.1 rfl (Nat.le_of_ble_eq_true rfl) dX8_stop_20 ⟨Nat.le_of_ble_eq_true rfl, Nat.le_of_ble_eq_true rfl⟩) hP hD hS hA (kJ_all) (fun _ => rfl) (fun r4 u H locs hw hP hD hS => ?_)
    obtain ⟨rfl, rfl⟩ := hw
    have hP : va_P D vwCl (wR Y b (sR N1 0 (mStops (R 0) f t))) H := hP
    have hD : va_D A (wR Y b (sR N1 0 (mStops (R 0) f t))) := hD
    exact kiret (sR N1 0 (mStops (R 0) f t)) hQ hx hb hr hlocks hP hS dX8_stop_23 (by subst hN1; unfold mStop; rw [if_pos c2]; exact ⟨rfl, rfl⟩)
  · refine lv_iload_n hx hb dX8_stop_11 rfl (lv_at hl 0 rfl) ?_
    exact kiret (R) hQ hx hb hr hlocks hP hS dX8_stop_12 (by unfold mStop; rw [if_neg c2]; exact ⟨rfl, rfl⟩)
