set_option maxHeartbeats 4000000 in
set_option maxRecDepth 100000 in
theorem c_X8_quota (l : Launch) (D : va_G) (Y : Nat → ClassId) (b : Nat → Nat) (R : kN) (g t : Int32) (hk : R 7 0 = nI (kp R) ∧ kp R ≤ 6) : kM l yX8_quota wX8_quota rX8_quota D Y (wR Y b R) [.ref (b 0), .int g, .int t] kX0 (kQi D (fun r u => r = (mQuota R g t).1 ∧ u = (mQuota R g t).2) (fun u => wR Y b u)) := by
  refine kentry (cc := cX8_quota) (maxL := 4) (ret := (some .int)) (by decide +kernel) rfl (Nat.le_of_ble_eq_true rfl) ?_
  intro p e s0 m args below meth c A Q ls hQ hx hb hr hlocks hml hown hin hta hA hX0 hK hNs hP hD hS hl
  have hown : s0.vm.findClass RX8 = some m.cls := hown
  have hl : lv_has ls 4 [(0, .ref (b 0)), (1, .int g), (2, .int t)] := hl
  refine lv_iload_n hx hb dX8_quota_0 rfl (lv_at hl 1 rfl) ?_
  refine lv_iload_n hx hb dX8_quota_1 rfl (lv_at hl 2 rfl) ?_
  refine kc_i (krS (As := [.int g, .int t]) (rest := []) (c_X8_mayQuota l D Y g t) ⟨hx, hb, hml, hown, hta⟩ (cwX8_107 hta ⟨Nat.le_of_ble_eq_true rfl, Nat.le_of_ble_eq_true rfl⟩) kX0b (fun _ _ _ => trivial) hK hNs hP hD (kJ_nil) rfl hl.1 rfl (Nat.le_of_ble_eq_true rfl) dX8_quota_2 ⟨Nat.le_of_ble_eq_true rfl, Nat.le_of_ble_eq_true rfl⟩) hP hD hS hA (kJ_nil) (fun _ => rfl) (fun r1 u H locs hw hP hD hS => ?_)
  subst hw
  have hP : va_P D vwCl (wR Y b R) H := hP
  have hD : va_D A (wR Y b R) := hD
  refine lv_istore_n (lv' := [(3, .int (mMayQuota g t)), (0, .ref (b 0)), (1, .int g), (2, .int t)]) hx hb dX8_quota_5 rfl hl (by decide) rfl (fun ls hl => ?_)
  refine lv_iload_n hx hb dX8_quota_6 rfl (lv_at hl 0 rfl) ?_
  refine lv_if_eq (tgt := 12) hx hb dX8_quota_7 (by decide) (fun c2 => ?_) (fun c2 => ?_)
  · have hl : lv_has ls 4 [(0, .ref (b 0)), (1, .int g), (2, .int t)] := lv_sub hl [1, 2, 3] rfl
    have hm := mMayQuota_0 c2
    obtain ⟨j, je, jl, jh⟩ := pIn_nat hm.1 (show (0 : Int32) = nI 0 from rfl) (show (5 : Int32) = nI 5 from rfl) (by omega) (by omega)
    subst je
    refine lv_aload_n hx hb dX8_quota_12 rfl (lv_at hl 0 rfl) ?_
    refine kc_v (krV (As := []) (rest := []) (c_X8_records l D Y b R hk) ⟨hx, hb, hml, hown, hta⟩ (cwX8_44 hta ⟨Nat.le_of_ble_eq_true rfl, Nat.le_of_ble_eq_true rfl⟩) kX0b (fun _ _ _ => trivial) hK hNs hP hD (kJ_all) (q0 := 0) rfl rfl rfl rfl hl.1 rfl (Nat.le_of_ble_eq_true rfl) dX8_quota_13 ⟨Nat.le_of_ble_eq_true rfl, Nat.le_of_ble_eq_true rfl⟩) hP hD hS hA (kJ_all) (fun _ => rfl) (fun N1 H locs hw hP hD hS => ?_)
    have hN1 := hw
    have hP : va_P D vwCl (wR Y b N1) H := hP
    have hD : va_D A (wR Y b N1) := hD
    refine lv_aload_n hx hb dX8_quota_16 rfl (lv_at hl 0 rfl) ?_
    refine lv_bipush (v := 10) hx hb dX8_quota_17 (by decide) ?_
    refine lv_iload_n hx hb dX8_quota_19 rfl (lv_at hl 1 rfl) ?_
    refine lv_iadd hx hb dX8_quota_20 ?_
    refine kTop (nI_add 10 j) ?_
    refine lv_iload_n hx hb dX8_quota_21 rfl (lv_at hl 2 rfl) ?_
    refine kc_i (krV (As := [.int (nI (10 + j)), .int t]) (rest := []) (c_X8_changes l D Y b N1 (10 + j) t (by omega)) ⟨hx, hb, hml, hown, hta⟩ (cwX8_100 hta ⟨Nat.le_of_ble_eq_true rfl, Nat.le_of_ble_eq_true rfl⟩) kX0b (fun _ _ _ => trivial) hK hNs hP hD (kJ_all) (q0 := 0) rfl rfl rfl rfl hl.1 rfl (Nat.le_of_ble_eq_true rfl) dX8_quota_22 ⟨Nat.le_of_ble_eq_true rfl, Nat.le_of_ble_eq_true rfl⟩) hP hD hS hA (kJ_all) (fun _ => rfl) (fun r4 N2 H locs hw hP hD hS => ?_)
    obtain ⟨rfl, hN2⟩ := hw
    have hP : va_P D vwCl (wR Y b N2) H := hP
    have hD : va_D A (wR Y b N2) := hD
    exact kiret (N2) hQ hx hb hr hlocks hP hS dX8_quota_25 (by subst hN2; subst hN1; unfold mQuota; rw [if_pos c2, nI_clamp (by omega)]; exact ⟨rfl, rfl⟩)
  · refine lv_iload_n hx hb dX8_quota_10 rfl (lv_at hl 0 rfl) ?_
    exact kiret (R) hQ hx hb hr hlocks hP hS dX8_quota_11 (by unfold mQuota; rw [if_neg c2]; exact ⟨rfl, rfl⟩)
