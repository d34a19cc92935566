set_option maxHeartbeats 4000000 in
set_option maxRecDepth 100000 in
theorem c_X8_lend (l : Launch) (D : va_G) (Y : Nat → ClassId) (b : Nat → Nat) (R : kN) (g o t : Int32) (hk : R 7 0 = nI (kp R) ∧ kp R ≤ 6) : kM l yX8_lend wX8_lend rX8_lend D Y (wR Y b R) [.ref (b 0), .int g, .int o, .int t] kX0 (kQi D (fun r u => r = (mLend R g o t).1 ∧ u = (mLend R g o t).2) (fun u => wR Y b u)) := by
  refine kentry (cc := cX8_lend) (maxL := 5) (ret := (some .int)) (by decide +kernel) rfl (Nat.le_of_ble_eq_true rfl) ?_
  intro p e s0 m args below meth c A Q ls hQ hx hb hr hlocks hml hown hin hta hA hX0 hK hNs hP hD hS hl
  have hown : s0.vm.findClass RX8 = some m.cls := hown
  have hl : lv_has ls 5 [(0, .ref (b 0)), (1, .int g), (2, .int o), (3, .int t)] := hl
  refine lv_aload_n hx hb dX8_lend_0 rfl (lv_at hl 0 rfl) ?_
  refine lv_iload_n hx hb dX8_lend_1 rfl (lv_at hl 1 rfl) ?_
  refine lv_iload_n hx hb dX8_lend_2 rfl (lv_at hl 2 rfl) ?_
  refine lv_iload_n hx hb dX8_lend_3 rfl (lv_at hl 3 rfl) ?_
  refine kc_i (krV (As := [.int g, .int o, .int t]) (rest := []) (c_X8_mayLend l D Y b R g o t) ⟨hx, hb, hml, hown, hta⟩ (cwX8_110 hta ⟨Nat.le_of_ble_eq_true rfl, Nat.le_of_ble_eq_true rfl⟩) kX0b (fun _ _ _ => trivial) hK hNs hP hD (kJ_all) (q0 := 0) rfl rfl rfl rfl hl.1 rfl (Nat.le_of_ble_eq_true rfl) dX8_lend_4 ⟨Nat.le_of_ble_eq_true rfl, Nat.le_of_ble_eq_true rfl⟩) hP hD hS hA (kJ_all) (fun _ => rfl) (fun r1 u H locs hw hP hD hS => ?_)
  subst hw
  have hP : va_P D vwCl (wR Y b R) H := hP
  have hD : va_D A (wR Y b R) := hD
  refine lv_istore (lv' := [(4, .int (mMayLend (R 0) g o t)), (0, .ref (b 0)), (1, .int g), (2, .int o), (3, .int t)]) hx hb dX8_lend_7 hl (by decide) rfl (fun ls hl => ?_)
  refine lv_iload hx hb dX8_lend_9 (lv_at hl 0 rfl) ?_
  refine lv_if_eq (tgt := 17) hx hb dX8_lend_11 (by decide) (fun c2 => ?_) (fun c2 => ?_)
  · have hl : lv_has ls 5 [(0, .ref (b 0)), (1, .int g), (2, .int o), (3, .int t)] := lv_sub hl [1, 2, 3, 4] rfl
    have hm := mMayLend_0 c2
    obtain ⟨j, je, jl, jh⟩ := pIn_nat hm.1 (show (0 : Int32) = nI 0 from rfl) (show (5 : Int32) = nI 5 from rfl) (by omega) (by omega)
    obtain ⟨i, ie, il, ih⟩ := pIn_nat hm.2 (show (0 : Int32) = nI 0 from rfl) (show (5 : Int32) = nI 5 from rfl) (by omega) (by omega)
    subst je
    subst ie
    refine lv_aload_n hx hb dX8_lend_17 rfl (lv_at hl 0 rfl) ?_
    refine kc_v (krV (As := []) (rest := []) (c_X8_records l D Y b R hk) ⟨hx, hb, hml, hown, hta⟩ (cwX8_44 hta ⟨Nat.le_of_ble_eq_true rfl, Nat.le_of_ble_eq_true rfl⟩) kX0b (fun _ _ _ => trivial) hK hNs hP hD (kJ_all) (q0 := 0) rfl rfl rfl rfl hl.1 rfl (Nat.le_of_ble_eq_true rfl) dX8_lend_18 ⟨Nat.le_of_ble_eq_true rfl, Nat.le_of_ble_eq_true rfl⟩) hP hD hS hA (kJ_all) (fun _ => rfl) (fun N1 H locs hw hP hD hS => ?_)
    have hN1 := hw
    have hP : va_P D vwCl (wR Y b N1) H := hP
    have hD : va_D A (wR Y b N1) := hD
    refine lv_aload_n hx hb dX8_lend_21 rfl (lv_at hl 0 rfl) ?_
    refine lv_iload_n hx hb dX8_lend_22 rfl (lv_at hl 1 rfl) ?_
    refine lv_iload_n hx hb dX8_lend_23 rfl (lv_at hl 2 rfl) ?_
    refine lv_iload_n hx hb dX8_lend_24 rfl (lv_at hl 3 rfl) ?_
    refine kc_i (krV (As := [.int (nI j), .int (nI i), .int t]) (rest := []) (c_X8_lends l D Y b N1 j i t (by omega) (by omega)) ⟨hx, hb, hml, hown, hta⟩ (cwX8_114 hta ⟨Nat.le_of_ble_eq_true rfl, Nat.le_of_ble_eq_true rfl⟩) kX0b (fun _ _ _ => trivial) hK hNs hP hD (kJ_all) (q0 := 0) rfl rfl rfl rfl hl.1 rfl (Nat.le_of_ble_eq_true rfl) dX8_lend_25 ⟨Nat.le_of_ble_eq_true rfl, Nat.le_of_ble_eq_true rfl⟩) hP hD hS hA (kJ_all) (fun _ => rfl) (fun r4 N2 H locs hw hP hD hS => ?_)
    obtain ⟨rfl, hN2⟩ := hw
    have hP : va_P D vwCl (wR Y b N2) H := hP
    have hD : va_D A (wR Y b N2) := hD
    exact kiret (N2) hQ hx hb hr hlocks hP hS dX8_lend_28 (by subst hN2; subst hN1; unfold mLend; rw [if_pos c2, nI_clamp (n := j) (by omega), nI_clamp (n := i) (by omega)]; exact ⟨rfl, rfl⟩)
  · refine lv_iload hx hb dX8_lend_14 (lv_at hl 0 rfl) ?_
    exact kiret (R) hQ hx hb hr hlocks hP hS dX8_lend_16 (by unfold mLend; rw [if_neg c2]; exact ⟨rfl, rfl⟩)
