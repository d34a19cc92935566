set_option maxHeartbeats 4000000 in
set_option maxRecDepth 100000 in
theorem c_X8_pass (l : Launch) (D : va_G) (Y : Nat → ClassId) (b : Nat → Nat) (R : kN) (d : Int32) (hZ : mX (R 0)) (hQ0 : mQ (R 0)) (hk : R 7 0 = nI (kp R) ∧ kp R ≤ 6) : kM l yX8_pass wX8_pass rX8_pass D Y (wR Y b R) [.ref (b 0), .int d] kX0 (kQi D (fun r u => r = (mPass R d).1 ∧ u = (mPass R d).2) (fun u => wR Y b u)) := by
  refine kentry (cc := cX8_pass) (maxL := 3) (ret := (some .int)) (by decide +kernel) rfl (Nat.le_of_ble_eq_true rfl) ?_
  intro p e s0 m args below meth c A Q ls hQ hx hb hr hlocks hml hown hin hta hA hX0 hK hNs hP hD hS hl
  have hown : s0.vm.findClass RX8 = some m.cls := hown
  have hl : lv_has ls 3 [(0, .ref (b 0)), (1, .int d)] := hl
  refine lv_aload_n hx hb dX8_pass_0 rfl (lv_at hl 0 rfl) ?_
  refine lv_iload_n hx hb dX8_pass_1 rfl (lv_at hl 1 rfl) ?_
  refine kc_i (krV (As := [.int d]) (rest := []) (c_X8_mayPass l D Y b R d) ⟨hx, hb, hml, hown, hta⟩ (cwX8_133 hta ⟨Nat.le_of_ble_eq_true rfl, Nat.le_of_ble_eq_true rfl⟩) kX0b (fun _ _ _ => trivial) hK hNs hP hD (kJ_all) (q0 := 0) rfl rfl rfl rfl hl.1 rfl (Nat.le_of_ble_eq_true rfl) dX8_pass_2 ⟨Nat.le_of_ble_eq_true rfl, Nat.le_of_ble_eq_true rfl⟩) hP hD hS hA (kJ_all) (fun _ => rfl) (fun r1 u H locs hw hP hD hS => ?_)
  subst hw
  have hP : va_P D vwCl (wR Y b R) H := hP
  have hD : va_D A (wR Y b R) := hD
  refine lv_istore_n (lv' := [(2, .int (mMayPass (R 0) d)), (0, .ref (b 0)), (1, .int d)]) hx hb dX8_pass_5 rfl hl (by decide) rfl (fun ls hl => ?_)
  refine lv_iload_n hx hb dX8_pass_6 rfl (lv_at hl 0 rfl) ?_
  refine lv_if_eq (tgt := 12) hx hb dX8_pass_7 (by decide) (fun c2 => ?_) (fun c2 => ?_)
  · have hl : lv_has ls 3 [(0, .ref (b 0)), (1, .int d)] := lv_sub hl [1, 2] rfl
    have hm := mMayPass_0 c2
    obtain ⟨j, je, jl, jh⟩ := pIn_nat hm (show (1 : Int32) = nI 1 from rfl) (show (99 : Int32) = nI 99 from rfl) (by omega) (by omega)
    subst je
    refine lv_aload_n hx hb dX8_pass_12 rfl (lv_at hl 0 rfl) ?_
    refine kc_v (krV (As := []) (rest := []) (c_X8_records l D Y b R hk) ⟨hx, hb, hml, hown, hta⟩ (cwX8_44 hta ⟨Nat.le_of_ble_eq_true rfl, Nat.le_of_ble_eq_true rfl⟩) kX0b (fun _ _ _ => trivial) hK hNs hP hD (kJ_all) (q0 := 0) rfl rfl rfl rfl hl.1 rfl (Nat.le_of_ble_eq_true rfl) dX8_pass_13 ⟨Nat.le_of_ble_eq_true rfl, Nat.le_of_ble_eq_true rfl⟩) hP hD hS hA (kJ_all) (fun _ => rfl) (fun N1 H locs hw hP hD hS => ?_)
    have hN1 := hw
    have hP : va_P D vwCl (wR Y b N1) H := hP
    have hD : va_D A (wR Y b N1) := hD
    have e0 : N1 0 = R 0 := by rw [hN1]; exact mRec_o R (by decide) (by decide)
    have hP : va_P D vwCl (wR Y b (sR N1 0 (R 0))) H := by rw [row0 e0]; exact hP
    have hD : va_D A (wR Y b (sR N1 0 (R 0))) := by rw [row0 e0]; exact hD
    refine lv_aload_n hx hb dX8_pass_16 rfl (lv_at hl 0 rfl) ?_
    refine gfX8_7 (v := .ref (b 1)) hx hb hta hown hK hP 0 rfl rfl dX8_pass_17 ?_
    refine lv_iload_n hx hb dX8_pass_20 rfl (lv_at hl 1 rfl) ?_
    refine lv_iconst (v := 0) hx hb dX8_pass_21 (by decide) ?_
    refine kc_v (krS (As := [.ref (b 1), .int (nI j), .int 0]) (rest := []) (c_X8_days l D Y (b 1) (R 0) j 0 hZ hQ0 (by omega)) ⟨hx, hb, hml, hown, hta⟩ (cwX8_137 hta ⟨Nat.le_of_ble_eq_true rfl, Nat.le_of_ble_eq_true rfl⟩) kX0b (fun _ _ _ => trivial) hK hNs hP hD (kJ_sub [1] rfl rfl) rfl hl.1 rfl (Nat.le_of_ble_eq_true rfl) dX8_pass_22 ⟨Nat.le_of_ble_eq_true rfl, Nat.le_of_ble_eq_true rfl⟩) hP hD hS hA (kJ_sub [1] rfl rfl) (fun _ => rfl) (fun N2 H locs hw hP hD hS => ?_)
    have hN2 := hw
    have hP : va_P D vwCl (wR Y b (sR N1 0 (N2))) H := hP
    have hD : va_D A (wR Y b (sR N1 0 (N2))) := hD
    refine lv_aload_n hx hb dX8_pass_25 rfl (lv_at hl 0 rfl) ?_
    refine gfX8_7 (v := .ref (b 1)) hx hb hta hown hK hP 0 rfl rfl dX8_pass_26 ?_
    refine lv_iconst (v := 0) hx hb dX8_pass_29 (by decide) ?_
    refine kiald (f := N2) hx hb hK hP 1 rfl 0 rfl (by omega) (by omega) dX8_pass_30 ?_
    exact kiret (sR N1 0 (N2)) hQ hx hb hr hlocks hP hS dX8_pass_31 (by subst hN2; subst hN1; unfold mPass; rw [if_pos c2, nI_clamp (by omega)]; exact ⟨rfl, rfl⟩)
  · refine lv_iload_n hx hb dX8_pass_10 rfl (lv_at hl 0 rfl) ?_
    exact kiret (R) hQ hx hb hr hlocks hP hS dX8_pass_11 (by unfold mPass; rw [if_neg c2]; exact ⟨rfl, rfl⟩)
