set_option maxHeartbeats 4000000 in
set_option maxRecDepth 100000 in
theorem c_X8_next (l : Launch) (D : va_G) (Y : Nat → ClassId) (b : Nat → Nat) (R : kN) (hZ : mX (R 0)) : kM l yX8_next wX8_next rX8_next D Y (wR Y b R) [.ref (b 0)] kX0 (kQi D (fun r (_ : Unit) => r = oI (mNextO (R 0))) (fun _ => wR Y b R)) := by
  refine kentry (cc := cX8_next) (maxL := 1) (ret := (some .int)) (by decide +kernel) rfl (Nat.le_of_ble_eq_true rfl) ?_
  intro p e s0 m args below meth c A Q ls hQ hx hb hr hlocks hml hown hin hta hA hX0 hK hNs hP hD hS hl
  have hown : s0.vm.findClass RX8 = some m.cls := hown
  have hl : lv_has ls 1 [(0, .ref (b 0))] := hl
  refine lv_aload_n hx hb dX8_next_0 rfl (lv_at hl 0 rfl) ?_
  refine gfX8_7 (v := .ref (b 1)) hx hb hta hown hK hP 0 rfl rfl dX8_next_1 ?_
  refine kc_i (krS (As := [.ref (b 1)]) (rest := []) (c_X8_nextField l D Y (b 1) (R 0) hZ) ⟨hx, hb, hml, hown, hta⟩ (cwX8_78 hta ⟨Nat.le_of_ble_eq_true rfl, Nat.le_of_ble_eq_true rfl⟩) kX0b (fun _ _ _ => trivial) hK hNs hP hD (kJ_sub [1] rfl rfl) rfl hl.1 rfl (Nat.le_of_ble_eq_true rfl) dX8_next_4 ⟨Nat.le_of_ble_eq_true rfl, Nat.le_of_ble_eq_true rfl⟩) hP hD hS hA (kJ_sub [1] rfl rfl) (fun _ => rfl) (fun r1 u H locs hw hP hD hS => ?_)
  subst hw
  have hP : va_P D vwCl (wR Y b R) H := hP
  have hD : va_D A (wR Y b R) := hD
  exact kiret (()) hQ hx hb hr hlocks hP hS dX8_next_7 rfl
