set_option maxHeartbeats 4000000 in
set_option maxRecDepth 100000 in
theorem c_X8_tries (l : Launch) (D : va_G) (Y : Nat → ClassId) (b : Nat → Nat) (R : kN) (s : kS) (mn : Nat) (idle : Int32) (hZ : mX s) (hQ0 : mQ s) (hmn : mn < 2 ^ 31) : kM l yX8_tries wX8_tries rX8_tries D Y (wR Y b (sR R 1 (s))) [.ref (b 0), .int (nI mn), .int idle] kX0 (kQv D (fun u => u = mDays s idle mn) (fun u => wR Y b (sR R 1 u))) := by
  refine kentry (cc := cX8_tries) (maxL := 3) (ret := none) (by decide +kernel) rfl (Nat.le_of_ble_eq_true rfl) ?_
  intro p e s0 m args below meth c A Q ls hQ hx hb hr hlocks hml hown hin hta hA hX0 hK hNs hP hD hS hl
  have hown : s0.vm.findClass RX8 = some m.cls := hown
  have hl : lv_has ls 3 [(0, .ref (b 0)), (1, .int (nI mn)), (2, .int idle)] := hl
  refine lv_aload_n hx hb dX8_tries_0 rfl (lv_at hl 0 rfl) ?_
  refine gfX8_13 (v := .ref (b 2)) hx hb hta hown hK hP 0 rfl rfl dX8_tries_1 ?_
  refine lv_iload_n hx hb dX8_tries_4 rfl (lv_at hl 1 rfl) ?_
  refine lv_iload_n hx hb dX8_tries_5 rfl (lv_at hl 2 rfl) ?_
  refine kc_v (krS (As := [.ref (b 2), .int (nI mn), .int idle]) (rest := []) (c_X8_days l D Y (b 2) s mn idle hZ hQ0 (by omega)) ⟨hx, hb, hml, hown, hta⟩ (cwX8_137 hta ⟨Nat.le_of_ble_eq_true rfl, Nat.le_of_ble_eq_true rfl⟩) kX0b (fun _ _ _ => trivial) hK hNs hP hD (kJ_sub [2] rfl rfl) rfl hl.1 rfl (Nat.le_of_ble_eq_true rfl) dX8_tries_6 ⟨Nat.le_of_ble_eq_true rfl, Nat.le_of_ble_eq_true rfl⟩) hP hD hS hA (kJ_sub [2] rfl rfl) (fun _ => rfl) (fun u H locs hw hP hD hS => ?_)
  subst hw
  have hP : va_P D vwCl (wR Y b (sR R 1 (mDays s idle mn))) H := hP
  have hD : va_D A (wR Y b (sR R 1 (mDays s idle mn))) := hD
  exact kvret (mDays s idle mn) hQ hx hb hr hlocks hP hS dX8_tries_9 rfl
