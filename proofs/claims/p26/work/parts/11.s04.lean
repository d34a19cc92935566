set_option maxHeartbeats 4000000 in
set_option maxRecDepth 100000 in
theorem c_X1_totalPaid (l : Launch) (D : va_G) (Y : Nat → ClassId) (a : Nat → Nat) (M : kN) : kM l yX1_totalPaid wX1_totalPaid rX1_totalPaid D Y (wM Y a M) [.ref (a 2)] kX0 (kQi D (fun r (_ : Unit) => r = sTo (M 5) 6) (fun _ => wM Y a M)) := by
  refine kentry (cc := cX1_totalPaid) (maxL := 1) (ret := (some .int)) (by decide +kernel) rfl (Nat.le_of_ble_eq_true rfl) ?_
  intro p e s m args below meth c A Q ls hQ hx hb hr hlocks hml hown hin hta hA hX hK hNs hP hD hS hl
  have hown : s.vm.findClass RX1 = some m.cls := hown
  have hl : lv_has ls 1 [(0, .ref (a 2))] := hl
  refine lv_aload_n hx hb dX1_totalPaid_0 rfl (lv_at hl 0 rfl) ?_
  refine gfX1_24 (v := .ref (a 7)) hx hb hta hown hK hP 2 rfl rfl dX1_totalPaid_1 ?_
  refine kc_i (krSN (As := [.ref (a 7)]) (rest := []) (c_X7_sumOf l D Y (a 7) 6 (M 5) (by omega)) ⟨hx, hb, hml, hown, hta⟩ (cwX1_31 hta hNs ⟨Nat.le_of_ble_eq_true rfl, Nat.le_of_ble_eq_true rfl⟩) kX0b (fun _ _ _ => trivial) hK hNs hP hD (kJ_sub [7] rfl rfl) rfl hl.1 rfl (Nat.le_of_ble_eq_true rfl) dX1_totalPaid_4 ⟨Nat.le_of_ble_eq_true rfl, Nat.le_of_ble_eq_true rfl⟩) hP hD hS hA (kJ_sub [7] rfl rfl) (fun _ => rfl) (fun r1 u H locs hw hP hD hS => ?_)
  subst hw
  have hP : va_P D vwCl (wM Y a M) H := hP
  have hD : va_D A (wM Y a M) := hD
  exact kiret (()) hQ hx hb hr hlocks hP hS dX1_totalPaid_7 rfl
