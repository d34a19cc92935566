set_option maxHeartbeats 4000000 in
set_option maxRecDepth 100000 in
theorem c_X8_isGrower (l : Launch) (D : va_G) (Y : Nat → ClassId) (v : Int32) : kM l yX8_isGrower wX8_isGrower rX8_isGrower D Y ([]) [.int v] kX0 (kQi D (fun r (_ : Unit) => r = kb (pIn v 0 5)) (fun _ => [])) := by
  refine kentry (cc := cX8_isGrower) (maxL := 1) (ret := (some .boolean)) (by decide +kernel) rfl (Nat.le_of_ble_eq_true rfl) ?_
  intro p e s m args below meth c A Q ls hQ hx hb hr hlocks hml hown hin hta hA hX hK hNs hP hD hS hl
  have hown : s.vm.findClass RX8 = some m.cls := hown
  have hl : lv_has ls 1 [(0, .int v)] := hl
  refine lv_iload_n hx hb dX8_isGrower_0 rfl (lv_at hl 0 rfl) ?_
  refine lv_iconst (v := 0) hx hb dX8_isGrower_1 (by decide) ?_
  refine lv_iconst (v := 5) hx hb dX8_isGrower_2 (by decide) ?_
  refine kc_i (krS (As := [.int v, .int 0, .int 5]) (rest := []) (c_X8_in l D Y v 0 5) ⟨hx, hb, hml, hown, hta⟩ (cwX8_32 hta ⟨Nat.le_of_ble_eq_true rfl, Nat.le_of_ble_eq_true rfl⟩) kX0b (fun _ _ _ => trivial) hK hNs hP hD (kJ_nil) rfl hl.1 rfl (Nat.le_of_ble_eq_true rfl) dX8_isGrower_3 ⟨Nat.le_of_ble_eq_true rfl, Nat.le_of_ble_eq_true rfl⟩) hP hD hS hA (kJ_nil) (fun _ => rfl) (fun r1 u H locs hw hP hD hS => ?_)
  subst hw
  have hP : va_P D vwCl ([]) H := hP
  have hD : va_D A ([]) := hD
  exact kzret (()) hQ hx hb hr hlocks hP hS dX8_isGrower_6 (by first | exact Or.inl rfl | exact Or.inr rfl | exact kb_01 _) rfl
