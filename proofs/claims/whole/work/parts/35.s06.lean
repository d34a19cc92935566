set_option maxHeartbeats 4000000 in
set_option maxRecDepth 100000 in
theorem c_J0_checkIndex_df160 (l : Launch) (D : va_G) (Y : Nat → ClassId) (base : Nat) (ad av : Nat → Nat) (j n : Nat) (hj : j < n) (hn : n < 100) : kM l yJ0_checkIndex_df160 wJ0_checkIndex_df160 rJ0_checkIndex_df160 D Y ([]) [.int (nI j), .int (nI n)] (kX base ad av) (kQv D (fun (_ : Unit) => True) (fun _ => [])) := by
  refine kentryE (cc := cJ0_checkIndex_df160) (maxL := 2) (ret := none) (by decide +kernel) rfl (Nat.le_of_ble_eq_true rfl) ?_
  intro p e s0 m args below meth c A Q ls hA2 hQ hx hb hr hlocks hml hown hin hta hA hX0 hK hNs hP hD hS hl
  have hown : s0.vm.findClass RJ0 = some m.cls := hown
  have hl : lv_has ls 2 [(0, .int (nI j)), (1, .int (nI n))] := hl
  have hAb := kAb hA2 hX0.1 (kB0)
  have hE := hX0.2.narrow hAb
  refine lv_iload_n hx hb dJ0_checkIndex_df160_0 rfl (lv_at hl 0 rfl) ?_
  refine lv_iload_n hx hb dJ0_checkIndex_df160_1 rfl (lv_at hl 1 rfl) ?_
  rcases hE.2.2.2.1 with hz | ⟨t, hz⟩
  · refine va_gets hx hb hz hS hown (hta _ al_677) (fun _ h => h) dJ0_checkIndex_df160_2 ?_
    refine kc_i (krS (As := [.int (nI j), .int (nI n), .null]) (rest := []) (c_J3_checkIndex_8e157n l D Y j n hj hn) ⟨hx, hb, hml, hown, hta⟩ (cwJ0_1059 hta ⟨Nat.le_of_ble_eq_true rfl, Nat.le_of_ble_eq_true rfl⟩) kX0b (fun _ _ _ => trivial) hK hNs hP hD (kJ_nil) rfl hl.1 rfl (Nat.le_of_ble_eq_true rfl) dJ0_checkIndex_df160_5 ⟨Nat.le_of_ble_eq_true rfl, Nat.le_of_ble_eq_true rfl⟩) hP hD hS hA (kJ_nil) (fun _ => rfl) (fun r1 u H locs hw hP hD hS => ?_)
    subst hw
    have hP : va_P D vwCl ([]) H := hP
    have hD : va_D A ([]) := hD
    refine lv_pop hx hb dJ0_checkIndex_df160_8 rfl ?_
    exact kvret (()) hQ hx hb hr hlocks hP hS dJ0_checkIndex_df160_9 trivial
  · refine va_gets hx hb hz hS hown (hta _ al_677) (fun _ h => h) dJ0_checkIndex_df160_2 ?_
    refine kc_i (krS (As := [.int (nI j), .int (nI n), .ref t]) (rest := []) (c_J3_checkIndex_8e157r l D Y j n hj hn t) ⟨hx, hb, hml, hown, hta⟩ (cwJ0_1059 hta ⟨Nat.le_of_ble_eq_true rfl, Nat.le_of_ble_eq_true rfl⟩) kX0b (fun _ _ _ => trivial) hK hNs hP hD (kJ_nil) rfl hl.1 rfl (Nat.le_of_ble_eq_true rfl) dJ0_checkIndex_df160_5 ⟨Nat.le_of_ble_eq_true rfl, Nat.le_of_ble_eq_true rfl⟩) hP hD hS hA (kJ_nil) (fun _ => rfl) (fun r2 u H locs hw hP hD hS => ?_)
    subst hw
    have hP : va_P D vwCl ([]) H := hP
    have hD : va_D A ([]) := hD
    refine lv_pop hx hb dJ0_checkIndex_df160_8 rfl ?_
    exact kvret (()) hQ hx hb hr hlocks hP hS dJ0_checkIndex_df160_9 trivial
