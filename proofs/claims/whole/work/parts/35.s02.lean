set_option maxHeartbeats 4000000 in
set_option maxRecDepth 100000 in
theorem c_J0_length_8abf5 (l : Launch) (D : va_G) (Y : Nat → ClassId) (base : Nat) (ad av : Nat → Nat) (i : Nat) (hi : i < 6) : kM l yJ0_length_8abf5 wJ0_length_8abf5 rJ0_length_8abf5 D Y ([]) [.ref (ad i)] (kX base ad av) (kQi D (fun r (_ : Unit) => r = nI (kLen.getD i 0)) (fun _ => [])) := by
  refine kentryE (cc := cJ0_length_8abf5) (maxL := 1) (ret := (some .int)) (by decide +kernel) rfl (Nat.le_of_ble_eq_true rfl) ?_
  intro p e s0 m args below meth c A Q ls hA2 hQ hx hb hr hlocks hml hown hin hta hA hX0 hK hNs hP hD hS hl
  have hown : s0.vm.findClass RJ0 = some m.cls := hown
  have hl : lv_has ls 1 [(0, .ref (ad i))] := hl
  have hAb := kAb hA2 hX0.1 (kB0)
  have hE := hX0.2.narrow hAb
  refine lv_aload_n hx hb dJ0_length_8abf5_0 rfl (lv_at hl 0 rfl) ?_
  refine vk_getf hx hb (hE.1.1 i hi).2.2.1 hS hown (hta _ al_651) (fun _ h => h) dJ0_length_8abf5_1 ?_
  refine va_tlen (v := nI (kLen.getD i 0)) hx hb (hE.1.1 i hi).2.2.2 hS rfl dJ0_length_8abf5_4 ?_
  refine lv_aload_n hx hb dJ0_length_8abf5_5 rfl (lv_at hl 0 rfl) ?_
  refine kc_i (krVE (As := []) (rest := [.int (nI (kLen.getD i 0))]) (c_J0_coder_7d493 l D Y base ad av i hi) ⟨hx, hb, hml, hown, hta⟩ (cwJ0_335 hta ⟨Nat.le_of_ble_eq_true rfl, Nat.le_of_ble_eq_true rfl⟩) kXb_E (kX_go hX0 hS hAb) hK hNs hP hD (kJ_nil) (vk_recv hE.1 hi hS) rfl hl.1 rfl (Nat.le_of_ble_eq_true rfl) dJ0_length_8abf5_6 ⟨Nat.le_of_ble_eq_true rfl, Nat.le_of_ble_eq_true rfl⟩) hP hD hS hA (kJ_nil) (fun _ => rfl) (fun r1 u H locs hw hP hD hS => ?_)
  subst hw
  have hP : va_P D vwCl ([]) H := hP
  have hD : va_D A ([]) := hD
  refine lv_ishr hx hb dJ0_length_8abf5_9 ?_
  refine kTop (kshr0 i) ?_
  exact kiret (()) hQ hx hb hr hlocks hP hS dJ0_length_8abf5_10 rfl
