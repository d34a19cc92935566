set_option maxHeartbeats 4000000 in
set_option maxRecDepth 100000 in
theorem c_J1_charAt_3b067 (l : Launch) (D : va_G) (Y : Nat → ClassId) (base : Nat) (ad av : Nat → Nat) (i : Nat) (hi : i < 6) (j : Nat) (hj : j < kLen.getD i 0) : kM l yJ1_charAt_3b067 wJ1_charAt_3b067 rJ1_charAt_3b067 D Y ([]) [.ref (av i), .int (nI j)] (kX base ad av) (kQi D (fun r (_ : Unit) => r = (kByt.getD i []).getD j 0) (fun _ => [])) := by
  refine kentryE (cc := cJ1_charAt_3b067) (maxL := 2) (ret := (some .char)) (by decide +kernel) rfl (Nat.le_of_ble_eq_true rfl) ?_
  intro p e s0 m args below meth c A Q ls hA2 hQ hx hb hr hlocks hml hown hin hta hA hX0 hK hNs hP hD hS hl
  have hown : s0.vm.findClass RJ1 = some m.cls := hown
  have hl : lv_has ls 2 [(0, .ref (av i)), (1, .int (nI j))] := hl
  have hAb := kAb hA2 hX0.1 (kB0)
  have hE := hX0.2.narrow hAb
  refine lv_iload_n hx hb dJ1_charAt_3b067_0 rfl (lv_at hl 1 rfl) ?_
  refine lv_aload_n hx hb dJ1_charAt_3b067_1 rfl (lv_at hl 0 rfl) ?_
  refine va_tlen (v := nI (kLen.getD i 0)) hx hb (hE.1.1 i hi).2.2.2 hS rfl dJ1_charAt_3b067_2 ?_
  refine kc_v (krS (As := [.int (nI j), .int (nI (kLen.getD i 0))]) (rest := []) (c_J0_checkIndex_df160 l D Y base ad av j (kLen.getD i 0) hj (kLen99 i)) ⟨hx, hb, hml, hown, hta⟩ (cwJ1_9 hta ⟨Nat.le_of_ble_eq_true rfl, Nat.le_of_ble_eq_true rfl⟩) kXb_E (kX_go hX0 hS hAb) hK hNs hP hD (kJ_nil) rfl hl.1 rfl (Nat.le_of_ble_eq_true rfl) dJ1_charAt_3b067_3 ⟨Nat.le_of_ble_eq_true rfl, Nat.le_of_ble_eq_true rfl⟩) hP hD hS hA (kJ_nil) (fun _ => rfl) (fun u H locs hw hP hD hS => ?_)
  have hP : va_P D vwCl ([]) H := hP
  have hD : va_D A ([]) := hD
  refine lv_aload_n hx hb dJ1_charAt_3b067_6 rfl (lv_at hl 0 rfl) ?_
  refine lv_iload_n hx hb dJ1_charAt_3b067_7 rfl (lv_at hl 1 rfl) ?_
  refine va_tb (v := .int ((kByt.getD i []).getD j 0)) hx hb (hE.1.1 i hi).2.2.2 hS (vp_in_nI hj (by have := kLen9 i; omega)) (by rw [nI_clamp (by have := kLen9 i; omega)]) dJ1_charAt_3b067_8 ?_
  refine lv_sipush (v := 255) hx hb dJ1_charAt_3b067_9 (by decide) ?_
  refine lv_iand hx hb dJ1_charAt_3b067_12 ?_
  refine lv_i2c (v := (kByt.getD i []).getD j 0) hx hb dJ1_charAt_3b067_13 (kByt_c hi hj) ?_
  exact knret (()) hQ hx hb hr hlocks hP hS dJ1_charAt_3b067_14 (kByt_n hi hj) rfl
