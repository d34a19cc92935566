set_option maxHeartbeats 4000000 in
set_option maxRecDepth 100000 in
theorem c_X3_copyFrom (l : Launch) (D : va_G) (Y : Nat → ClassId) (b : Nat → Nat) (N : kN) (a : Nat → Nat) (M : kN) (hI : cI N) : kM l yX3_copyFrom wX3_copyFrom rX3_copyFrom D Y (wM Y b N ++ wM Y a M) [.ref (a 0), .ref (b 0)] kX0 (kQv D (fun u => u = cCopy N M) (fun u => wM Y b N ++ wM Y a u)) := by
  refine kentry (cc := cX3_copyFrom) (maxL := 2) (ret := none) (by decide +kernel) rfl (Nat.le_of_ble_eq_true rfl) ?_
  intro p e s m args below meth c A Q ls hQ hx hb hr hlocks hml hown hin hta hA hX hK hNs hP hD hS hl
  have hown : s.vm.findClass RX3 = some m.cls := hown
  have hl : lv_has ls 2 [(0, .ref (a 0)), (1, .ref (b 0))] := hl
  refine lv_aload_n hx hb dX3_copyFrom_0 rfl (lv_at hl 1 rfl) ?_
  refine gfX3_9 (v := .ref (b 1)) hx hb hta hown hK hP 0 rfl rfl dX3_copyFrom_1 ?_
  refine lv_aload_n hx hb dX3_copyFrom_4 rfl (lv_at hl 0 rfl) ?_
  refine gfX3_9 (v := .ref (a 1)) hx hb hta hown hK hP 24 rfl rfl dX3_copyFrom_5 ?_
  refine lv_bipush (v := 7) hx hb dX3_copyFrom_8 (by decide) ?_
  refine kc_v (krSN (As := [.ref (b 1), .ref (a 1), .int 7]) (rest := []) (c_X7_copyRow l D Y (b 1) 7 (N 0) (a 1) 7 (M 0) 7 (by omega) (by omega) (by omega) (by omega)) ⟨hx, hb, hml, hown, hta⟩ (cwX3_43 hta hNs ⟨Nat.le_of_ble_eq_true rfl, Nat.le_of_ble_eq_true rfl⟩) kX0b (fun _ _ _ => trivial) hK hNs hP hD (kJ_sub [1, 25] rfl rfl) rfl hl.1 rfl (Nat.le_of_ble_eq_true rfl) dX3_copyFrom_10 ⟨Nat.le_of_ble_eq_true rfl, Nat.le_of_ble_eq_true rfl⟩) hP hD hS hA (kJ_sub [1, 25] rfl rfl) (fun _ => rfl) (fun u H locs hw hP hD hS => ?_)
  have hP : va_P D vwCl (wM Y b N ++ wM Y a (sR M 0 (kcp (N 0) (M 0) 7))) H := hP
  have hD : va_D A (wM Y b N ++ wM Y a (sR M 0 (kcp (N 0) (M 0) 7))) := hD
  refine lv_aload_n hx hb dX3_copyFrom_13 rfl (lv_at hl 0 rfl) ?_
  refine gfX3_18 (v := .ref (a 2)) hx hb hta hown hK hP 24 rfl rfl dX3_copyFrom_14 ?_
  refine lv_aload_n hx hb dX3_copyFrom_17 rfl (lv_at hl 1 rfl) ?_
  refine gfX3_18 (v := .ref (b 2)) hx hb hta hown hK hP 0 rfl rfl dX3_copyFrom_18 ?_
  refine kc_v (krV (As := [.ref (b 2)]) (rest := []) (c_X1_copyFrom l D Y b N a (sR M 0 (kcp (N 0) (M 0) 7))) ⟨hx, hb, hml, hown, hta⟩ (cwX3_47 hta ⟨Nat.le_of_ble_eq_true rfl, Nat.le_of_ble_eq_true rfl⟩) kX0b (fun _ _ _ => trivial) hK hNs hP hD (kJ_all) (q0 := 26) rfl rfl rfl rfl hl.1 rfl (Nat.le_of_ble_eq_true rfl) dX3_copyFrom_21 ⟨Nat.le_of_ble_eq_true rfl, Nat.le_of_ble_eq_true rfl⟩) hP hD hS hA (kJ_all) (fun _ => rfl) (fun N1 H locs hw hP hD hS => ?_)
  have hN1 := hw
  have hP : va_P D vwCl (wM Y b N ++ wM Y a N1) H := hP
  have hD : va_D A (wM Y b N ++ wM Y a N1) := hD
  refine lv_aload_n hx hb dX3_copyFrom_24 rfl (lv_at hl 0 rfl) ?_
  refine gfX3_25 (v := .ref (a 8)) hx hb hta hown hK hP 24 rfl rfl dX3_copyFrom_25 ?_
  refine lv_aload_n hx hb dX3_copyFrom_28 rfl (lv_at hl 1 rfl) ?_
  refine gfX3_25 (v := .ref (b 8)) hx hb hta hown hK hP 0 rfl rfl dX3_copyFrom_29 ?_
  refine kc_v (krV (As := [.ref (b 8)]) (rest := []) (c_X0_copyFrom l D Y b N a N1 hI) ⟨hx, hb, hml, hown, hta⟩ (cwX3_51 hta ⟨Nat.le_of_ble_eq_true rfl, Nat.le_of_ble_eq_true rfl⟩) kX0b (fun _ _ _ => trivial) hK hNs hP hD (kJ_all) (q0 := 32) rfl rfl rfl rfl hl.1 rfl (Nat.le_of_ble_eq_true rfl) dX3_copyFrom_32 ⟨Nat.le_of_ble_eq_true rfl, Nat.le_of_ble_eq_true rfl⟩) hP hD hS hA (kJ_all) (fun _ => rfl) (fun N2 H locs hw hP hD hS => ?_)
  have hN2 := hw
  have hP : va_P D vwCl (wM Y b N ++ wM Y a N2) H := hP
  have hD : va_D A (wM Y b N ++ wM Y a N2) := hD
  refine lv_aload_n hx hb dX3_copyFrom_35 rfl (lv_at hl 0 rfl) ?_
  refine gfX3_32 (v := .ref (a 17)) hx hb hta hown hK hP 24 rfl rfl dX3_copyFrom_36 ?_
  refine lv_aload_n hx hb dX3_copyFrom_39 rfl (lv_at hl 1 rfl) ?_
  refine gfX3_32 (v := .ref (b 17)) hx hb hta hown hK hP 0 rfl rfl dX3_copyFrom_40 ?_
  refine kc_v (krV (As := [.ref (b 17)]) (rest := []) (c_X5_copyFrom l D Y b N a N2 hI) ⟨hx, hb, hml, hown, hta⟩ (cwX3_54 hta ⟨Nat.le_of_ble_eq_true rfl, Nat.le_of_ble_eq_true rfl⟩) kX0b (fun _ _ _ => trivial) hK hNs hP hD (kJ_all) (q0 := 41) rfl rfl rfl rfl hl.1 rfl (Nat.le_of_ble_eq_true rfl) dX3_copyFrom_43 ⟨Nat.le_of_ble_eq_true rfl, Nat.le_of_ble_eq_true rfl⟩) hP hD hS hA (kJ_all) (fun _ => rfl) (fun N3 H locs hw hP hD hS => ?_)
  have hN3 := hw
  have hP : va_P D vwCl (wM Y b N ++ wM Y a N3) H := hP
  have hD : va_D A (wM Y b N ++ wM Y a N3) := hD
  refine lv_aload_n hx hb dX3_copyFrom_46 rfl (lv_at hl 0 rfl) ?_
  refine gfX3_39 (v := .ref (a 20)) hx hb hta hown hK hP 24 rfl rfl dX3_copyFrom_47 ?_
  refine lv_aload_n hx hb dX3_copyFrom_50 rfl (lv_at hl 1 rfl) ?_
  refine gfX3_39 (v := .ref (b 20)) hx hb hta hown hK hP 0 rfl rfl dX3_copyFrom_51 ?_
  refine kc_v (krV (As := [.ref (b 20)]) (rest := []) (c_X6_copyFrom l D Y b N a N3 hI) ⟨hx, hb, hml, hown, hta⟩ (cwX3_57 hta ⟨Nat.le_of_ble_eq_true rfl, Nat.le_of_ble_eq_true rfl⟩) kX0b (fun _ _ _ => trivial) hK hNs hP hD (kJ_all) (q0 := 44) rfl rfl rfl rfl hl.1 rfl (Nat.le_of_ble_eq_true rfl) dX3_copyFrom_54 ⟨Nat.le_of_ble_eq_true rfl, Nat.le_of_ble_eq_true rfl⟩) hP hD hS hA (kJ_all) (fun _ => rfl) (fun N4 H locs hw hP hD hS => ?_)
  have hN4 := hw
  have hP : va_P D vwCl (wM Y b N ++ wM Y a N4) H := hP
  have hD : va_D A (wM Y b N ++ wM Y a N4) := hD
  refine lv_aload_n hx hb dX3_copyFrom_57 rfl (lv_at hl 0 rfl) ?_
  refine lv_aload_n hx hb dX3_copyFrom_58 rfl (lv_at hl 1 rfl) ?_
  refine gfX3_60 (v := .int (N 19 0)) hx hb hta hown hK hP 0 rfl rfl dX3_copyFrom_59 ?_
  refine pfX3_60 (ws1 := wM Y b N ++ wM Y a (sM N4 19 0 (N 19 0))) hx hb hta hown hK hP hD hS 24 rfl (Nat.le_of_ble_eq_true rfl) rfl dX3_copyFrom_62 (fun H locs hP hD hS => ?_)
  refine lv_aload_n hx hb dX3_copyFrom_65 rfl (lv_at hl 0 rfl) ?_
  refine lv_aload_n hx hb dX3_copyFrom_66 rfl (lv_at hl 1 rfl) ?_
  refine gfX3_64 (v := .int (N 19 1)) hx hb hta hown hK hP 0 rfl rfl dX3_copyFrom_67 ?_
  refine pfX3_64 (ws1 := wM Y b N ++ wM Y a (sM (sM N4 19 0 (N 19 0)) 19 1 (N 19 1))) hx hb hta hown hK hP hD hS 24 rfl (Nat.le_of_ble_eq_true rfl) rfl dX3_copyFrom_70 (fun H locs hP hD hS => ?_)
  refine lv_aload_n hx hb dX3_copyFrom_73 rfl (lv_at hl 0 rfl) ?_
  refine lv_aload_n hx hb dX3_copyFrom_74 rfl (lv_at hl 1 rfl) ?_
  refine gfX3_67 (v := .int (N 19 2)) hx hb hta hown hK hP 0 rfl rfl dX3_copyFrom_75 ?_
  refine pfX3_67 (ws1 := wM Y b N ++ wM Y a (sM (sM (sM N4 19 0 (N 19 0)) 19 1 (N 19 1)) 19 2 (N 19 2))) hx hb hta hown hK hP hD hS 24 rfl (Nat.le_of_ble_eq_true rfl) rfl dX3_copyFrom_78 (fun H locs hP hD hS => ?_)
  refine lv_aload_n hx hb dX3_copyFrom_81 rfl (lv_at hl 0 rfl) ?_
  refine lv_aload_n hx hb dX3_copyFrom_82 rfl (lv_at hl 1 rfl) ?_
  refine gfX3_70 (v := .int (N 19 3)) hx hb hta hown hK hP 0 rfl rfl dX3_copyFrom_83 ?_
  refine pfX3_70 (ws1 := wM Y b N ++ wM Y a (sM (sM (sM (sM N4 19 0 (N 19 0)) 19 1 (N 19 1)) 19 2 (N 19 2)) 19 3 (N 19 3))) hx hb hta hown hK hP hD hS 24 rfl (Nat.le_of_ble_eq_true rfl) rfl dX3_copyFrom_86 (fun H locs hP hD hS => ?_)
  exact kvret (sM (sM (sM (sM N4 19 0 (N 19 0)) 19 1 (N 19 1)) 19 2 (N 19 2)) 19 3 (N 19 3)) hQ hx hb hr hlocks hP hS dX3_copyFrom_89 (by subst hN1; subst hN2; subst hN3; subst hN4; rfl)
