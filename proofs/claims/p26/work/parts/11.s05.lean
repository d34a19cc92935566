set_option maxHeartbeats 4000000 in
set_option maxRecDepth 100000 in
theorem c_X1_copyFrom (l : Launch) (D : va_G) (Y : Nat → ClassId) (b : Nat → Nat) (N : kN) (a : Nat → Nat) (M : kN) : kM l yX1_copyFrom wX1_copyFrom rX1_copyFrom D Y (wM Y b N ++ wM Y a M) [.ref (a 2), .ref (b 2)] kX0 (kQv D (fun u => u = cCopyG N M) (fun u => wM Y b N ++ wM Y a u)) := by
  refine kentry (cc := cX1_copyFrom) (maxL := 2) (ret := none) (by decide +kernel) rfl (Nat.le_of_ble_eq_true rfl) ?_
  intro p e s m args below meth c A Q ls hQ hx hb hr hlocks hml hown hin hta hA hX hK hNs hP hD hS hl
  have hown : s.vm.findClass RX1 = some m.cls := hown
  have hl : lv_has ls 2 [(0, .ref (a 2)), (1, .ref (b 2))] := hl
  refine lv_aload_n hx hb dX1_copyFrom_0 rfl (lv_at hl 1 rfl) ?_
  refine gfX1_9 (v := .ref (b 3)) hx hb hta hown hK hP 2 rfl rfl dX1_copyFrom_1 ?_
  refine lv_aload_n hx hb dX1_copyFrom_4 rfl (lv_at hl 0 rfl) ?_
  refine gfX1_9 (v := .ref (a 3)) hx hb hta hown hK hP 26 rfl rfl dX1_copyFrom_5 ?_
  refine lv_bipush (v := 6) hx hb dX1_copyFrom_8 (by decide) ?_
  refine kc_v (krSN (As := [.ref (b 3), .ref (a 3), .int 6]) (rest := []) (c_X7_copyRow l D Y (b 3) 6 (N 1) (a 3) 6 (M 1) 6 (by omega) (by omega) (by omega) (by omega)) ⟨hx, hb, hml, hown, hta⟩ (cwX1_27 hta hNs ⟨Nat.le_of_ble_eq_true rfl, Nat.le_of_ble_eq_true rfl⟩) kX0b (fun _ _ _ => trivial) hK hNs hP hD (kJ_sub [3, 27] rfl rfl) rfl hl.1 rfl (Nat.le_of_ble_eq_true rfl) dX1_copyFrom_10 ⟨Nat.le_of_ble_eq_true rfl, Nat.le_of_ble_eq_true rfl⟩) hP hD hS hA (kJ_sub [3, 27] rfl rfl) (fun _ => rfl) (fun u H locs hw hP hD hS => ?_)
  have hP : va_P D vwCl (wM Y b N ++ wM Y a (sR M 1 (kcp (N 1) (M 1) 6))) H := hP
  have hD : va_D A (wM Y b N ++ wM Y a (sR M 1 (kcp (N 1) (M 1) 6))) := hD
  refine lv_aload_n hx hb dX1_copyFrom_13 rfl (lv_at hl 1 rfl) ?_
  refine gfX1_15 (v := .ref (b 4)) hx hb hta hown hK hP 2 rfl rfl dX1_copyFrom_14 ?_
  refine lv_aload_n hx hb dX1_copyFrom_17 rfl (lv_at hl 0 rfl) ?_
  refine gfX1_15 (v := .ref (a 4)) hx hb hta hown hK hP 26 rfl rfl dX1_copyFrom_18 ?_
  refine lv_bipush (v := 6) hx hb dX1_copyFrom_21 (by decide) ?_
  refine kc_v (krSN (As := [.ref (b 4), .ref (a 4), .int 6]) (rest := []) (c_X7_copyRow l D Y (b 4) 6 (N 2) (a 4) 6 (M 2) 6 (by omega) (by omega) (by omega) (by omega)) ⟨hx, hb, hml, hown, hta⟩ (cwX1_27 hta hNs ⟨Nat.le_of_ble_eq_true rfl, Nat.le_of_ble_eq_true rfl⟩) kX0b (fun _ _ _ => trivial) hK hNs hP hD (kJ_sub [4, 28] rfl rfl) rfl hl.1 rfl (Nat.le_of_ble_eq_true rfl) dX1_copyFrom_23 ⟨Nat.le_of_ble_eq_true rfl, Nat.le_of_ble_eq_true rfl⟩) hP hD hS hA (kJ_sub [4, 28] rfl rfl) (fun _ => rfl) (fun u H locs hw hP hD hS => ?_)
  have hP : va_P D vwCl (wM Y b N ++ wM Y a (sR (sR M 1 (kcp (N 1) (M 1) 6)) 2 (kcp (N 2) (M 2) 6))) H := hP
  have hD : va_D A (wM Y b N ++ wM Y a (sR (sR M 1 (kcp (N 1) (M 1) 6)) 2 (kcp (N 2) (M 2) 6))) := hD
  refine lv_aload_n hx hb dX1_copyFrom_26 rfl (lv_at hl 1 rfl) ?_
  refine gfX1_18 (v := .ref (b 5)) hx hb hta hown hK hP 2 rfl rfl dX1_copyFrom_27 ?_
  refine lv_aload_n hx hb dX1_copyFrom_30 rfl (lv_at hl 0 rfl) ?_
  refine gfX1_18 (v := .ref (a 5)) hx hb hta hown hK hP 26 rfl rfl dX1_copyFrom_31 ?_
  refine lv_bipush (v := 6) hx hb dX1_copyFrom_34 (by decide) ?_
  refine kc_v (krSN (As := [.ref (b 5), .ref (a 5), .int 6]) (rest := []) (c_X7_copyRow l D Y (b 5) 6 (N 3) (a 5) 6 (M 3) 6 (by omega) (by omega) (by omega) (by omega)) ⟨hx, hb, hml, hown, hta⟩ (cwX1_27 hta hNs ⟨Nat.le_of_ble_eq_true rfl, Nat.le_of_ble_eq_true rfl⟩) kX0b (fun _ _ _ => trivial) hK hNs hP hD (kJ_sub [5, 29] rfl rfl) rfl hl.1 rfl (Nat.le_of_ble_eq_true rfl) dX1_copyFrom_36 ⟨Nat.le_of_ble_eq_true rfl, Nat.le_of_ble_eq_true rfl⟩) hP hD hS hA (kJ_sub [5, 29] rfl rfl) (fun _ => rfl) (fun u H locs hw hP hD hS => ?_)
  have hP : va_P D vwCl (wM Y b N ++ wM Y a (sR (sR (sR M 1 (kcp (N 1) (M 1) 6)) 2 (kcp (N 2) (M 2) 6)) 3 (kcp (N 3) (M 3) 6))) H := hP
  have hD : va_D A (wM Y b N ++ wM Y a (sR (sR (sR M 1 (kcp (N 1) (M 1) 6)) 2 (kcp (N 2) (M 2) 6)) 3 (kcp (N 3) (M 3) 6))) := hD
  refine lv_aload_n hx hb dX1_copyFrom_39 rfl (lv_at hl 1 rfl) ?_
  refine gfX1_21 (v := .ref (b 6)) hx hb hta hown hK hP 2 rfl rfl dX1_copyFrom_40 ?_
  refine lv_aload_n hx hb dX1_copyFrom_43 rfl (lv_at hl 0 rfl) ?_
  refine gfX1_21 (v := .ref (a 6)) hx hb hta hown hK hP 26 rfl rfl dX1_copyFrom_44 ?_
  refine lv_bipush (v := 6) hx hb dX1_copyFrom_47 (by decide) ?_
  refine kc_v (krSN (As := [.ref (b 6), .ref (a 6), .int 6]) (rest := []) (c_X7_copyRow l D Y (b 6) 6 (N 4) (a 6) 6 (M 4) 6 (by omega) (by omega) (by omega) (by omega)) ⟨hx, hb, hml, hown, hta⟩ (cwX1_27 hta hNs ⟨Nat.le_of_ble_eq_true rfl, Nat.le_of_ble_eq_true rfl⟩) kX0b (fun _ _ _ => trivial) hK hNs hP hD (kJ_sub [6, 30] rfl rfl) rfl hl.1 rfl (Nat.le_of_ble_eq_true rfl) dX1_copyFrom_49 ⟨Nat.le_of_ble_eq_true rfl, Nat.le_of_ble_eq_true rfl⟩) hP hD hS hA (kJ_sub [6, 30] rfl rfl) (fun _ => rfl) (fun u H locs hw hP hD hS => ?_)
  have hP : va_P D vwCl (wM Y b N ++ wM Y a (sR (sR (sR (sR M 1 (kcp (N 1) (M 1) 6)) 2 (kcp (N 2) (M 2) 6)) 3 (kcp (N 3) (M 3) 6)) 4 (kcp (N 4) (M 4) 6))) H := hP
  have hD : va_D A (wM Y b N ++ wM Y a (sR (sR (sR (sR M 1 (kcp (N 1) (M 1) 6)) 2 (kcp (N 2) (M 2) 6)) 3 (kcp (N 3) (M 3) 6)) 4 (kcp (N 4) (M 4) 6))) := hD
  refine lv_aload_n hx hb dX1_copyFrom_52 rfl (lv_at hl 1 rfl) ?_
  refine gfX1_24 (v := .ref (b 7)) hx hb hta hown hK hP 2 rfl rfl dX1_copyFrom_53 ?_
  refine lv_aload_n hx hb dX1_copyFrom_56 rfl (lv_at hl 0 rfl) ?_
  refine gfX1_24 (v := .ref (a 7)) hx hb hta hown hK hP 26 rfl rfl dX1_copyFrom_57 ?_
  refine lv_bipush (v := 6) hx hb dX1_copyFrom_60 (by decide) ?_
  refine kc_v (krSN (As := [.ref (b 7), .ref (a 7), .int 6]) (rest := []) (c_X7_copyRow l D Y (b 7) 6 (N 5) (a 7) 6 (M 5) 6 (by omega) (by omega) (by omega) (by omega)) ⟨hx, hb, hml, hown, hta⟩ (cwX1_27 hta hNs ⟨Nat.le_of_ble_eq_true rfl, Nat.le_of_ble_eq_true rfl⟩) kX0b (fun _ _ _ => trivial) hK hNs hP hD (kJ_sub [7, 31] rfl rfl) rfl hl.1 rfl (Nat.le_of_ble_eq_true rfl) dX1_copyFrom_62 ⟨Nat.le_of_ble_eq_true rfl, Nat.le_of_ble_eq_true rfl⟩) hP hD hS hA (kJ_sub [7, 31] rfl rfl) (fun _ => rfl) (fun u H locs hw hP hD hS => ?_)
  have hP : va_P D vwCl (wM Y b N ++ wM Y a (sR (sR (sR (sR (sR M 1 (kcp (N 1) (M 1) 6)) 2 (kcp (N 2) (M 2) 6)) 3 (kcp (N 3) (M 3) 6)) 4 (kcp (N 4) (M 4) 6)) 5 (kcp (N 5) (M 5) 6))) H := hP
  have hD : va_D A (wM Y b N ++ wM Y a (sR (sR (sR (sR (sR M 1 (kcp (N 1) (M 1) 6)) 2 (kcp (N 2) (M 2) 6)) 3 (kcp (N 3) (M 3) 6)) 4 (kcp (N 4) (M 4) 6)) 5 (kcp (N 5) (M 5) 6))) := hD
  exact kvret (sR (sR (sR (sR (sR M 1 (kcp (N 1) (M 1) 6)) 2 (kcp (N 2) (M 2) 6)) 3 (kcp (N 3) (M 3) 6)) 4 (kcp (N 4) (M 4) 6)) 5 (kcp (N 5) (M 5) 6)) hQ hx hb hr hlocks hP hS dX1_copyFrom_65 rfl
