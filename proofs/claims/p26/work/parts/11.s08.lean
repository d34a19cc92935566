set_option maxHeartbeats 4000000 in
set_option maxRecDepth 100000 in
theorem c_X6_copyFrom (l : Launch) (D : va_G) (Y : Nat → ClassId) (b : Nat → Nat) (N : kN) (a : Nat → Nat) (M : kN) (hI : cI N) : kM l yX6_copyFrom wX6_copyFrom rX6_copyFrom D Y (wM Y b N ++ wM Y a M) [.ref (a 20), .ref (b 20)] kX0 (kQv D (fun u => u = cCopyY N M) (fun u => wM Y b N ++ wM Y a u)) := by
  refine kentry (cc := cX6_copyFrom) (maxL := 2) (ret := none) (by decide +kernel) rfl (Nat.le_of_ble_eq_true rfl) ?_
  intro p e s m args below meth c A Q ls hQ hx hb hr hlocks hml hown hin hta hA hX hK hNs hP hD hS hl
  have hown : s.vm.findClass RX6 = some m.cls := hown
  have hl : lv_has ls 2 [(0, .ref (a 20)), (1, .ref (b 20))] := hl
  have h400 := hI.y400
  refine lv_aload_n hx hb dX6_copyFrom_0 rfl (lv_at hl 0 rfl) ?_
  refine lv_aload_n hx hb dX6_copyFrom_1 rfl (lv_at hl 1 rfl) ?_
  refine gfX6_21 (v := .int (N 19 6)) hx hb hta hown hK hP 20 rfl rfl dX6_copyFrom_2 ?_
  refine kTop hI.y ?_
  refine pfX6_21 (ws1 := wM Y b N ++ wM Y a (sM M 19 6 (nI (nY N)))) hx hb hta hown hK hP hD hS 44 rfl (Nat.le_of_ble_eq_true rfl) rfl dX6_copyFrom_5 (fun H locs hP hD hS => ?_)
  refine lv_aload_n hx hb dX6_copyFrom_8 rfl (lv_at hl 0 rfl) ?_
  refine lv_aload_n hx hb dX6_copyFrom_9 rfl (lv_at hl 1 rfl) ?_
  refine gfX6_25 (v := .int (N 19 7)) hx hb hta hown hK hP 20 rfl rfl dX6_copyFrom_10 ?_
  refine pfX6_25 (ws1 := wM Y b N ++ wM Y a (sM (sM M 19 6 (nI (nY N))) 19 7 (N 19 7))) hx hb hta hown hK hP hD hS 44 rfl (Nat.le_of_ble_eq_true rfl) rfl dX6_copyFrom_13 (fun H locs hP hD hS => ?_)
  refine lv_aload_n hx hb dX6_copyFrom_16 rfl (lv_at hl 1 rfl) ?_
  refine gfX6_9 (v := .ref (b 21)) hx hb hta hown hK hP 20 rfl rfl dX6_copyFrom_17 ?_
  refine lv_aload_n hx hb dX6_copyFrom_20 rfl (lv_at hl 0 rfl) ?_
  refine gfX6_9 (v := .ref (a 21)) hx hb hta hown hK hP 44 rfl rfl dX6_copyFrom_21 ?_
  refine lv_aload_n hx hb dX6_copyFrom_24 rfl (lv_at hl 0 rfl) ?_
  refine gfX6_21 (v := .int (nI (nY N))) hx hb hta hown hK hP 44 rfl rfl dX6_copyFrom_25 ?_
  refine kc_v (krSN (As := [.ref (b 21), .ref (a 21), .int (nI (nY N))]) (rest := []) (c_X7_copyRow l D Y (b 21) 400 (N 16) (a 21) 400 (M 16) (nY N) (by omega) (by omega) (by omega) (by omega)) ⟨hx, hb, hml, hown, hta⟩ (cwX6_28 hta hNs ⟨Nat.le_of_ble_eq_true rfl, Nat.le_of_ble_eq_true rfl⟩) kX0b (fun _ _ _ => trivial) hK hNs hP hD (kJ_sub [21, 45] rfl rfl) rfl hl.1 rfl (Nat.le_of_ble_eq_true rfl) dX6_copyFrom_28 ⟨Nat.le_of_ble_eq_true rfl, Nat.le_of_ble_eq_true rfl⟩) hP hD hS hA (kJ_sub [21, 45] rfl rfl) (fun _ => rfl) (fun u H locs hw hP hD hS => ?_)
  have hP : va_P D vwCl (wM Y b N ++ wM Y a (sR (sM (sM M 19 6 (nI (nY N))) 19 7 (N 19 7)) 16 (kcp (N 16) (M 16) (nY N)))) H := hP
  have hD : va_D A (wM Y b N ++ wM Y a (sR (sM (sM M 19 6 (nI (nY N))) 19 7 (N 19 7)) 16 (kcp (N 16) (M 16) (nY N)))) := hD
  refine lv_aload_n hx hb dX6_copyFrom_31 rfl (lv_at hl 1 rfl) ?_
  refine gfX6_15 (v := .ref (b 22)) hx hb hta hown hK hP 20 rfl rfl dX6_copyFrom_32 ?_
  refine lv_aload_n hx hb dX6_copyFrom_35 rfl (lv_at hl 0 rfl) ?_
  refine gfX6_15 (v := .ref (a 22)) hx hb hta hown hK hP 44 rfl rfl dX6_copyFrom_36 ?_
  refine lv_aload_n hx hb dX6_copyFrom_39 rfl (lv_at hl 0 rfl) ?_
  refine gfX6_21 (v := .int (nI (nY N))) hx hb hta hown hK hP 44 rfl rfl dX6_copyFrom_40 ?_
  refine kc_v (krSN (As := [.ref (b 22), .ref (a 22), .int (nI (nY N))]) (rest := []) (c_X7_copyRow l D Y (b 22) 400 (N 17) (a 22) 400 (M 17) (nY N) (by omega) (by omega) (by omega) (by omega)) ⟨hx, hb, hml, hown, hta⟩ (cwX6_28 hta hNs ⟨Nat.le_of_ble_eq_true rfl, Nat.le_of_ble_eq_true rfl⟩) kX0b (fun _ _ _ => trivial) hK hNs hP hD (kJ_sub [22, 46] rfl rfl) rfl hl.1 rfl (Nat.le_of_ble_eq_true rfl) dX6_copyFrom_43 ⟨Nat.le_of_ble_eq_true rfl, Nat.le_of_ble_eq_true rfl⟩) hP hD hS hA (kJ_sub [22, 46] rfl rfl) (fun _ => rfl) (fun u H locs hw hP hD hS => ?_)
  have hP : va_P D vwCl (wM Y b N ++ wM Y a (sR (sR (sM (sM M 19 6 (nI (nY N))) 19 7 (N 19 7)) 16 (kcp (N 16) (M 16) (nY N))) 17 (kcp (N 17) (M 17) (nY N)))) H := hP
  have hD : va_D A (wM Y b N ++ wM Y a (sR (sR (sM (sM M 19 6 (nI (nY N))) 19 7 (N 19 7)) 16 (kcp (N 16) (M 16) (nY N))) 17 (kcp (N 17) (M 17) (nY N)))) := hD
  refine lv_aload_n hx hb dX6_copyFrom_46 rfl (lv_at hl 1 rfl) ?_
  refine gfX6_18 (v := .ref (b 23)) hx hb hta hown hK hP 20 rfl rfl dX6_copyFrom_47 ?_
  refine lv_aload_n hx hb dX6_copyFrom_50 rfl (lv_at hl 0 rfl) ?_
  refine gfX6_18 (v := .ref (a 23)) hx hb hta hown hK hP 44 rfl rfl dX6_copyFrom_51 ?_
  refine lv_aload_n hx hb dX6_copyFrom_54 rfl (lv_at hl 0 rfl) ?_
  refine gfX6_21 (v := .int (nI (nY N))) hx hb hta hown hK hP 44 rfl rfl dX6_copyFrom_55 ?_
  refine kc_v (krSN (As := [.ref (b 23), .ref (a 23), .int (nI (nY N))]) (rest := []) (c_X7_copyRow l D Y (b 23) 400 (N 18) (a 23) 400 (M 18) (nY N) (by omega) (by omega) (by omega) (by omega)) ⟨hx, hb, hml, hown, hta⟩ (cwX6_28 hta hNs ⟨Nat.le_of_ble_eq_true rfl, Nat.le_of_ble_eq_true rfl⟩) kX0b (fun _ _ _ => trivial) hK hNs hP hD (kJ_sub [23, 47] rfl rfl) rfl hl.1 rfl (Nat.le_of_ble_eq_true rfl) dX6_copyFrom_58 ⟨Nat.le_of_ble_eq_true rfl, Nat.le_of_ble_eq_true rfl⟩) hP hD hS hA (kJ_sub [23, 47] rfl rfl) (fun _ => rfl) (fun u H locs hw hP hD hS => ?_)
  have hP : va_P D vwCl (wM Y b N ++ wM Y a (sR (sR (sR (sM (sM M 19 6 (nI (nY N))) 19 7 (N 19 7)) 16 (kcp (N 16) (M 16) (nY N))) 17 (kcp (N 17) (M 17) (nY N))) 18 (kcp (N 18) (M 18) (nY N)))) H := hP
  have hD : va_D A (wM Y b N ++ wM Y a (sR (sR (sR (sM (sM M 19 6 (nI (nY N))) 19 7 (N 19 7)) 16 (kcp (N 16) (M 16) (nY N))) 17 (kcp (N 17) (M 17) (nY N))) 18 (kcp (N 18) (M 18) (nY N)))) := hD
  exact kvret (sR (sR (sR (sM (sM M 19 6 (nI (nY N))) 19 7 (N 19 7)) 16 (kcp (N 16) (M 16) (nY N))) 17 (kcp (N 17) (M 17) (nY N))) 18 (kcp (N 18) (M 18) (nY N))) hQ hx hb hr hlocks hP hS dX6_copyFrom_61 rfl
