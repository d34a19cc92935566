set_option maxHeartbeats 4000000 in
set_option maxRecDepth 100000 in
theorem c_X0_copyFrom (l : Launch) (D : va_G) (Y : Nat → ClassId) (b : Nat → Nat) (N : kN) (a : Nat → Nat) (M : kN) (hI : cI N) : kM l yX0_copyFrom wX0_copyFrom rX0_copyFrom D Y (wM Y b N ++ wM Y a M) [.ref (a 8), .ref (b 8)] kX0 (kQv D (fun u => u = cCopyF N M) (fun u => wM Y b N ++ wM Y a u)) := by
  refine kentry (cc := cX0_copyFrom) (maxL := 2) (ret := none) (by decide +kernel) rfl (Nat.le_of_ble_eq_true rfl) ?_
  intro p e s m args below meth c A Q ls hQ hx hb hr hlocks hml hown hin hta hA hX hK hNs hP hD hS hl
  have hown : s.vm.findClass RX0 = some m.cls := hown
  have hl : lv_has ls 2 [(0, .ref (a 8)), (1, .ref (b 8))] := hl
  have h30 := hI.f30
  refine lv_aload_n hx hb dX0_copyFrom_0 rfl (lv_at hl 0 rfl) ?_
  refine lv_aload_n hx hb dX0_copyFrom_1 rfl (lv_at hl 1 rfl) ?_
  refine gfX0_36 (v := .int (N 19 4)) hx hb hta hown hK hP 8 rfl rfl dX0_copyFrom_2 ?_
  refine kTop hI.f ?_
  refine pfX0_36 (ws1 := wM Y b N ++ wM Y a (sM M 19 4 (nI (nF N)))) hx hb hta hown hK hP hD hS 32 rfl (Nat.le_of_ble_eq_true rfl) rfl dX0_copyFrom_5 (fun H locs hP hD hS => ?_)
  refine lv_aload_n hx hb dX0_copyFrom_8 rfl (lv_at hl 1 rfl) ?_
  refine gfX0_9 (v := .ref (b 9)) hx hb hta hown hK hP 8 rfl rfl dX0_copyFrom_9 ?_
  refine lv_aload_n hx hb dX0_copyFrom_12 rfl (lv_at hl 0 rfl) ?_
  refine gfX0_9 (v := .ref (a 9)) hx hb hta hown hK hP 32 rfl rfl dX0_copyFrom_13 ?_
  refine lv_aload_n hx hb dX0_copyFrom_16 rfl (lv_at hl 0 rfl) ?_
  refine gfX0_36 (v := .int (nI (nF N))) hx hb hta hown hK hP 32 rfl rfl dX0_copyFrom_17 ?_
  refine kc_v (krSN (As := [.ref (b 9), .ref (a 9), .int (nI (nF N))]) (rest := []) (c_X7_copyRow l D Y (b 9) 30 (N 6) (a 9) 30 (M 6) (nF N) (by omega) (by omega) (by omega) (by omega)) ⟨hx, hb, hml, hown, hta⟩ (cwX0_40 hta hNs ⟨Nat.le_of_ble_eq_true rfl, Nat.le_of_ble_eq_true rfl⟩) kX0b (fun _ _ _ => trivial) hK hNs hP hD (kJ_sub [9, 33] rfl rfl) rfl hl.1 rfl (Nat.le_of_ble_eq_true rfl) dX0_copyFrom_20 ⟨Nat.le_of_ble_eq_true rfl, Nat.le_of_ble_eq_true rfl⟩) hP hD hS hA (kJ_sub [9, 33] rfl rfl) (fun _ => rfl) (fun u H locs hw hP hD hS => ?_)
  have hP : va_P D vwCl (wM Y b N ++ wM Y a (sR (sM M 19 4 (nI (nF N))) 6 (kcp (N 6) (M 6) (nF N)))) H := hP
  have hD : va_D A (wM Y b N ++ wM Y a (sR (sM M 19 4 (nI (nF N))) 6 (kcp (N 6) (M 6) (nF N)))) := hD
  refine lv_aload_n hx hb dX0_copyFrom_23 rfl (lv_at hl 1 rfl) ?_
  refine gfX0_15 (v := .ref (b 10)) hx hb hta hown hK hP 8 rfl rfl dX0_copyFrom_24 ?_
  refine lv_aload_n hx hb dX0_copyFrom_27 rfl (lv_at hl 0 rfl) ?_
  refine gfX0_15 (v := .ref (a 10)) hx hb hta hown hK hP 32 rfl rfl dX0_copyFrom_28 ?_
  refine lv_aload_n hx hb dX0_copyFrom_31 rfl (lv_at hl 0 rfl) ?_
  refine gfX0_36 (v := .int (nI (nF N))) hx hb hta hown hK hP 32 rfl rfl dX0_copyFrom_32 ?_
  refine kc_v (krSN (As := [.ref (b 10), .ref (a 10), .int (nI (nF N))]) (rest := []) (c_X7_copyRow l D Y (b 10) 30 (N 7) (a 10) 30 (M 7) (nF N) (by omega) (by omega) (by omega) (by omega)) ⟨hx, hb, hml, hown, hta⟩ (cwX0_40 hta hNs ⟨Nat.le_of_ble_eq_true rfl, Nat.le_of_ble_eq_true rfl⟩) kX0b (fun _ _ _ => trivial) hK hNs hP hD (kJ_sub [10, 34] rfl rfl) rfl hl.1 rfl (Nat.le_of_ble_eq_true rfl) dX0_copyFrom_35 ⟨Nat.le_of_ble_eq_true rfl, Nat.le_of_ble_eq_true rfl⟩) hP hD hS hA (kJ_sub [10, 34] rfl rfl) (fun _ => rfl) (fun u H locs hw hP hD hS => ?_)
  have hP : va_P D vwCl (wM Y b N ++ wM Y a (sR (sR (sM M 19 4 (nI (nF N))) 6 (kcp (N 6) (M 6) (nF N))) 7 (kcp (N 7) (M 7) (nF N)))) H := hP
  have hD : va_D A (wM Y b N ++ wM Y a (sR (sR (sM M 19 4 (nI (nF N))) 6 (kcp (N 6) (M 6) (nF N))) 7 (kcp (N 7) (M 7) (nF N)))) := hD
  refine lv_aload_n hx hb dX0_copyFrom_38 rfl (lv_at hl 1 rfl) ?_
  refine gfX0_18 (v := .ref (b 11)) hx hb hta hown hK hP 8 rfl rfl dX0_copyFrom_39 ?_
  refine lv_aload_n hx hb dX0_copyFrom_42 rfl (lv_at hl 0 rfl) ?_
  refine gfX0_18 (v := .ref (a 11)) hx hb hta hown hK hP 32 rfl rfl dX0_copyFrom_43 ?_
  refine lv_aload_n hx hb dX0_copyFrom_46 rfl (lv_at hl 0 rfl) ?_
  refine gfX0_36 (v := .int (nI (nF N))) hx hb hta hown hK hP 32 rfl rfl dX0_copyFrom_47 ?_
  refine kc_v (krSN (As := [.ref (b 11), .ref (a 11), .int (nI (nF N))]) (rest := []) (c_X7_copyRow l D Y (b 11) 30 (N 8) (a 11) 30 (M 8) (nF N) (by omega) (by omega) (by omega) (by omega)) ⟨hx, hb, hml, hown, hta⟩ (cwX0_40 hta hNs ⟨Nat.le_of_ble_eq_true rfl, Nat.le_of_ble_eq_true rfl⟩) kX0b (fun _ _ _ => trivial) hK hNs hP hD (kJ_sub [11, 35] rfl rfl) rfl hl.1 rfl (Nat.le_of_ble_eq_true rfl) dX0_copyFrom_50 ⟨Nat.le_of_ble_eq_true rfl, Nat.le_of_ble_eq_true rfl⟩) hP hD hS hA (kJ_sub [11, 35] rfl rfl) (fun _ => rfl) (fun u H locs hw hP hD hS => ?_)
  have hP : va_P D vwCl (wM Y b N ++ wM Y a (sR (sR (sR (sM M 19 4 (nI (nF N))) 6 (kcp (N 6) (M 6) (nF N))) 7 (kcp (N 7) (M 7) (nF N))) 8 (kcp (N 8) (M 8) (nF N)))) H := hP
  have hD : va_D A (wM Y b N ++ wM Y a (sR (sR (sR (sM M 19 4 (nI (nF N))) 6 (kcp (N 6) (M 6) (nF N))) 7 (kcp (N 7) (M 7) (nF N))) 8 (kcp (N 8) (M 8) (nF N)))) := hD
  refine lv_aload_n hx hb dX0_copyFrom_53 rfl (lv_at hl 1 rfl) ?_
  refine gfX0_21 (v := .ref (b 12)) hx hb hta hown hK hP 8 rfl rfl dX0_copyFrom_54 ?_
  refine lv_aload_n hx hb dX0_copyFrom_57 rfl (lv_at hl 0 rfl) ?_
  refine gfX0_21 (v := .ref (a 12)) hx hb hta hown hK hP 32 rfl rfl dX0_copyFrom_58 ?_
  refine lv_aload_n hx hb dX0_copyFrom_61 rfl (lv_at hl 0 rfl) ?_
  refine gfX0_36 (v := .int (nI (nF N))) hx hb hta hown hK hP 32 rfl rfl dX0_copyFrom_62 ?_
  refine kc_v (krSN (As := [.ref (b 12), .ref (a 12), .int (nI (nF N))]) (rest := []) (c_X7_copyRow l D Y (b 12) 30 (N 9) (a 12) 30 (M 9) (nF N) (by omega) (by omega) (by omega) (by omega)) ⟨hx, hb, hml, hown, hta⟩ (cwX0_40 hta hNs ⟨Nat.le_of_ble_eq_true rfl, Nat.le_of_ble_eq_true rfl⟩) kX0b (fun _ _ _ => trivial) hK hNs hP hD (kJ_sub [12, 36] rfl rfl) rfl hl.1 rfl (Nat.le_of_ble_eq_true rfl) dX0_copyFrom_65 ⟨Nat.le_of_ble_eq_true rfl, Nat.le_of_ble_eq_true rfl⟩) hP hD hS hA (kJ_sub [12, 36] rfl rfl) (fun _ => rfl) (fun u H locs hw hP hD hS => ?_)
  have hP : va_P D vwCl (wM Y b N ++ wM Y a (sR (sR (sR (sR (sM M 19 4 (nI (nF N))) 6 (kcp (N 6) (M 6) (nF N))) 7 (kcp (N 7) (M 7) (nF N))) 8 (kcp (N 8) (M 8) (nF N))) 9 (kcp (N 9) (M 9) (nF N)))) H := hP
  have hD : va_D A (wM Y b N ++ wM Y a (sR (sR (sR (sR (sM M 19 4 (nI (nF N))) 6 (kcp (N 6) (M 6) (nF N))) 7 (kcp (N 7) (M 7) (nF N))) 8 (kcp (N 8) (M 8) (nF N))) 9 (kcp (N 9) (M 9) (nF N)))) := hD
  refine lv_aload_n hx hb dX0_copyFrom_68 rfl (lv_at hl 1 rfl) ?_
  refine gfX0_24 (v := .ref (b 13)) hx hb hta hown hK hP 8 rfl rfl dX0_copyFrom_69 ?_
  refine lv_aload_n hx hb dX0_copyFrom_72 rfl (lv_at hl 0 rfl) ?_
  refine gfX0_24 (v := .ref (a 13)) hx hb hta hown hK hP 32 rfl rfl dX0_copyFrom_73 ?_
  refine lv_aload_n hx hb dX0_copyFrom_76 rfl (lv_at hl 0 rfl) ?_
  refine gfX0_36 (v := .int (nI (nF N))) hx hb hta hown hK hP 32 rfl rfl dX0_copyFrom_77 ?_
  refine kc_v (krSN (As := [.ref (b 13), .ref (a 13), .int (nI (nF N))]) (rest := []) (c_X7_copyRow l D Y (b 13) 30 (N 10) (a 13) 30 (M 10) (nF N) (by omega) (by omega) (by omega) (by omega)) ⟨hx, hb, hml, hown, hta⟩ (cwX0_40 hta hNs ⟨Nat.le_of_ble_eq_true rfl, Nat.le_of_ble_eq_true rfl⟩) kX0b (fun _ _ _ => trivial) hK hNs hP hD (kJ_sub [13, 37] rfl rfl) rfl hl.1 rfl (Nat.le_of_ble_eq_true rfl) dX0_copyFrom_80 ⟨Nat.le_of_ble_eq_true rfl, Nat.le_of_ble_eq_true rfl⟩) hP hD hS hA (kJ_sub [13, 37] rfl rfl) (fun _ => rfl) (fun u H locs hw hP hD hS => ?_)
  have hP : va_P D vwCl (wM Y b N ++ wM Y a (sR (sR (sR (sR (sR (sM M 19 4 (nI (nF N))) 6 (kcp (N 6) (M 6) (nF N))) 7 (kcp (N 7) (M 7) (nF N))) 8 (kcp (N 8) (M 8) (nF N))) 9 (kcp (N 9) (M 9) (nF N))) 10 (kcp (N 10) (M 10) (nF N)))) H := hP
  have hD : va_D A (wM Y b N ++ wM Y a (sR (sR (sR (sR (sR (sM M 19 4 (nI (nF N))) 6 (kcp (N 6) (M 6) (nF N))) 7 (kcp (N 7) (M 7) (nF N))) 8 (kcp (N 8) (M 8) (nF N))) 9 (kcp (N 9) (M 9) (nF N))) 10 (kcp (N 10) (M 10) (nF N)))) := hD
  refine lv_aload_n hx hb dX0_copyFrom_83 rfl (lv_at hl 1 rfl) ?_
  refine gfX0_27 (v := .ref (b 14)) hx hb hta hown hK hP 8 rfl rfl dX0_copyFrom_84 ?_
  refine lv_aload_n hx hb dX0_copyFrom_87 rfl (lv_at hl 0 rfl) ?_
  refine gfX0_27 (v := .ref (a 14)) hx hb hta hown hK hP 32 rfl rfl dX0_copyFrom_88 ?_
  refine lv_aload_n hx hb dX0_copyFrom_91 rfl (lv_at hl 0 rfl) ?_
  refine gfX0_36 (v := .int (nI (nF N))) hx hb hta hown hK hP 32 rfl rfl dX0_copyFrom_92 ?_
  refine kc_v (krSN (As := [.ref (b 14), .ref (a 14), .int (nI (nF N))]) (rest := []) (c_X7_copyRow l D Y (b 14) 30 (N 11) (a 14) 30 (M 11) (nF N) (by omega) (by omega) (by omega) (by omega)) ⟨hx, hb, hml, hown, hta⟩ (cwX0_40 hta hNs ⟨Nat.le_of_ble_eq_true rfl, Nat.le_of_ble_eq_true rfl⟩) kX0b (fun _ _ _ => trivial) hK hNs hP hD (kJ_sub [14, 38] rfl rfl) rfl hl.1 rfl (Nat.le_of_ble_eq_true rfl) dX0_copyFrom_95 ⟨Nat.le_of_ble_eq_true rfl, Nat.le_of_ble_eq_true rfl⟩) hP hD hS hA (kJ_sub [14, 38] rfl rfl) (fun _ => rfl) (fun u H locs hw hP hD hS => ?_)
  have hP : va_P D vwCl (wM Y b N ++ wM Y a (sR (sR (sR (sR (sR (sR (sM M 19 4 (nI (nF N))) 6 (kcp (N 6) (M 6) (nF N))) 7 (kcp (N 7) (M 7) (nF N))) 8 (kcp (N 8) (M 8) (nF N))) 9 (kcp (N 9) (M 9) (nF N))) 10 (kcp (N 10) (M 10) (nF N))) 11 (kcp (N 11) (M 11) (nF N)))) H := hP
  have hD : va_D A (wM Y b N ++ wM Y a (sR (sR (sR (sR (sR (sR (sM M 19 4 (nI (nF N))) 6 (kcp (N 6) (M 6) (nF N))) 7 (kcp (N 7) (M 7) (nF N))) 8 (kcp (N 8) (M 8) (nF N))) 9 (kcp (N 9) (M 9) (nF N))) 10 (kcp (N 10) (M 10) (nF N))) 11 (kcp (N 11) (M 11) (nF N)))) := hD
  refine lv_aload_n hx hb dX0_copyFrom_98 rfl (lv_at hl 1 rfl) ?_
  refine gfX0_30 (v := .ref (b 15)) hx hb hta hown hK hP 8 rfl rfl dX0_copyFrom_99 ?_
  refine lv_aload_n hx hb dX0_copyFrom_102 rfl (lv_at hl 0 rfl) ?_
  refine gfX0_30 (v := .ref (a 15)) hx hb hta hown hK hP 32 rfl rfl dX0_copyFrom_103 ?_
  refine lv_aload_n hx hb dX0_copyFrom_106 rfl (lv_at hl 0 rfl) ?_
  refine gfX0_36 (v := .int (nI (nF N))) hx hb hta hown hK hP 32 rfl rfl dX0_copyFrom_107 ?_
  refine kc_v (krSN (As := [.ref (b 15), .ref (a 15), .int (nI (nF N))]) (rest := []) (c_X7_copyRow l D Y (b 15) 30 (N 12) (a 15) 30 (M 12) (nF N) (by omega) (by omega) (by omega) (by omega)) ⟨hx, hb, hml, hown, hta⟩ (cwX0_40 hta hNs ⟨Nat.le_of_ble_eq_true rfl, Nat.le_of_ble_eq_true rfl⟩) kX0b (fun _ _ _ => trivial) hK hNs hP hD (kJ_sub [15, 39] rfl rfl) rfl hl.1 rfl (Nat.le_of_ble_eq_true rfl) dX0_copyFrom_110 ⟨Nat.le_of_ble_eq_true rfl, Nat.le_of_ble_eq_true rfl⟩) hP hD hS hA (kJ_sub [15, 39] rfl rfl) (fun _ => rfl) (fun u H locs hw hP hD hS => ?_)
  have hP : va_P D vwCl (wM Y b N ++ wM Y a (sR (sR (sR (sR (sR (sR (sR (sM M 19 4 (nI (nF N))) 6 (kcp (N 6) (M 6) (nF N))) 7 (kcp (N 7) (M 7) (nF N))) 8 (kcp (N 8) (M 8) (nF N))) 9 (kcp (N 9) (M 9) (nF N))) 10 (kcp (N 10) (M 10) (nF N))) 11 (kcp (N 11) (M 11) (nF N))) 12 (kcp (N 12) (M 12) (nF N)))) H := hP
  have hD : va_D A (wM Y b N ++ wM Y a (sR (sR (sR (sR (sR (sR (sR (sM M 19 4 (nI (nF N))) 6 (kcp (N 6) (M 6) (nF N))) 7 (kcp (N 7) (M 7) (nF N))) 8 (kcp (N 8) (M 8) (nF N))) 9 (kcp (N 9) (M 9) (nF N))) 10 (kcp (N 10) (M 10) (nF N))) 11 (kcp (N 11) (M 11) (nF N))) 12 (kcp (N 12) (M 12) (nF N)))) := hD
  refine lv_aload_n hx hb dX0_copyFrom_113 rfl (lv_at hl 1 rfl) ?_
  refine gfX0_33 (v := .ref (b 16)) hx hb hta hown hK hP 8 rfl rfl dX0_copyFrom_114 ?_
  refine lv_aload_n hx hb dX0_copyFrom_117 rfl (lv_at hl 0 rfl) ?_
  refine gfX0_33 (v := .ref (a 16)) hx hb hta hown hK hP 32 rfl rfl dX0_copyFrom_118 ?_
  refine lv_aload_n hx hb dX0_copyFrom_121 rfl (lv_at hl 0 rfl) ?_
  refine gfX0_36 (v := .int (nI (nF N))) hx hb hta hown hK hP 32 rfl rfl dX0_copyFrom_122 ?_
  refine kc_v (krSN (As := [.ref (b 16), .ref (a 16), .int (nI (nF N))]) (rest := []) (c_X7_copyRow l D Y (b 16) 30 (N 13) (a 16) 30 (M 13) (nF N) (by omega) (by omega) (by omega) (by omega)) ⟨hx, hb, hml, hown, hta⟩ (cwX0_40 hta hNs ⟨Nat.le_of_ble_eq_true rfl, Nat.le_of_ble_eq_true rfl⟩) kX0b (fun _ _ _ => trivial) hK hNs hP hD (kJ_sub [16, 40] rfl rfl) rfl hl.1 rfl (Nat.le_of_ble_eq_true rfl) dX0_copyFrom_125 ⟨Nat.le_of_ble_eq_true rfl, Nat.le_of_ble_eq_true rfl⟩) hP hD hS hA (kJ_sub [16, 40] rfl rfl) (fun _ => rfl) (fun u H locs hw hP hD hS => ?_)
  have hP : va_P D vwCl (wM Y b N ++ wM Y a (sR (sR (sR (sR (sR (sR (sR (sR (sM M 19 4 (nI (nF N))) 6 (kcp (N 6) (M 6) (nF N))) 7 (kcp (N 7) (M 7) (nF N))) 8 (kcp (N 8) (M 8) (nF N))) 9 (kcp (N 9) (M 9) (nF N))) 10 (kcp (N 10) (M 10) (nF N))) 11 (kcp (N 11) (M 11) (nF N))) 12 (kcp (N 12) (M 12) (nF N))) 13 (kcp (N 13) (M 13) (nF N)))) H := hP
  have hD : va_D A (wM Y b N ++ wM Y a (sR (sR (sR (sR (sR (sR (sR (sR (sM M 19 4 (nI (nF N))) 6 (kcp (N 6) (M 6) (nF N))) 7 (kcp (N 7) (M 7) (nF N))) 8 (kcp (N 8) (M 8) (nF N))) 9 (kcp (N 9) (M 9) (nF N))) 10 (kcp (N 10) (M 10) (nF N))) 11 (kcp (N 11) (M 11) (nF N))) 12 (kcp (N 12) (M 12) (nF N))) 13 (kcp (N 13) (M 13) (nF N)))) := hD
  exact kvret (sR (sR (sR (sR (sR (sR (sR (sR (sM M 19 4 (nI (nF N))) 6 (kcp (N 6) (M 6) (nF N))) 7 (kcp (N 7) (M 7) (nF N))) 8 (kcp (N 8) (M 8) (nF N))) 9 (kcp (N 9) (M 9) (nF N))) 10 (kcp (N 10) (M 10) (nF N))) 11 (kcp (N 11) (M 11) (nF N))) 12 (kcp (N 12) (M 12) (nF N))) 13 (kcp (N 13) (M 13) (nF N))) hQ hx hb hr hlocks hP hS dX0_copyFrom_128 rfl
