set_option maxHeartbeats 4000000 in
set_option maxRecDepth 100000 in
theorem c_X5_copyFrom (l : Launch) (D : va_G) (Y : Nat → ClassId) (b : Nat → Nat) (N : kN) (a : Nat → Nat) (M : kN) (hI : cI N) : kM l yX5_copyFrom wX5_copyFrom rX5_copyFrom D Y (wM Y b N ++ wM Y a M) [.ref (a 17), .ref (b 17)] kX0 (kQv D (fun u => u = cCopyS N M) (fun u => wM Y b N ++ wM Y a u)) := by
  refine kentry (cc := cX5_copyFrom) (maxL := 2) (ret := none) (by decide +kernel) rfl (Nat.le_of_ble_eq_true rfl) ?_
  intro p e s m args below meth c A Q ls hQ hx hb hr hlocks hml hown hin hta hA hX hK hNs hP hD hS hl
  have hown : s.vm.findClass RX5 = some m.cls := hown
  have hl : lv_has ls 2 [(0, .ref (a 17)), (1, .ref (b 17))] := hl
  have h5 := hI.s5
  refine lv_aload_n hx hb dX5_copyFrom_0 rfl (lv_at hl 0 rfl) ?_
  refine lv_aload_n hx hb dX5_copyFrom_1 rfl (lv_at hl 1 rfl) ?_
  refine gfX5_18 (v := .int (N 19 5)) hx hb hta hown hK hP 17 rfl rfl dX5_copyFrom_2 ?_
  refine kTop hI.s ?_
  refine pfX5_18 (ws1 := wM Y b N ++ wM Y a (sM M 19 5 (nI (nS N)))) hx hb hta hown hK hP hD hS 41 rfl (Nat.le_of_ble_eq_true rfl) rfl dX5_copyFrom_5 (fun H locs hP hD hS => ?_)
  refine lv_aload_n hx hb dX5_copyFrom_8 rfl (lv_at hl 1 rfl) ?_
  refine gfX5_9 (v := .ref (b 18)) hx hb hta hown hK hP 17 rfl rfl dX5_copyFrom_9 ?_
  refine lv_aload_n hx hb dX5_copyFrom_12 rfl (lv_at hl 0 rfl) ?_
  refine gfX5_9 (v := .ref (a 18)) hx hb hta hown hK hP 41 rfl rfl dX5_copyFrom_13 ?_
  refine lv_aload_n hx hb dX5_copyFrom_16 rfl (lv_at hl 0 rfl) ?_
  refine gfX5_18 (v := .int (nI (nS N))) hx hb hta hown hK hP 41 rfl rfl dX5_copyFrom_17 ?_
  refine kc_v (krSN (As := [.ref (b 18), .ref (a 18), .int (nI (nS N))]) (rest := []) (c_X7_copyRow l D Y (b 18) 5 (N 14) (a 18) 5 (M 14) (nS N) (by omega) (by omega) (by omega) (by omega)) ⟨hx, hb, hml, hown, hta⟩ (cwX5_22 hta hNs ⟨Nat.le_of_ble_eq_true rfl, Nat.le_of_ble_eq_true rfl⟩) kX0b (fun _ _ _ => trivial) hK hNs hP hD (kJ_sub [18, 42] rfl rfl) rfl hl.1 rfl (Nat.le_of_ble_eq_true rfl) dX5_copyFrom_20 ⟨Nat.le_of_ble_eq_true rfl, Nat.le_of_ble_eq_true rfl⟩) hP hD hS hA (kJ_sub [18, 42] rfl rfl) (fun _ => rfl) (fun u H locs hw hP hD hS => ?_)
  have hP : va_P D vwCl (wM Y b N ++ wM Y a (sR (sM M 19 5 (nI (nS N))) 14 (kcp (N 14) (M 14) (nS N)))) H := hP
  have hD : va_D A (wM Y b N ++ wM Y a (sR (sM M 19 5 (nI (nS N))) 14 (kcp (N 14) (M 14) (nS N)))) := hD
  refine lv_aload_n hx hb dX5_copyFrom_23 rfl (lv_at hl 1 rfl) ?_
  refine gfX5_15 (v := .ref (b 19)) hx hb hta hown hK hP 17 rfl rfl dX5_copyFrom_24 ?_
  refine lv_aload_n hx hb dX5_copyFrom_27 rfl (lv_at hl 0 rfl) ?_
  refine gfX5_15 (v := .ref (a 19)) hx hb hta hown hK hP 41 rfl rfl dX5_copyFrom_28 ?_
  refine lv_aload_n hx hb dX5_copyFrom_31 rfl (lv_at hl 0 rfl) ?_
  refine gfX5_18 (v := .int (nI (nS N))) hx hb hta hown hK hP 41 rfl rfl dX5_copyFrom_32 ?_
  refine kc_v (krSN (As := [.ref (b 19), .ref (a 19), .int (nI (nS N))]) (rest := []) (c_X7_copyRow l D Y (b 19) 5 (N 15) (a 19) 5 (M 15) (nS N) (by omega) (by omega) (by omega) (by omega)) ⟨hx, hb, hml, hown, hta⟩ (cwX5_22 hta hNs ⟨Nat.le_of_ble_eq_true rfl, Nat.le_of_ble_eq_true rfl⟩) kX0b (fun _ _ _ => trivial) hK hNs hP hD (kJ_sub [19, 43] rfl rfl) rfl hl.1 rfl (Nat.le_of_ble_eq_true rfl) dX5_copyFrom_35 ⟨Nat.le_of_ble_eq_true rfl, Nat.le_of_ble_eq_true rfl⟩) hP hD hS hA (kJ_sub [19, 43] rfl rfl) (fun _ => rfl) (fun u H locs hw hP hD hS => ?_)
  have hP : va_P D vwCl (wM Y b N ++ wM Y a (sR (sR (sM M 19 5 (nI (nS N))) 14 (kcp (N 14) (M 14) (nS N))) 15 (kcp (N 15) (M 15) (nS N)))) H := hP
  have hD : va_D A (wM Y b N ++ wM Y a (sR (sR (sM M 19 5 (nI (nS N))) 14 (kcp (N 14) (M 14) (nS N))) 15 (kcp (N 15) (M 15) (nS N)))) := hD
  exact kvret (sR (sR (sM M 19 5 (nI (nS N))) 14 (kcp (N 14) (M 14) (nS N))) 15 (kcp (N 15) (M 15) (nS N))) hQ hx hb hr hlocks hP hS dX5_copyFrom_38 rfl
