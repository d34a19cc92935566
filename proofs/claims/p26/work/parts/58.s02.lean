set_option maxHeartbeats 4000000 in
set_option maxRecDepth 100000 in
theorem c_X2_bringBackLatest (l : Launch) (D : va_G) (Y : Nat → ClassId) (w a b d : Nat → Nat) (M N : kN) (F : kFm) (o z : Nat) (P : Nat → Int32) (n t : Nat) (kd : Int32) (V : Nat → Int32) (vc : Nat) (α : Nat → Nat) (X : kN) (hXI : cI X) (ho : o < 7) (hz : z ≤ 6) (hz0 : 0 < z) (hF : F ((o + (z - 1)) % 7) = some (α, X)) : kM l yX2_bringBackLatest wX2_bringBackLatest rX2_bringBackLatest D Y (wC Y w a b d M N F o z P n t kd V vc) [.ref (w 1), .ref (a 0)] kX0 (kQv D (fun u => u = cCopy X M) (fun u => wC Y w a b d u N F o (z - 1) P n t kd V vc)) := by
  refine kentry (cc := cX2_bringBackLatest) (maxL := 3) (ret := none) (by decide +kernel) rfl (Nat.le_of_ble_eq_true rfl) ?_
  intro p e s0 m args below meth c A Q ls hQ hx hb hr hlocks hml hown hin hta hA hX0 hK hNs hP hD hS hl
  have hown : s0.vm.findClass RX2 = some m.cls := hown
  have hl : lv_has ls 3 [(0, .ref (w 1)), (1, .ref (a 0))] := hl
  have hP : va_P D vwCl (kw Y [[(w 0, .inr (7, [.ref (a 0), .ref (b 0), .ref (w 1), .ref (w 2), .ref (d 0)]))], [(w 1, .inr (2, [.ref (w 3), .int (nI o), .int (nI z)]))], [(w 2, .inl (Y 3, 2, .inr (.inr (.inr (.inr (kAn F 7 2))))))], [(w 3, .inl (Y 3, 7, .inr (.inr (.inr (.inr (kAn F 0 7))))))], wM Y a M, wM Y b N, wP Y d P n t kd V vc] F) s0.heap := hP
  have hD : va_D A (kw Y [[(w 0, .inr (7, [.ref (a 0), .ref (b 0), .ref (w 1), .ref (w 2), .ref (d 0)]))], [(w 1, .inr (2, [.ref (w 3), .int (nI o), .int (nI z)]))], [(w 2, .inl (Y 3, 2, .inr (.inr (.inr (.inr (kAn F 7 2))))))], [(w 3, .inl (Y 3, 7, .inr (.inr (.inr (.inr (kAn F 0 7))))))], wM Y a M, wM Y b N, wP Y d P n t kd V vc] F) := hD
  have hpl : (o + (z - 1)) % 7 < 7 := Nat.mod_lt _ (by decide)
  refine lv_aload_n hx hb dX2_bringBackLatest_0 rfl (lv_at hl 0 rfl) ?_
  refine gfX2_21 (v := .int (nI z)) hx hb hta hown hK hP 1 rfl rfl dX2_bringBackLatest_1 ?_
  refine lv_if_ne (tgt := 8) hx hb dX2_bringBackLatest_4 (by decide) (fun _ => ?_) (fun h => absurd h (fun q => absurd ((nI_eq (a := z) (b := 0) (by omega) (by omega)).mp q) (by omega)))
  refine lv_aload_n hx hb dX2_bringBackLatest_8 rfl (lv_at hl 0 rfl) ?_
  refine lv_dup hx hb dX2_bringBackLatest_9 rfl ?_
  refine gfX2_21 (v := .int (nI z)) hx hb hta hown hK hP 1 rfl rfl dX2_bringBackLatest_10 ?_
  refine lv_iconst (v := 1) hx hb dX2_bringBackLatest_13 (by decide) ?_
  refine lv_isub hx hb dX2_bringBackLatest_14 ?_
  refine kTop (y := nI (z - 1)) (pk_sub (a := z) (b := 1) (by omega)) ?_
  refine pfX2_21 (ws1 := kw Y [[(w 0, .inr (7, [.ref (a 0), .ref (b 0), .ref (w 1), .ref (w 2), .ref (d 0)]))], [(w 1, .inr (2, [.ref (w 3), .int (nI o), .int (nI (z - 1))]))], [(w 2, .inl (Y 3, 2, .inr (.inr (.inr (.inr (kAn F 7 2))))))], [(w 3, .inl (Y 3, 7, .inr (.inr (.inr (.inr (kAn F 0 7))))))], wM Y a M, wM Y b N, wP Y d P n t kd V vc] F) hx hb hta hown hK hP hD hS 1 rfl (Nat.le_of_ble_eq_true rfl) rfl dX2_bringBackLatest_15 (fun H locs hP hD hS => ?_)
  refine lv_aload_n hx hb dX2_bringBackLatest_18 rfl (lv_at hl 0 rfl) ?_
  refine gfX2_13 (v := .ref (w 3)) hx hb hta hown hK hP 1 rfl rfl dX2_bringBackLatest_19 ?_
  refine lv_aload_n hx hb dX2_bringBackLatest_22 rfl (lv_at hl 0 rfl) ?_
  refine gfX2_17 (v := .int (nI o)) hx hb hta hown hK hP 1 rfl rfl dX2_bringBackLatest_23 ?_
  refine lv_aload_n hx hb dX2_bringBackLatest_26 rfl (lv_at hl 0 rfl) ?_
  refine gfX2_21 (v := .int (nI (z - 1))) hx hb hta hown hK hP 1 rfl rfl dX2_bringBackLatest_27 ?_
  refine lv_iadd hx hb dX2_bringBackLatest_30 ?_
  refine kTop (nI_add o (z - 1)) ?_
  refine lv_bipush (v := 7) hx hb dX2_bringBackLatest_31 (by decide) ?_
  refine lv_irem hx hb dX2_bringBackLatest_33 (by decide) ?_
  refine kTop (kRem7 (a := o + (z - 1)) (by omega)) ?_
  refine kaald (f := kAn F 0 7) hx hb hK hP 3 rfl ((o + (z - 1)) % 7) rfl (by omega) (by omega) dX2_bringBackLatest_34 ?_
  refine kTopv (kAn_s (i := 0) (q := ((o + (z - 1)) % 7)) (by omega) (by rw [Nat.zero_add]; exact hF)) ?_
  refine lv_astore_n (lv' := [(2, .ref (α 0)), (0, .ref (w 1)), (1, .ref (a 0))]) hx hb dX2_bringBackLatest_35 rfl hl (by decide) rfl (fun ls hl => ?_)
  refine lv_aload_n hx hb dX2_bringBackLatest_36 rfl (lv_at hl 0 rfl) ?_
  refine lv_ifnull hx hb dX2_bringBackLatest_37 ?_
  refine lv_aload_n hx hb dX2_bringBackLatest_40 rfl (lv_at hl 2 rfl) ?_
  refine lv_aload_n hx hb dX2_bringBackLatest_41 rfl (lv_at hl 0 rfl) ?_
  refine kc_v (krV (As := [.ref (α 0)]) (rest := []) (c_X3_copyFrom l D Y α X a M hXI) ⟨hx, hb, hml, hown, hta⟩ (cwX2_25 hta ⟨Nat.le_of_ble_eq_true rfl, Nat.le_of_ble_eq_true rfl⟩) kX0b (fun _ _ _ => trivial) hK hNs hP hD (kJ_Fm 4 rfl (by omega) rfl (q := ((o + (z - 1)) % 7)) (by omega) hF) (q0 := 24) rfl rfl rfl rfl hl.1 rfl (Nat.le_of_ble_eq_true rfl) dX2_bringBackLatest_42 ⟨Nat.le_of_ble_eq_true rfl, Nat.le_of_ble_eq_true rfl⟩) hP hD hS hA (kJ_Fm 4 rfl (by omega) rfl (q := ((o + (z - 1)) % 7)) (by omega) hF) (fun _ => rfl) (fun u H locs hw hP hD hS => ?_)
  subst hw
  rw [kw_Fm 4 rfl (by omega) (q := ((o + (z - 1)) % 7)) (by omega) hF] at hP hD
  have hP : va_P D vwCl (kw Y [[(w 0, .inr (7, [.ref (a 0), .ref (b 0), .ref (w 1), .ref (w 2), .ref (d 0)]))], [(w 1, .inr (2, [.ref (w 3), .int (nI o), .int (nI (z - 1))]))], [(w 2, .inl (Y 3, 2, .inr (.inr (.inr (.inr (kAn F 7 2))))))], [(w 3, .inl (Y 3, 7, .inr (.inr (.inr (.inr (kAn F 0 7))))))], wM Y a (cCopy X M), wM Y b N, wP Y d P n t kd V vc] F) H := hP
  have hD : va_D A (kw Y [[(w 0, .inr (7, [.ref (a 0), .ref (b 0), .ref (w 1), .ref (w 2), .ref (d 0)]))], [(w 1, .inr (2, [.ref (w 3), .int (nI o), .int (nI (z - 1))]))], [(w 2, .inl (Y 3, 2, .inr (.inr (.inr (.inr (kAn F 7 2))))))], [(w 3, .inl (Y 3, 7, .inr (.inr (.inr (.inr (kAn F 0 7))))))], wM Y a (cCopy X M), wM Y b N, wP Y d P n t kd V vc] F) := hD
  exact kvret (cCopy X M) hQ hx hb hr hlocks hP hS dX2_bringBackLatest_45 rfl
