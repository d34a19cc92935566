set_option maxHeartbeats 4000000 in
set_option maxRecDepth 100000 in
theorem c_X7_field (l : Launch) (D : va_G) (Y : Nat → ClassId) (w a b d : Nat → Nat) (M N : kN) (F : kFm) (o z : Nat) (P : Nat → Int32) (n t : Nat) (kd : Int32) (V : Nat → Int32) (vc : Nat) (g q p0 b0 : Int32) (hI : cI M) (ho : o < 7) (hz : z ≤ 6) : kM l yX7_field wX7_field rX7_field D Y (wC Y w a b d M N F o z P n t kd V vc) [.ref (w 0), .int g, .int q, .int p0, .int b0] kX0 (kQin D (fun r u => r = (cField M g q p0 b0).1 ∧ kSt M F o z r (cField M g q p0 b0).2 u) (fun u => wC Y w a b d u.1 N u.2.1 u.2.2.1 u.2.2.2 P n t kd V vc)) := by
  refine kentry (cc := cX7_field) (maxL := 5) (ret := (some .int)) (by decide +kernel) rfl (Nat.le_of_ble_eq_true rfl) ?_
  intro p e s0 m args below meth c A Q ls hQ hx hb hr hlocks hml hown hin hta hA hX0 hK hNs hP hD hS hl
  have hown : s0.vm.findClass RX7 = some m.cls := hown
  have hl : lv_has ls 5 [(0, .ref (w 0)), (1, .int g), (2, .int q), (3, .int p0), (4, .int b0)] := hl
  have hP : va_P D vwCl (kw Y [[(w 0, .inr (7, [.ref (a 0), .ref (b 0), .ref (w 1), .ref (w 2), .ref (d 0)]))], [(w 1, .inr (2, [.ref (w 3), .int (nI o), .int (nI z)]))], [(w 2, .inl (Y 3, 2, .inr (.inr (.inr (.inr (kAn F 7 2))))))], [(w 3, .inl (Y 3, 7, .inr (.inr (.inr (.inr (kAn F 0 7))))))], wM Y a M, wM Y b N, wP Y d P n t kd V vc] F) s0.heap := hP
  have hD : va_D A (kw Y [[(w 0, .inr (7, [.ref (a 0), .ref (b 0), .ref (w 1), .ref (w 2), .ref (d 0)]))], [(w 1, .inr (2, [.ref (w 3), .int (nI o), .int (nI z)]))], [(w 2, .inl (Y 3, 2, .inr (.inr (.inr (.inr (kAn F 7 2))))))], [(w 3, .inl (Y 3, 7, .inr (.inr (.inr (.inr (kAn F 0 7))))))], wM Y a M, wM Y b N, wP Y d P n t kd V vc] F) := hD
  refine lv_aload_n hx hb dX7_field_0 rfl (lv_at hl 0 rfl) ?_
  refine gfX7_22 (v := .ref (w 1)) hx hb hta hown hK hP 0 rfl rfl dX7_field_1 ?_
  refine lv_aload_n hx hb dX7_field_4 rfl (lv_at hl 0 rfl) ?_
  refine gfX7_10 (v := .ref (a 0)) hx hb hta hown hK hP 0 rfl rfl dX7_field_5 ?_
  refine kc_vn (krV (As := [.ref (a 0)]) (rest := []) (c_X2_prepare l D Y w a b d M N F o z P n t kd V vc hI ho hz) ⟨hx, hb, hml, hown, hta⟩ (cwX7_37 hta ⟨Nat.le_of_ble_eq_true rfl, Nat.le_of_ble_eq_true rfl⟩) kX0b (fun _ _ _ => trivial) hK hNs hP hD (kJ_all) (q0 := 1) rfl rfl rfl rfl hl.1 rfl (Nat.le_of_ble_eq_true rfl) dX7_field_8 ⟨Nat.le_of_ble_eq_true rfl, Nat.le_of_ble_eq_true rfl⟩) hP hD hS hA (kJn_all) (fun F1 H locs hw hP hD hS => ?_)
  have hF1 := hw
  have hP : va_P D vwCl (kw Y [[(w 0, .inr (7, [.ref (a 0), .ref (b 0), .ref (w 1), .ref (w 2), .ref (d 0)]))], [(w 1, .inr (2, [.ref (w 3), .int (nI o), .int (nI z)]))], [(w 2, .inl (Y 3, 2, .inr (.inr (.inr (.inr (kAn F1 7 2))))))], [(w 3, .inl (Y 3, 7, .inr (.inr (.inr (.inr (kAn F1 0 7))))))], wM Y a M, wM Y b N, wP Y d P n t kd V vc] F1) H := hP
  have hD : va_D A (kw Y [[(w 0, .inr (7, [.ref (a 0), .ref (b 0), .ref (w 1), .ref (w 2), .ref (d 0)]))], [(w 1, .inr (2, [.ref (w 3), .int (nI o), .int (nI z)]))], [(w 2, .inl (Y 3, 2, .inr (.inr (.inr (.inr (kAn F1 7 2))))))], [(w 3, .inl (Y 3, 7, .inr (.inr (.inr (.inr (kAn F1 0 7))))))], wM Y a M, wM Y b N, wP Y d P n t kd V vc] F1) := hD
  refine lv_aload_n hx hb dX7_field_11 rfl (lv_at hl 0 rfl) ?_
  refine gfX7_22 (v := .ref (w 1)) hx hb hta hown hK hP 0 rfl rfl dX7_field_12 ?_
  refine lv_aload_n hx hb dX7_field_15 rfl (lv_at hl 0 rfl) ?_
  refine gfX7_10 (v := .ref (a 0)) hx hb hta hown hK hP 0 rfl rfl dX7_field_16 ?_
  refine lv_iload_n hx hb dX7_field_19 rfl (lv_at hl 1 rfl) ?_
  refine lv_iload_n hx hb dX7_field_20 rfl (lv_at hl 2 rfl) ?_
  refine lv_iload_n hx hb dX7_field_21 rfl (lv_at hl 3 rfl) ?_
  refine lv_iload hx hb dX7_field_22 (lv_at hl 4 rfl) ?_
  refine kc_i (krV (As := [.int g, .int q, .int p0, .int b0]) (rest := [.ref (w 1)]) (c_X3_addField l D Y a M g q p0 b0 hI) ⟨hx, hb, hml, hown, hta⟩ (cwX7_56 hta ⟨Nat.le_of_ble_eq_true rfl, Nat.le_of_ble_eq_true rfl⟩) kX0b (fun _ _ _ => trivial) hK hNs hP hD (kJ_w 4 rfl) (q0 := 0) rfl rfl rfl rfl hl.1 rfl (Nat.le_of_ble_eq_true rfl) dX7_field_24 ⟨Nat.le_of_ble_eq_true rfl, Nat.le_of_ble_eq_true rfl⟩) hP hD hS hA (kJ_w 4 rfl) (fun _ => rfl) (fun r3 u H locs hw hP hD hS => ?_)
  obtain ⟨rfl, rfl⟩ := hw
  have hP : va_P D vwCl (kw Y [[(w 0, .inr (7, [.ref (a 0), .ref (b 0), .ref (w 1), .ref (w 2), .ref (d 0)]))], [(w 1, .inr (2, [.ref (w 3), .int (nI o), .int (nI z)]))], [(w 2, .inl (Y 3, 2, .inr (.inr (.inr (.inr (kAn F1 7 2))))))], [(w 3, .inl (Y 3, 7, .inr (.inr (.inr (.inr (kAn F1 0 7))))))], wM Y a ((cField M g q p0 b0).2), wM Y b N, wP Y d P n t kd V vc] F1) H := hP
  have hD : va_D A (kw Y [[(w 0, .inr (7, [.ref (a 0), .ref (b 0), .ref (w 1), .ref (w 2), .ref (d 0)]))], [(w 1, .inr (2, [.ref (w 3), .int (nI o), .int (nI z)]))], [(w 2, .inl (Y 3, 2, .inr (.inr (.inr (.inr (kAn F1 7 2))))))], [(w 3, .inl (Y 3, 7, .inr (.inr (.inr (.inr (kAn F1 0 7))))))], wM Y a ((cField M g q p0 b0).2), wM Y b N, wP Y d P n t kd V vc] F1) := hD
  refine kc_i (krV (As := [.int ((cField M g q p0 b0).1)]) (rest := []) (c_X2_recordUnlessError l D Y w a b d ((cField M g q p0 b0).2) N F1 o z P n t kd V vc ((cField M g q p0 b0).1) (by omega) (by omega)) ⟨hx, hb, hml, hown, hta⟩ (cwX7_45 hta ⟨Nat.le_of_ble_eq_true rfl, Nat.le_of_ble_eq_true rfl⟩) kX0b (fun _ _ _ => trivial) hK hNs hP hD (kJ_all) (q0 := 1) rfl rfl rfl rfl hl.1 rfl (Nat.le_of_ble_eq_true rfl) dX7_field_27 ⟨Nat.le_of_ble_eq_true rfl, Nat.le_of_ble_eq_true rfl⟩) hP hD hS hA (kJ_all) (fun _ => rfl) (fun r4 u H locs hw hP hD hS => ?_)
  obtain ⟨rfl, rfl⟩ := hw
  have hP : va_P D vwCl (kw Y [[(w 0, .inr (7, [.ref (a 0), .ref (b 0), .ref (w 1), .ref (w 2), .ref (d 0)]))], [(w 1, .inr (2, [.ref (w 3), .int (nI ((cRecd ((cField M g q p0 b0).1) o z).1)), .int (nI ((cRecd ((cField M g q p0 b0).1) o z).2))]))], [(w 2, .inl (Y 3, 2, .inr (.inr (.inr (.inr (kAn F1 7 2))))))], [(w 3, .inl (Y 3, 7, .inr (.inr (.inr (.inr (kAn F1 0 7))))))], wM Y a ((cField M g q p0 b0).2), wM Y b N, wP Y d P n t kd V vc] F1) H := hP
  have hD : va_D A (kw Y [[(w 0, .inr (7, [.ref (a 0), .ref (b 0), .ref (w 1), .ref (w 2), .ref (d 0)]))], [(w 1, .inr (2, [.ref (w 3), .int (nI ((cRecd ((cField M g q p0 b0).1) o z).1)), .int (nI ((cRecd ((cField M g q p0 b0).1) o z).2))]))], [(w 2, .inl (Y 3, 2, .inr (.inr (.inr (.inr (kAn F1 7 2))))))], [(w 3, .inl (Y 3, 7, .inr (.inr (.inr (.inr (kAn F1 0 7))))))], wM Y a ((cField M g q p0 b0).2), wM Y b N, wP Y d P n t kd V vc] F1) := hD
  refine W.widen (k := 24) (n := 1518) (by first | exact Nat.le_refl _ | exact Nat.le_of_ble_eq_true rfl | omega) (by first | exact Nat.le_refl _ | exact Nat.le_of_ble_eq_true rfl | omega) ?_
  exact kiretn (((cField M g q p0 b0).2, F1, cRecd ((cField M g q p0 b0).1) o z)) hQ hx hb hr hlocks hP hD hS dX7_field_30 (⟨rfl, rfl, hF1, rfl⟩)
