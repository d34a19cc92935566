set_option maxHeartbeats 4000000 in
set_option maxRecDepth 100000 in
theorem c_X7_init (l : Launch) (D : va_G) (Y : Nat → ClassId) (x : Nat) : kM l yX7_init wX7_init rX7_init D Y ([(x, .inr (7, [.null, .null, .null, .null, .null]))]) [.ref x] kXo (kQvn D (fun (u : (Nat → Nat) × (Nat → Nat) × (Nat → Nat) × (Nat → Nat)) => u.1 0 = x) (fun u => wC Y u.1 u.2.1 u.2.2.1 u.2.2.2 cNew cNew (fun _ => none) 0 0 (fun _ => 0) 0 0 0 (fun _ => 0) 0)) := by
  refine kentry (cc := cX7_init) (maxL := 1) (ret := none) (by decide +kernel) rfl (Nat.le_of_ble_eq_true rfl) ?_
  intro p e s0 m args below meth c A Q ls hQ hx hb hr hlocks hml hown hin hta hA hX0 hK hNs hP hD hS hl
  have hown : s0.vm.findClass RX7 = some m.cls := hown
  have hl : lv_has ls 1 [(0, .ref x)] := hl
  refine lv_aload_n hx hb dX7_init_0 rfl (lv_at hl 0 rfl) ?_
  refine W.objInit hx hb hown (hta _ al_20) (hta _ al_21) (hta _ al_22) rfl (by rw [hml]; exact hl.1) rfl dX7_init_1 (Nat.le_of_ble_eq_true rfl) (Nat.le_of_ble_eq_true rfl) ?_
  refine W.eq (g2 := F0 m 4 ls []) rfl ?_
  refine lv_aload_n hx hb dX7_init_4 rfl (lv_at hl 0 rfl) ?_
  refine va_new (ci := 3) (fs := [.null, .null, .null, .null, .null, .int 0, .int 0, .int 0, .int 0]) (C := RX3) (T := TX3) (N := 9) hx hb hta inA3 tyX3 tyX3_ok hown (hta _ al_23) (hta _ al_24) (hta _ al_25) hK hP hD hS hA rfl (fun j hj => by rcases (show j = 0 ∨ j = 1 ∨ j = 2 ∨ j = 3 ∨ j = 4 ∨ j = 5 ∨ j = 6 ∨ j = 7 ∨ j = 8 by omega) with rfl | rfl | rfl | rfl | rfl | rfl | rfl | rfl | rfl <;> rfl) (Nat.le_of_ble_eq_true rfl) (Nat.le_of_ble_eq_true rfl) dX7_init_5 (fun q1 H hP hD hS => ?_)
  refine lv_dup hx hb dX7_init_8 rfl ?_
  refine kc_vn (krIN (As := []) (rest := [.ref q1, .ref x]) (c_X3_init l D Y q1) ⟨hx, hb, hml, hown, hta⟩ (cwX7_9 hta hNs ⟨Nat.le_of_ble_eq_true rfl, Nat.le_of_ble_eq_true rfl⟩) kX0b (fun _ _ _ => trivial) hK hNs hP hD (kJ_of (List.Perm.refl _)) rfl hl.1 rfl (Nat.le_of_ble_eq_true rfl) dX7_init_9 ⟨Nat.le_of_ble_eq_true rfl, Nat.le_of_ble_eq_true rfl⟩) hP hD hS hA (kJn_r) (fun u2 H locs hw hP hD hS => ?_)
  have hu2 := hw
  have hP : va_P D vwCl ([(x, .inr (7, [.null, .null, .null, .null, .null]))] ++ wM Y u2 cNew) H := hP
  have hD : va_D A ([(x, .inr (7, [.null, .null, .null, .null, .null]))] ++ wM Y u2 cNew) := hD
  refine pfX7_10 (ws1 := [(x, .inr (7, [.ref q1, .null, .null, .null, .null]))] ++ wM Y u2 cNew) hx hb hta hown hK hP hD hS hin 0 rfl (Nat.le_of_ble_eq_true rfl) rfl dX7_init_12 (fun H locs hP hD hS => ?_)
  refine lv_aload_n hx hb dX7_init_15 rfl (lv_at hl 0 rfl) ?_
  refine va_new (ci := 3) (fs := [.null, .null, .null, .null, .null, .int 0, .int 0, .int 0, .int 0]) (C := RX3) (T := TX3) (N := 9) hx hb hta inA3 tyX3 tyX3_ok hown (hta _ al_23) (hta _ al_24) (hta _ al_25) hK hP hD hS hA rfl (fun j hj => by rcases (show j = 0 ∨ j = 1 ∨ j = 2 ∨ j = 3 ∨ j = 4 ∨ j = 5 ∨ j = 6 ∨ j = 7 ∨ j = 8 by omega) with rfl | rfl | rfl | rfl | rfl | rfl | rfl | rfl | rfl <;> rfl) (Nat.le_of_ble_eq_true rfl) (Nat.le_of_ble_eq_true rfl) dX7_init_16 (fun q4 H hP hD hS => ?_)
  refine lv_dup hx hb dX7_init_19 rfl ?_
  refine kc_vn (krIN (As := []) (rest := [.ref q4, .ref x]) (c_X3_init l D Y q4) ⟨hx, hb, hml, hown, hta⟩ (cwX7_9 hta hNs ⟨Nat.le_of_ble_eq_true rfl, Nat.le_of_ble_eq_true rfl⟩) kX0b (fun _ _ _ => trivial) hK hNs hP hD (kJ_of (List.Perm.refl _)) rfl hl.1 rfl (Nat.le_of_ble_eq_true rfl) dX7_init_20 ⟨Nat.le_of_ble_eq_true rfl, Nat.le_of_ble_eq_true rfl⟩) hP hD hS hA (kJn_r) (fun u5 H locs hw hP hD hS => ?_)
  have hu5 := hw
  have hP : va_P D vwCl ([(x, .inr (7, [.ref q1, .null, .null, .null, .null]))] ++ wM Y u2 cNew ++ wM Y u5 cNew) H := hP
  have hD : va_D A ([(x, .inr (7, [.ref q1, .null, .null, .null, .null]))] ++ wM Y u2 cNew ++ wM Y u5 cNew) := hD
  refine pfX7_16 (ws1 := [(x, .inr (7, [.ref q1, .ref q4, .null, .null, .null]))] ++ wM Y u2 cNew ++ wM Y u5 cNew) hx hb hta hown hK hP hD hS hin 0 rfl (Nat.le_of_ble_eq_true rfl) rfl dX7_init_23 (fun H locs hP hD hS => ?_)
  refine lv_aload_n hx hb dX7_init_26 rfl (lv_at hl 0 rfl) ?_
  refine va_new (ci := 2) (fs := [.null, .int 0, .int 0]) (C := RX2) (T := TX2) (N := 3) hx hb hta inA2 tyX2 tyX2_ok hown (hta _ al_28) (hta _ al_29) (hta _ al_30) hK hP hD hS hA rfl (fun j hj => by rcases (show j = 0 ∨ j = 1 ∨ j = 2 by omega) with rfl | rfl | rfl <;> rfl) (Nat.le_of_ble_eq_true rfl) (Nat.le_of_ble_eq_true rfl) dX7_init_27 (fun q7 H hP hD hS => ?_)
  refine lv_dup hx hb dX7_init_30 rfl ?_
  refine kc_vn (krIN (As := []) (rest := [.ref q7, .ref x]) (c_X2_init l D Y q7) ⟨hx, hb, hml, hown, hta⟩ (cwX7_21 hta hNs ⟨Nat.le_of_ble_eq_true rfl, Nat.le_of_ble_eq_true rfl⟩) kXo_b (kXo_go hX0) hK hNs hP hD (kJ_of (List.Perm.refl _)) rfl hl.1 rfl (Nat.le_of_ble_eq_true rfl) dX7_init_31 ⟨Nat.le_of_ble_eq_true rfl, Nat.le_of_ble_eq_true rfl⟩) hP hD hS hA (kJn_r) (fun u8 H locs hw hP hD hS => ?_)
  have hP : va_P D vwCl ([(x, .inr (7, [.ref q1, .ref q4, .null, .null, .null]))] ++ wM Y u2 cNew ++ wM Y u5 cNew ++ [(q7, .inr (2, [.ref u8, .int (nI 0), .int (nI 0)])), (u8, .inl (Y 3, 7, .inr (.inr (.inr (.inr (fun _ => none))))))]) H := hP
  have hD : va_D A ([(x, .inr (7, [.ref q1, .ref q4, .null, .null, .null]))] ++ wM Y u2 cNew ++ wM Y u5 cNew ++ [(q7, .inr (2, [.ref u8, .int (nI 0), .int (nI 0)])), (u8, .inl (Y 3, 7, .inr (.inr (.inr (.inr (fun _ => none))))))]) := hD
  refine pfX7_22 (ws1 := [(x, .inr (7, [.ref q1, .ref q4, .ref q7, .null, .null]))] ++ wM Y u2 cNew ++ wM Y u5 cNew ++ [(q7, .inr (2, [.ref u8, .int (nI 0), .int (nI 0)])), (u8, .inl (Y 3, 7, .inr (.inr (.inr (.inr (fun _ => none))))))]) hx hb hta hown hK hP hD hS hin 0 rfl (Nat.le_of_ble_eq_true rfl) rfl dX7_init_34 (fun H locs hP hD hS => ?_)
  refine lv_aload_n hx hb dX7_init_37 rfl (lv_at hl 0 rfl) ?_
  refine lv_iconst (v := 2) hx hb dX7_init_38 (by decide) ?_
  refine kqnewa hx hb hown (hta _ al_23) hX0 hK hP hD hS hA 2 (by decide) rfl (Nat.le_of_ble_eq_true rfl) (Nat.le_of_ble_eq_true rfl) dX7_init_39 (fun q10 H hP hD hS => ?_)
  refine pfX7_26 (ws1 := [(x, .inr (7, [.ref q1, .ref q4, .ref q7, .ref q10, .null]))] ++ wM Y u2 cNew ++ wM Y u5 cNew ++ [(q7, .inr (2, [.ref u8, .int (nI 0), .int (nI 0)])), (u8, .inl (Y 3, 7, .inr (.inr (.inr (.inr (fun _ => none))))))] ++ [(q10, .inl (Y 3, 2, .inr (.inr (.inr (.inr (fun _ => none))))))]) hx hb hta hown hK hP hD hS hin 0 rfl (Nat.le_of_ble_eq_true rfl) rfl dX7_init_42 (fun H locs hP hD hS => ?_)
  refine lv_aload_n hx hb dX7_init_45 rfl (lv_at hl 0 rfl) ?_
  refine va_new (ci := 4) (fs := [.null, .int 0, .int 0, .int 0, .null, .int 0]) (C := RX4) (T := TX4) (N := 6) hx hb hta inA4 tyX4 tyX4_ok hown (hta _ al_33) (hta _ al_34) (hta _ al_35) hK hP hD hS hA rfl (fun j hj => by rcases (show j = 0 ∨ j = 1 ∨ j = 2 ∨ j = 3 ∨ j = 4 ∨ j = 5 by omega) with rfl | rfl | rfl | rfl | rfl | rfl <;> rfl) (Nat.le_of_ble_eq_true rfl) (Nat.le_of_ble_eq_true rfl) dX7_init_46 (fun q11 H hP hD hS => ?_)
  refine lv_dup hx hb dX7_init_49 rfl ?_
  refine kc_vn (krIN (As := []) (rest := [.ref q11, .ref x]) (c_X4_init l D Y q11) ⟨hx, hb, hml, hown, hta⟩ (cwX7_32 hta hNs ⟨Nat.le_of_ble_eq_true rfl, Nat.le_of_ble_eq_true rfl⟩) kX0b (fun _ _ _ => trivial) hK hNs hP hD (kJ_of (List.Perm.refl _)) rfl hl.1 rfl (Nat.le_of_ble_eq_true rfl) dX7_init_50 ⟨Nat.le_of_ble_eq_true rfl, Nat.le_of_ble_eq_true rfl⟩) hP hD hS hA (kJn_r) (fun u12 H locs hw hP hD hS => ?_)
  have hu12 := hw
  have hP : va_P D vwCl ([(x, .inr (7, [.ref q1, .ref q4, .ref q7, .ref q10, .null]))] ++ wM Y u2 cNew ++ wM Y u5 cNew ++ [(q7, .inr (2, [.ref u8, .int (nI 0), .int (nI 0)])), (u8, .inl (Y 3, 7, .inr (.inr (.inr (.inr (fun _ => none))))))] ++ [(q10, .inl (Y 3, 2, .inr (.inr (.inr (.inr (fun _ => none))))))] ++ wP Y u12 (fun _ => 0) 0 0 0 (fun _ => 0) 0) H := hP
  have hD : va_D A ([(x, .inr (7, [.ref q1, .ref q4, .ref q7, .ref q10, .null]))] ++ wM Y u2 cNew ++ wM Y u5 cNew ++ [(q7, .inr (2, [.ref u8, .int (nI 0), .int (nI 0)])), (u8, .inl (Y 3, 7, .inr (.inr (.inr (.inr (fun _ => none))))))] ++ [(q10, .inl (Y 3, 2, .inr (.inr (.inr (.inr (fun _ => none))))))] ++ wP Y u12 (fun _ => 0) 0 0 0 (fun _ => 0) 0) := hD
  refine pfX7_33 (ws1 := [(x, .inr (7, [.ref q1, .ref q4, .ref q7, .ref q10, .ref q11]))] ++ wM Y u2 cNew ++ wM Y u5 cNew ++ [(q7, .inr (2, [.ref u8, .int (nI 0), .int (nI 0)])), (u8, .inl (Y 3, 7, .inr (.inr (.inr (.inr (fun _ => none))))))] ++ [(q10, .inl (Y 3, 2, .inr (.inr (.inr (.inr (fun _ => none))))))] ++ wP Y u12 (fun _ => 0) 0 0 0 (fun _ => 0) 0) hx hb hta hown hK hP hD hS hin 0 rfl (Nat.le_of_ble_eq_true rfl) rfl dX7_init_53 (fun H locs hP hD hS => ?_)
  rw [← hu2, ← hu5, ← hu12] at hP hD
  have hP : va_P D vwCl (wC Y (fun k => ([x, q7, q10, u8] : List Nat).getD k 0) u2 u5 u12 cNew cNew (fun _ => none) 0 0 (fun _ => 0) 0 0 0 (fun _ => 0) 0) H := by
    unfold wC
    rw [kAn_0, kAn_0]
    exact kP_perm (kperm7 _ _ _ _ (wM Y u2 cNew ++ wM Y u5 cNew) (wP Y u12 (fun _ => 0) 0 0 0 (fun _ => 0) 0)) hP
  have hD : va_D A (wC Y (fun k => ([x, q7, q10, u8] : List Nat).getD k 0) u2 u5 u12 cNew cNew (fun _ => none) 0 0 (fun _ => 0) 0 0 0 (fun _ => 0) 0) := by
    unfold wC
    rw [kAn_0, kAn_0]
    exact kD_perm (kperm7 _ _ _ _ (wM Y u2 cNew ++ wM Y u5 cNew) (wP Y u12 (fun _ => 0) 0 0 0 (fun _ => 0) 0)) hD
  refine W.widen (k := 54) (n := 3138) (by first | exact Nat.le_refl _ | exact Nat.le_of_ble_eq_true rfl | omega) (by first | exact Nat.le_refl _ | exact Nat.le_of_ble_eq_true rfl | omega) ?_
  exact kvretn (((fun k => ([x, q7, q10, u8] : List Nat).getD k 0), u2, u5, u12)) hQ hx hb hr hlocks hP hD hS dX7_init_56 rfl
