set_option maxHeartbeats 4000000 in
set_option maxRecDepth 100000 in
theorem c_X0_init (l : Launch) (D : va_G) (Y : Nat → ClassId) (x : Nat) : kM l yX0_init wX0_init rX0_init D Y ([(x, .inr (0, [.null, .null, .null, .null, .null, .null, .null, .null, .int 0]))]) [.ref x] kX0 (kQvn D (fun (_ : Nat → Nat) => True) (fun u => [(x, .inr (0, [.ref (u 0), .ref (u 1), .ref (u 2), .ref (u 3), .ref (u 4), .ref (u 5), .ref (u 6), .ref (u 7), .int 0])), (u 0, .inl (Y 0, 30, .inl (fun _ => 0))), (u 1, .inl (Y 0, 30, .inl (fun _ => 0))), (u 2, .inl (Y 0, 30, .inl (fun _ => 0))), (u 3, .inl (Y 0, 30, .inl (fun _ => 0))), (u 4, .inl (Y 0, 30, .inl (fun _ => 0))), (u 5, .inl (Y 0, 30, .inl (fun _ => 0))), (u 6, .inl (Y 0, 30, .inl (fun _ => 0))), (u 7, .inl (Y 0, 30, .inl (fun _ => 0)))])) := by
  refine kentry (cc := cX0_init) (maxL := 1) (ret := none) (by decide +kernel) rfl (Nat.le_of_ble_eq_true rfl) ?_
  intro p e s0 m args below meth c A Q ls hQ hx hb hr hlocks hml hown hin hta hA hX0 hK hNs hP hD hS hl
  have hown : s0.vm.findClass RX0 = some m.cls := hown
  have hl : lv_has ls 1 [(0, .ref x)] := hl
  refine lv_aload_n hx hb dX0_init_0 rfl (lv_at hl 0 rfl) ?_
  refine W.objInit hx hb hown (hta _ al_68) (hta _ al_21) (hta _ al_22) rfl (by rw [hml]; exact hl.1) rfl dX0_init_1 (Nat.le_of_ble_eq_true rfl) (Nat.le_of_ble_eq_true rfl) ?_
  refine W.eq (g2 := F0 m 4 ls []) rfl ?_
  refine lv_aload_n hx hb dX0_init_4 rfl (lv_at hl 0 rfl) ?_
  refine lv_bipush (v := 30) hx hb dX0_init_5 (by decide) ?_
  refine kinewa hx hb (hta _ al_40) hK hP hD hS hA 30 (by decide) rfl (Nat.le_of_ble_eq_true rfl) (Nat.le_of_ble_eq_true rfl) dX0_init_7 (fun q1 H hP hD hS => ?_)
  refine pfX0_9 (ws1 := [(x, .inr (0, [.ref q1, .null, .null, .null, .null, .null, .null, .null, .int 0]))] ++ [(q1, .inl (Y 0, 30, .inl (fun _ => 0)))]) hx hb hta hown hK hP hD hS hin 0 rfl (Nat.le_of_ble_eq_true rfl) rfl dX0_init_9 (fun H locs hP hD hS => ?_)
  refine lv_aload_n hx hb dX0_init_12 rfl (lv_at hl 0 rfl) ?_
  refine lv_bipush (v := 30) hx hb dX0_init_13 (by decide) ?_
  refine kinewa hx hb (hta _ al_40) hK hP hD hS hA 30 (by decide) rfl (Nat.le_of_ble_eq_true rfl) (Nat.le_of_ble_eq_true rfl) dX0_init_15 (fun q2 H hP hD hS => ?_)
  refine pfX0_15 (ws1 := [(x, .inr (0, [.ref q1, .ref q2, .null, .null, .null, .null, .null, .null, .int 0]))] ++ [(q1, .inl (Y 0, 30, .inl (fun _ => 0)))] ++ [(q2, .inl (Y 0, 30, .inl (fun _ => 0)))]) hx hb hta hown hK hP hD hS hin 0 rfl (Nat.le_of_ble_eq_true rfl) rfl dX0_init_17 (fun H locs hP hD hS => ?_)
  refine lv_aload_n hx hb dX0_init_20 rfl (lv_at hl 0 rfl) ?_
  refine lv_bipush (v := 30) hx hb dX0_init_21 (by decide) ?_
  refine kinewa hx hb (hta _ al_40) hK hP hD hS hA 30 (by decide) rfl (Nat.le_of_ble_eq_true rfl) (Nat.le_of_ble_eq_true rfl) dX0_init_23 (fun q3 H hP hD hS => ?_)
  refine pfX0_18 (ws1 := [(x, .inr (0, [.ref q1, .ref q2, .ref q3, .null, .null, .null, .null, .null, .int 0]))] ++ [(q1, .inl (Y 0, 30, .inl (fun _ => 0)))] ++ [(q2, .inl (Y 0, 30, .inl (fun _ => 0)))] ++ [(q3, .inl (Y 0, 30, .inl (fun _ => 0)))]) hx hb hta hown hK hP hD hS hin 0 rfl (Nat.le_of_ble_eq_true rfl) rfl dX0_init_25 (fun H locs hP hD hS => ?_)
  refine lv_aload_n hx hb dX0_init_28 rfl (lv_at hl 0 rfl) ?_
  refine lv_bipush (v := 30) hx hb dX0_init_29 (by decide) ?_
  refine kinewa hx hb (hta _ al_40) hK hP hD hS hA 30 (by decide) rfl (Nat.le_of_ble_eq_true rfl) (Nat.le_of_ble_eq_true rfl) dX0_init_31 (fun q4 H hP hD hS => ?_)
  refine pfX0_21 (ws1 := [(x, .inr (0, [.ref q1, .ref q2, .ref q3, .ref q4, .null, .null, .null, .null, .int 0]))] ++ [(q1, .inl (Y 0, 30, .inl (fun _ => 0)))] ++ [(q2, .inl (Y 0, 30, .inl (fun _ => 0)))] ++ [(q3, .inl (Y 0, 30, .inl (fun _ => 0)))] ++ [(q4, .inl (Y 0, 30, .inl (fun _ => 0)))]) hx hb hta hown hK hP hD hS hin 0 rfl (Nat.le_of_ble_eq_true rfl) rfl dX0_init_33 (fun H locs hP hD hS => ?_)
  refine lv_aload_n hx hb dX0_init_36 rfl (lv_at hl 0 rfl) ?_
  refine lv_bipush (v := 30) hx hb dX0_init_37 (by decide) ?_
  refine kinewa hx hb (hta _ al_40) hK hP hD hS hA 30 (by decide) rfl (Nat.le_of_ble_eq_true rfl) (Nat.le_of_ble_eq_true rfl) dX0_init_39 (fun q5 H hP hD hS => ?_)
  refine pfX0_24 (ws1 := [(x, .inr (0, [.ref q1, .ref q2, .ref q3, .ref q4, .ref q5, .null, .null, .null, .int 0]))] ++ [(q1, .inl (Y 0, 30, .inl (fun _ => 0)))] ++ [(q2, .inl (Y 0, 30, .inl (fun _ => 0)))] ++ [(q3, .inl (Y 0, 30, .inl (fun _ => 0)))] ++ [(q4, .inl (Y 0, 30, .inl (fun _ => 0)))] ++ [(q5, .inl (Y 0, 30, .inl (fun _ => 0)))]) hx hb hta hown hK hP hD hS hin 0 rfl (Nat.le_of_ble_eq_true rfl) rfl dX0_init_41 (fun H locs hP hD hS => ?_)
  refine lv_aload_n hx hb dX0_init_44 rfl (lv_at hl 0 rfl) ?_
  refine lv_bipush (v := 30) hx hb dX0_init_45 (by decide) ?_
  refine kinewa hx hb (hta _ al_40) hK hP hD hS hA 30 (by decide) rfl (Nat.le_of_ble_eq_true rfl) (Nat.le_of_ble_eq_true rfl) dX0_init_47 (fun q6 H hP hD hS => ?_)
  refine pfX0_27 (ws1 := [(x, .inr (0, [.ref q1, .ref q2, .ref q3, .ref q4, .ref q5, .ref q6, .null, .null, .int 0]))] ++ [(q1, .inl (Y 0, 30, .inl (fun _ => 0)))] ++ [(q2, .inl (Y 0, 30, .inl (fun _ => 0)))] ++ [(q3, .inl (Y 0, 30, .inl (fun _ => 0)))] ++ [(q4, .inl (Y 0, 30, .inl (fun _ => 0)))] ++ [(q5, .inl (Y 0, 30, .inl (fun _ => 0)))] ++ [(q6, .inl (Y 0, 30, .inl (fun _ => 0)))]) hx hb hta hown hK hP hD hS hin 0 rfl (Nat.le_of_ble_eq_true rfl) rfl dX0_init_49 (fun H locs hP hD hS => ?_)
  refine lv_aload_n hx hb dX0_init_52 rfl (lv_at hl 0 rfl) ?_
  refine lv_bipush (v := 30) hx hb dX0_init_53 (by decide) ?_
  refine kinewa hx hb (hta _ al_40) hK hP hD hS hA 30 (by decide) rfl (Nat.le_of_ble_eq_true rfl) (Nat.le_of_ble_eq_true rfl) dX0_init_55 (fun q7 H hP hD hS => ?_)
  refine pfX0_30 (ws1 := [(x, .inr (0, [.ref q1, .ref q2, .ref q3, .ref q4, .ref q5, .ref q6, .ref q7, .null, .int 0]))] ++ [(q1, .inl (Y 0, 30, .inl (fun _ => 0)))] ++ [(q2, .inl (Y 0, 30, .inl (fun _ => 0)))] ++ [(q3, .inl (Y 0, 30, .inl (fun _ => 0)))] ++ [(q4, .inl (Y 0, 30, .inl (fun _ => 0)))] ++ [(q5, .inl (Y 0, 30, .inl (fun _ => 0)))] ++ [(q6, .inl (Y 0, 30, .inl (fun _ => 0)))] ++ [(q7, .inl (Y 0, 30, .inl (fun _ => 0)))]) hx hb hta hown hK hP hD hS hin 0 rfl (Nat.le_of_ble_eq_true rfl) rfl dX0_init_57 (fun H locs hP hD hS => ?_)
  refine lv_aload_n hx hb dX0_init_60 rfl (lv_at hl 0 rfl) ?_
  refine lv_bipush (v := 30) hx hb dX0_init_61 (by decide) ?_
  refine kinewa hx hb (hta _ al_40) hK hP hD hS hA 30 (by decide) rfl (Nat.le_of_ble_eq_true rfl) (Nat.le_of_ble_eq_true rfl) dX0_init_63 (fun q8 H hP hD hS => ?_)
  refine pfX0_33 (ws1 := [(x, .inr (0, [.ref q1, .ref q2, .ref q3, .ref q4, .ref q5, .ref q6, .ref q7, .ref q8, .int 0]))] ++ [(q1, .inl (Y 0, 30, .inl (fun _ => 0)))] ++ [(q2, .inl (Y 0, 30, .inl (fun _ => 0)))] ++ [(q3, .inl (Y 0, 30, .inl (fun _ => 0)))] ++ [(q4, .inl (Y 0, 30, .inl (fun _ => 0)))] ++ [(q5, .inl (Y 0, 30, .inl (fun _ => 0)))] ++ [(q6, .inl (Y 0, 30, .inl (fun _ => 0)))] ++ [(q7, .inl (Y 0, 30, .inl (fun _ => 0)))] ++ [(q8, .inl (Y 0, 30, .inl (fun _ => 0)))]) hx hb hta hown hK hP hD hS hin 0 rfl (Nat.le_of_ble_eq_true rfl) rfl dX0_init_65 (fun H locs hP hD hS => ?_)
  refine W.widen (k := 8) (n := 240) (by first | exact Nat.le_refl _ | omega) (by first | exact Nat.le_refl _ | omega) ?_
  exact kvretn ((fun k => ([q1, q2, q3, q4, q5, q6, q7, q8] : List Nat).getD k 0)) hQ hx hb hr hlocks hP hD hS dX0_init_68 trivial
