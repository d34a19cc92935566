set_option maxHeartbeats 4000000 in
set_option maxRecDepth 100000 in
theorem c_X1_init (l : Launch) (D : va_G) (Y : Nat → ClassId) (x : Nat) : kM l yX1_init wX1_init rX1_init D Y ([(x, .inr (1, [.null, .null, .null, .null, .null]))]) [.ref x] kX0 (kQvn D (fun (_ : Nat → Nat) => True) (fun u => [(x, .inr (1, [.ref (u 0), .ref (u 1), .ref (u 2), .ref (u 3), .ref (u 4)])), (u 0, .inl (Y 0, 6, .inl (upd (upd (upd (upd (upd (upd (fun _ => 0) 0 100) 1 100) 2 100) 3 100) 4 100) 5 100))), (u 1, .inl (Y 0, 6, .inl (fun _ => 0))), (u 2, .inl (Y 0, 6, .inl (fun _ => 0))), (u 3, .inl (Y 0, 6, .inl (fun _ => 0))), (u 4, .inl (Y 0, 6, .inl (fun _ => 0)))])) := by
  refine kentry (cc := cX1_init) (maxL := 1) (ret := none) (by decide +kernel) rfl (Nat.le_of_ble_eq_true rfl) ?_
  intro p e s0 m args below meth c A Q ls hQ hx hb hr hlocks hml hown hin hta hA hX0 hK hNs hP hD hS hl
  have hown : s0.vm.findClass RX1 = some m.cls := hown
  have hl : lv_has ls 1 [(0, .ref x)] := hl
  refine lv_aload_n hx hb dX1_init_0 rfl (lv_at hl 0 rfl) ?_
  refine W.objInit hx hb hown (hta _ al_60) (hta _ al_21) (hta _ al_22) rfl (by rw [hml]; exact hl.1) rfl dX1_init_1 (Nat.le_of_ble_eq_true rfl) (Nat.le_of_ble_eq_true rfl) ?_
  refine W.eq (g2 := F0 m 4 ls []) rfl ?_
  refine lv_aload_n hx hb dX1_init_4 rfl (lv_at hl 0 rfl) ?_
  refine lv_bipush (v := 6) hx hb dX1_init_5 (by decide) ?_
  refine kinewa hx hb (hta _ al_40) hK hP hD hS hA 6 (by decide) rfl (Nat.le_of_ble_eq_true rfl) (Nat.le_of_ble_eq_true rfl) dX1_init_7 (fun q1 H hP hD hS => ?_)
  refine lv_dup hx hb dX1_init_9 rfl ?_
  refine lv_iconst (v := 0) hx hb dX1_init_10 (by decide) ?_
  refine lv_bipush (v := 100) hx hb dX1_init_11 (by decide) ?_
  refine kiast (f := fun _ => 0) hx hb hK hP hD hS 1 rfl 0 rfl (by omega) (by omega) dX1_init_13 ([(x, .inr (1, [.null, .null, .null, .null, .null]))] ++ [(q1, .inl (Y 0, 6, .inl (upd (fun _ => 0) 0 100)))]) rfl (fun H locs hP hD hS => ?_)
  refine lv_dup hx hb dX1_init_14 rfl ?_
  refine lv_iconst (v := 1) hx hb dX1_init_15 (by decide) ?_
  refine lv_bipush (v := 100) hx hb dX1_init_16 (by decide) ?_
  refine kiast (f := upd (fun _ => 0) 0 100) hx hb hK hP hD hS 1 rfl 1 rfl (by omega) (by omega) dX1_init_18 ([(x, .inr (1, [.null, .null, .null, .null, .null]))] ++ [(q1, .inl (Y 0, 6, .inl (upd (upd (fun _ => 0) 0 100) 1 100)))]) rfl (fun H locs hP hD hS => ?_)
  refine lv_dup hx hb dX1_init_19 rfl ?_
  refine lv_iconst (v := 2) hx hb dX1_init_20 (by decide) ?_
  refine lv_bipush (v := 100) hx hb dX1_init_21 (by decide) ?_
  refine kiast (f := upd (upd (fun _ => 0) 0 100) 1 100) hx hb hK hP hD hS 1 rfl 2 rfl (by omega) (by omega) dX1_init_23 ([(x, .inr (1, [.null, .null, .null, .null, .null]))] ++ [(q1, .inl (Y 0, 6, .inl (upd (upd (upd (fun _ => 0) 0 100) 1 100) 2 100)))]) rfl (fun H locs hP hD hS => ?_)
  refine lv_dup hx hb dX1_init_24 rfl ?_
  refine lv_iconst (v := 3) hx hb dX1_init_25 (by decide) ?_
  refine lv_bipush (v := 100) hx hb dX1_init_26 (by decide) ?_
  refine kiast (f := upd (upd (upd (fun _ => 0) 0 100) 1 100) 2 100) hx hb hK hP hD hS 1 rfl 3 rfl (by omega) (by omega) dX1_init_28 ([(x, .inr (1, [.null, .null, .null, .null, .null]))] ++ [(q1, .inl (Y 0, 6, .inl (upd (upd (upd (upd (fun _ => 0) 0 100) 1 100) 2 100) 3 100)))]) rfl (fun H locs hP hD hS => ?_)
  refine lv_dup hx hb dX1_init_29 rfl ?_
  refine lv_iconst (v := 4) hx hb dX1_init_30 (by decide) ?_
  refine lv_bipush (v := 100) hx hb dX1_init_31 (by decide) ?_
  refine kiast (f := upd (upd (upd (upd (fun _ => 0) 0 100) 1 100) 2 100) 3 100) hx hb hK hP hD hS 1 rfl 4 rfl (by omega) (by omega) dX1_init_33 ([(x, .inr (1, [.null, .null, .null, .null, .null]))] ++ [(q1, .inl (Y 0, 6, .inl (upd (upd (upd (upd (upd (fun _ => 0) 0 100) 1 100) 2 100) 3 100) 4 100)))]) rfl (fun H locs hP hD hS => ?_)
  refine lv_dup hx hb dX1_init_34 rfl ?_
  refine lv_iconst (v := 5) hx hb dX1_init_35 (by decide) ?_
  refine lv_bipush (v := 100) hx hb dX1_init_36 (by decide) ?_
  refine kiast (f := upd (upd (upd (upd (upd (fun _ => 0) 0 100) 1 100) 2 100) 3 100) 4 100) hx hb hK hP hD hS 1 rfl 5 rfl (by omega) (by omega) dX1_init_38 ([(x, .inr (1, [.null, .null, .null, .null, .null]))] ++ [(q1, .inl (Y 0, 6, .inl (upd (upd (upd (upd (upd (upd (fun _ => 0) 0 100) 1 100) 2 100) 3 100) 4 100) 5 100)))]) rfl (fun H locs hP hD hS => ?_)
  refine pfX1_9 (ws1 := [(x, .inr (1, [.ref q1, .null, .null, .null, .null]))] ++ [(q1, .inl (Y 0, 6, .inl (upd (upd (upd (upd (upd (upd (fun _ => 0) 0 100) 1 100) 2 100) 3 100) 4 100) 5 100)))]) hx hb hta hown hK hP hD hS hin 0 rfl (Nat.le_of_ble_eq_true rfl) rfl dX1_init_39 (fun H locs hP hD hS => ?_)
  refine lv_aload_n hx hb dX1_init_42 rfl (lv_at hl 0 rfl) ?_
  refine lv_bipush (v := 6) hx hb dX1_init_43 (by decide) ?_
  refine kinewa hx hb (hta _ al_40) hK hP hD hS hA 6 (by decide) rfl (Nat.le_of_ble_eq_true rfl) (Nat.le_of_ble_eq_true rfl) dX1_init_45 (fun q2 H hP hD hS => ?_)
  refine pfX1_15 (ws1 := [(x, .inr (1, [.ref q1, .ref q2, .null, .null, .null]))] ++ [(q1, .inl (Y 0, 6, .inl (upd (upd (upd (upd (upd (upd (fun _ => 0) 0 100) 1 100) 2 100) 3 100) 4 100) 5 100)))] ++ [(q2, .inl (Y 0, 6, .inl (fun _ => 0)))]) hx hb hta hown hK hP hD hS hin 0 rfl (Nat.le_of_ble_eq_true rfl) rfl dX1_init_47 (fun H locs hP hD hS => ?_)
  refine lv_aload_n hx hb dX1_init_50 rfl (lv_at hl 0 rfl) ?_
  refine lv_bipush (v := 6) hx hb dX1_init_51 (by decide) ?_
  refine kinewa hx hb (hta _ al_40) hK hP hD hS hA 6 (by decide) rfl (Nat.le_of_ble_eq_true rfl) (Nat.le_of_ble_eq_true rfl) dX1_init_53 (fun q3 H hP hD hS => ?_)
  refine pfX1_18 (ws1 := [(x, .inr (1, [.ref q1, .ref q2, .ref q3, .null, .null]))] ++ [(q1, .inl (Y 0, 6, .inl (upd (upd (upd (upd (upd (upd (fun _ => 0) 0 100) 1 100) 2 100) 3 100) 4 100) 5 100)))] ++ [(q2, .inl (Y 0, 6, .inl (fun _ => 0)))] ++ [(q3, .inl (Y 0, 6, .inl (fun _ => 0)))]) hx hb hta hown hK hP hD hS hin 0 rfl (Nat.le_of_ble_eq_true rfl) rfl dX1_init_55 (fun H locs hP hD hS => ?_)
  refine lv_aload_n hx hb dX1_init_58 rfl (lv_at hl 0 rfl) ?_
  refine lv_bipush (v := 6) hx hb dX1_init_59 (by decide) ?_
  refine kinewa hx hb (hta _ al_40) hK hP hD hS hA 6 (by decide) rfl (Nat.le_of_ble_eq_true rfl) (Nat.le_of_ble_eq_true rfl) dX1_init_61 (fun q4 H hP hD hS => ?_)
  refine pfX1_21 (ws1 := [(x, .inr (1, [.ref q1, .ref q2, .ref q3, .ref q4, .null]))] ++ [(q1, .inl (Y 0, 6, .inl (upd (upd (upd (upd (upd (upd (fun _ => 0) 0 100) 1 100) 2 100) 3 100) 4 100) 5 100)))] ++ [(q2, .inl (Y 0, 6, .inl (fun _ => 0)))] ++ [(q3, .inl (Y 0, 6, .inl (fun _ => 0)))] ++ [(q4, .inl (Y 0, 6, .inl (fun _ => 0)))]) hx hb hta hown hK hP hD hS hin 0 rfl (Nat.le_of_ble_eq_true rfl) rfl dX1_init_63 (fun H locs hP hD hS => ?_)
  refine lv_aload_n hx hb dX1_init_66 rfl (lv_at hl 0 rfl) ?_
  refine lv_bipush (v := 6) hx hb dX1_init_67 (by decide) ?_
  refine kinewa hx hb (hta _ al_40) hK hP hD hS hA 6 (by decide) rfl (Nat.le_of_ble_eq_true rfl) (Nat.le_of_ble_eq_true rfl) dX1_init_69 (fun q5 H hP hD hS => ?_)
  refine pfX1_24 (ws1 := [(x, .inr (1, [.ref q1, .ref q2, .ref q3, .ref q4, .ref q5]))] ++ [(q1, .inl (Y 0, 6, .inl (upd (upd (upd (upd (upd (upd (fun _ => 0) 0 100) 1 100) 2 100) 3 100) 4 100) 5 100)))] ++ [(q2, .inl (Y 0, 6, .inl (fun _ => 0)))] ++ [(q3, .inl (Y 0, 6, .inl (fun _ => 0)))] ++ [(q4, .inl (Y 0, 6, .inl (fun _ => 0)))] ++ [(q5, .inl (Y 0, 6, .inl (fun _ => 0)))]) hx hb hta hown hK hP hD hS hin 0 rfl (Nat.le_of_ble_eq_true rfl) rfl dX1_init_71 (fun H locs hP hD hS => ?_)
  refine W.widen (k := 5) (n := 30) (by first | exact Nat.le_refl _ | omega) (by first | exact Nat.le_refl _ | omega) ?_
  exact kvretn ((fun k => ([q1, q2, q3, q4, q5] : List Nat).getD k 0)) hQ hx hb hr hlocks hP hD hS dX1_init_74 trivial
