set_option maxHeartbeats 4000000 in
set_option maxRecDepth 100000 in
theorem c_X5_init (l : Launch) (D : va_G) (Y : Nat → ClassId) (x : Nat) : kM l yX5_init wX5_init rX5_init D Y ([(x, .inr (5, [.null, .null, .int 0]))]) [.ref x] kX0 (kQvn D (fun (_ : Nat → Nat) => True) (fun u => [(x, .inr (5, [.ref (u 0), .ref (u 1), .int 0])), (u 0, .inl (Y 0, 5, .inl (fun _ => 0))), (u 1, .inl (Y 0, 5, .inl (fun _ => 0)))])) := by
  refine kentry (cc := cX5_init) (maxL := 1) (ret := none) (by decide +kernel) rfl (Nat.le_of_ble_eq_true rfl) ?_
  intro p e s0 m args below meth c A Q ls hQ hx hb hr hlocks hml hown hin hta hA hX0 hK hNs hP hD hS hl
  have hown : s0.vm.findClass RX5 = some m.cls := hown
  have hl : lv_has ls 1 [(0, .ref x)] := hl
  refine lv_aload_n hx hb dX5_init_0 rfl (lv_at hl 0 rfl) ?_
  refine W.objInit hx hb hown (hta _ al_79) (hta _ al_21) (hta _ al_22) rfl (by rw [hml]; exact hl.1) rfl dX5_init_1 (Nat.le_of_ble_eq_true rfl) (Nat.le_of_ble_eq_true rfl) ?_
  refine W.eq (g2 := F0 m 4 ls []) rfl ?_
  refine lv_aload_n hx hb dX5_init_4 rfl (lv_at hl 0 rfl) ?_
  refine lv_iconst (v := 5) hx hb dX5_init_5 (by decide) ?_
  refine kinewa hx hb (hta _ al_40) hK hP hD hS hA 5 (by decide) rfl (Nat.le_of_ble_eq_true rfl) (Nat.le_of_ble_eq_true rfl) dX5_init_6 (fun q1 H hP hD hS => ?_)
  refine pfX5_9 (ws1 := [(x, .inr (5, [.ref q1, .null, .int 0]))] ++ [(q1, .inl (Y 0, 5, .inl (fun _ => 0)))]) hx hb hta hown hK hP hD hS hin 0 rfl (Nat.le_of_ble_eq_true rfl) rfl dX5_init_8 (fun H locs hP hD hS => ?_)
  refine lv_aload_n hx hb dX5_init_11 rfl (lv_at hl 0 rfl) ?_
  refine lv_iconst (v := 5) hx hb dX5_init_12 (by decide) ?_
  refine kinewa hx hb (hta _ al_40) hK hP hD hS hA 5 (by decide) rfl (Nat.le_of_ble_eq_true rfl) (Nat.le_of_ble_eq_true rfl) dX5_init_13 (fun q2 H hP hD hS => ?_)
  refine pfX5_15 (ws1 := [(x, .inr (5, [.ref q1, .ref q2, .int 0]))] ++ [(q1, .inl (Y 0, 5, .inl (fun _ => 0)))] ++ [(q2, .inl (Y 0, 5, .inl (fun _ => 0)))]) hx hb hta hown hK hP hD hS hin 0 rfl (Nat.le_of_ble_eq_true rfl) rfl dX5_init_15 (fun H locs hP hD hS => ?_)
  refine W.widen (k := 2) (n := 10) (by first | exact Nat.le_refl _ | omega) (by first | exact Nat.le_refl _ | omega) ?_
  exact kvretn ((fun k => ([q1, q2] : List Nat).getD k 0)) hQ hx hb hr hlocks hP hD hS dX5_init_18 trivial
