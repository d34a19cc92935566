set_option maxHeartbeats 4000000 in
set_option maxRecDepth 100000 in
theorem c_X4_init (l : Launch) (D : va_G) (Y : Nat → ClassId) (x : Nat) : kM l yX4_init wX4_init rX4_init D Y ([(x, .inr (4, [.null, .int 0, .int 0, .int 0, .null, .int 0]))]) [.ref x] kX0 (kQvn D (fun (u : Nat → Nat) => u 0 = x) (fun u => wP Y u (fun _ => 0) 0 0 0 (fun _ => 0) 0)) := by
  refine kentry (cc := cX4_init) (maxL := 1) (ret := none) (by decide +kernel) rfl (Nat.le_of_ble_eq_true rfl) ?_
  intro p e s0 m args below meth c A Q ls hQ hx hb hr hlocks hml hown hin hta hA hX0 hK hNs hP hD hS hl
  have hown : s0.vm.findClass RX4 = some m.cls := hown
  have hl : lv_has ls 1 [(0, .ref x)] := hl
  refine lv_aload_n hx hb dX4_init_0 rfl (lv_at hl 0 rfl) ?_
  refine W.objInit hx hb hown (hta _ al_95) (hta _ al_21) (hta _ al_22) rfl (by rw [hml]; exact hl.1) rfl dX4_init_1 (Nat.le_of_ble_eq_true rfl) (Nat.le_of_ble_eq_true rfl) ?_
  refine W.eq (g2 := F0 m 4 ls []) rfl ?_
  refine lv_aload_n hx hb dX4_init_4 rfl (lv_at hl 0 rfl) ?_
  refine lv_bipush (v := 80) hx hb dX4_init_5 (by decide) ?_
  refine kcnewa hx hb (hta _ al_96) hK hP hD hS hA 80 (by decide) rfl (Nat.le_of_ble_eq_true rfl) (Nat.le_of_ble_eq_true rfl) dX4_init_7 (fun q1 H hP hD hS => ?_)
  refine pfX4_9 (ws1 := [(x, .inr (4, [.ref q1, .int 0, .int 0, .int 0, .null, .int 0]))] ++ [(q1, .inl (Y 1, 80, .inl (fun _ => 0)))]) hx hb hta hown hK hP hD hS hin 0 rfl (Nat.le_of_ble_eq_true rfl) rfl dX4_init_9 (fun H locs hP hD hS => ?_)
  refine lv_aload_n hx hb dX4_init_12 rfl (lv_at hl 0 rfl) ?_
  refine lv_iconst (v := 4) hx hb dX4_init_13 (by decide) ?_
  refine kinewa hx hb (hta _ al_40) hK hP hD hS hA 4 (by decide) rfl (Nat.le_of_ble_eq_true rfl) (Nat.le_of_ble_eq_true rfl) dX4_init_14 (fun q2 H hP hD hS => ?_)
  refine pfX4_15 (ws1 := [(x, .inr (4, [.ref q1, .int 0, .int 0, .int 0, .ref q2, .int 0]))] ++ [(q1, .inl (Y 1, 80, .inl (fun _ => 0)))] ++ [(q2, .inl (Y 0, 4, .inl (fun _ => 0)))]) hx hb hta hown hK hP hD hS hin 0 rfl (Nat.le_of_ble_eq_true rfl) rfl dX4_init_16 (fun H locs hP hD hS => ?_)
  refine W.widen (k := 2) (n := 84) (by first | exact Nat.le_refl _ | omega) (by first | exact Nat.le_refl _ | omega) ?_
  exact kvretn ((fun k => ([x, q1, q2] : List Nat).getD k 0)) hQ hx hb hr hlocks hP hD hS dX4_init_19 rfl
