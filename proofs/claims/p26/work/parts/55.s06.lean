set_option maxHeartbeats 4000000 in
set_option maxRecDepth 100000 in
theorem c_X2_init (l : Launch) (D : va_G) (Y : Nat → ClassId) (x : Nat) : kM l yX2_init wX2_init rX2_init D Y ([(x, .inr (2, [.null, .int 0, .int 0]))]) [.ref x] kXo (kQvn D (fun (_ : Nat) => True) (fun u => [(x, .inr (2, [.ref u, .int (nI 0), .int (nI 0)])), (u, .inl (Y 3, 7, .inr (.inr (.inr (.inr (fun _ => none))))))])) := by
  refine kentry (cc := cX2_init) (maxL := 1) (ret := none) (by decide +kernel) rfl (Nat.le_of_ble_eq_true rfl) ?_
  intro p e s0 m args below meth c A Q ls hQ hx hb hr hlocks hml hown hin hta hA hX0 hK hNs hP hD hS hl
  have hown : s0.vm.findClass RX2 = some m.cls := hown
  have hl : lv_has ls 1 [(0, .ref x)] := hl
  refine lv_aload_n hx hb dX2_init_0 rfl (lv_at hl 0 rfl) ?_
  refine W.objInit hx hb hown (hta _ al_90) (hta _ al_21) (hta _ al_22) rfl (by rw [hml]; exact hl.1) rfl dX2_init_1 (Nat.le_of_ble_eq_true rfl) (Nat.le_of_ble_eq_true rfl) ?_
  refine W.eq (g2 := F0 m 4 ls []) rfl ?_
  refine lv_aload_n hx hb dX2_init_4 rfl (lv_at hl 0 rfl) ?_
  refine lv_bipush (v := 7) hx hb dX2_init_5 (by decide) ?_
  refine kqnewa hx hb hown (hta _ al_91) hX0 hK hP hD hS hA 7 (by decide) rfl (Nat.le_of_ble_eq_true rfl) (Nat.le_of_ble_eq_true rfl) dX2_init_7 (fun q1 H hP hD hS => ?_)
  refine pfX2_13 (ws1 := [(x, .inr (2, [.ref q1, .int 0, .int 0]))] ++ [(q1, .inl (Y 3, 7, .inr (.inr (.inr (.inr (fun _ => none))))))]) hx hb hta hown hK hP hD hS hin 0 rfl (Nat.le_of_ble_eq_true rfl) rfl dX2_init_10 (fun H locs hP hD hS => ?_)
  refine W.widen (k := 1) (n := 7) (by first | exact Nat.le_refl _ | omega) (by first | exact Nat.le_refl _ | omega) ?_
  exact kvretn (q1) hQ hx hb hr hlocks hP hD hS dX2_init_13 trivial
