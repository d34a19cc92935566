set_option maxHeartbeats 4000000 in
set_option maxRecDepth 100000 in
theorem c_X4_startReading (l : Launch) (D : va_G) (Y : Nat → ClassId) (d : Nat → Nat) (P : Nat → Int32) (n a : Nat) (kd : Int32) (V : Nat → Int32) (vc : Nat) : kM l yX4_startReading wX4_startReading rX4_startReading D Y (wP Y d P n a kd V vc) [.ref (d 0)] kX0 (kQv D (fun (_ : Unit) => True) (fun _ => wP Y d P n 0 kd V vc)) := by
  refine kentry (cc := cX4_startReading) (maxL := 1) (ret := none) (by decide +kernel) rfl (Nat.le_of_ble_eq_true rfl) ?_
  intro p e s0 m args below meth c A Q ls hQ hx hb hr hlocks hml hown hin hta hA hX0 hK hNs hP hD hS hl
  have hown : s0.vm.findClass RX4 = some m.cls := hown
  have hl : lv_has ls 1 [(0, .ref (d 0))] := hl
  refine lv_aload_n hx hb dX4_startReading_0 rfl (lv_at hl 0 rfl) ?_
  refine lv_iconst (v := 0) hx hb dX4_startReading_1 (by decide) ?_
  refine pfX4_40 (ws1 := wP Y d P n 0 kd V vc) hx hb hta hown hK hP hD hS 0 rfl (Nat.le_of_ble_eq_true rfl) rfl dX4_startReading_2 (fun H locs hP hD hS => ?_)
  exact kvret (()) hQ hx hb hr hlocks hP hS dX4_startReading_5 trivial
