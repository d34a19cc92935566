set_option maxHeartbeats 4000000 in
set_option maxRecDepth 100000 in
theorem c_X8_of (l : Launch) (D : va_G) (Y : Nat → ClassId) (x : Nat) (s : kS) (f w : Nat) (hf : f < 30) (hw : w < 8) : kM l yX8_of wX8_of rX8_of D Y ([(x, .inl (Y 0, 1497, .inl s))]) [.ref x, .int (nI f), .int (nI w)] kX0 (kQi D (fun r (_ : Unit) => r = s (56 + 8 * f + w)) (fun _ => [(x, .inl (Y 0, 1497, .inl s))])) := by
  refine kentry (cc := cX8_of) (maxL := 3) (ret := (some .int)) (by decide +kernel) rfl (Nat.le_of_ble_eq_true rfl) ?_
  intro p e s0 m args below meth c A Q ls hQ hx hb hr hlocks hml hown hin hta hA hX0 hK hNs hP hD hS hl
  have hown : s0.vm.findClass RX8 = some m.cls := hown
  have hl : lv_has ls 3 [(0, .ref x), (1, .int (nI f)), (2, .int (nI w))] := hl
  refine lv_aload_n hx hb dX8_of_0 rfl (lv_at hl 0 rfl) ?_
  refine lv_bipush (v := 56) hx hb dX8_of_1 (by decide) ?_
  refine lv_bipush (v := 8) hx hb dX8_of_3 (by decide) ?_
  refine lv_iload_n hx hb dX8_of_5 rfl (lv_at hl 1 rfl) ?_
  refine lv_imul hx hb dX8_of_6 ?_
  refine kTop (pk_mul 8 f) ?_
  refine lv_iadd hx hb dX8_of_7 ?_
  refine kTop (nI_add 56 (8 * f)) ?_
  refine lv_iload_n hx hb dX8_of_8 rfl (lv_at hl 2 rfl) ?_
  refine lv_iadd hx hb dX8_of_9 ?_
  refine kTop (nI_add (56 + 8 * f) w) ?_
  refine kiald (f := s) hx hb hK hP 0 rfl (56 + 8 * f + w) rfl (by omega) (by omega) dX8_of_10 ?_
  exact kiret (()) hQ hx hb hr hlocks hP hS dX8_of_11 rfl
