set_option maxHeartbeats 4000000 in
set_option maxRecDepth 100000 in
theorem c_X8_byteOf (l : Launch) (D : va_G) (Y : Nat → ClassId) (w : Int64) (i : Nat) : kM l yX8_byteOf wX8_byteOf rX8_byteOf D Y ([]) [.long w, .int (nI i)] kX0 (kQi D (fun r (_ : Unit) => r = mByte w i) (fun _ => [])) := by
  refine kentry (cc := cX8_byteOf) (maxL := 3) (ret := (some .int)) (by decide +kernel) rfl (Nat.le_of_ble_eq_true rfl) ?_
  intro p e s0 m args below meth c A Q ls hQ hx hb hr hlocks hml hown hin hta hA hX0 hK hNs hP hD hS hl
  have hown : s0.vm.findClass RX8 = some m.cls := hown
  have hl : lv_has ls 3 [(0, .long w), (2, .int (nI i))] := hl
  refine lv_lload_n hx hb dX8_byteOf_0 rfl (lv_at hl 0 rfl) ?_
  refine lv_bipush (v := 8) hx hb dX8_byteOf_1 (by decide) ?_
  refine lv_iload_n hx hb dX8_byteOf_3 rfl (lv_at hl 1 rfl) ?_
  refine lv_imul hx hb dX8_byteOf_4 ?_
  refine kTop (pk_mul 8 i) ?_
  refine lv_lshr (v := w >>> ((nI (8 * i)).toInt64 &&& 63)) hx hb dX8_byteOf_5 rfl ?_
  refine lv_ldc2 hx hb hown (hta _ al_611) dX8_byteOf_6 ?_
  refine lv_land hx hb dX8_byteOf_9 ?_
  refine lv_l2i (v := ((w >>> ((nI (8 * i)).toInt64 &&& 63)) &&& 255).toInt32) hx hb dX8_byteOf_10 rfl ?_
  exact kiret (()) hQ hx hb hr hlocks hP hS dX8_byteOf_11 rfl
