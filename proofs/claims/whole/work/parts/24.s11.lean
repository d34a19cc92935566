set_option maxHeartbeats 4000000 in
set_option maxRecDepth 100000 in
theorem c_X8_wipe (l : Launch) (D : va_G) (Y : Nat → ClassId) (b : Nat → Nat) (R : kN) : kM l yX8_wipe wX8_wipe rX8_wipe D Y (wR Y b R) [.ref (b 0)] kX0 (kQi D (fun r u => r = R 7 1 ∧ u = sM R 7 1 0) (fun u => wR Y b u)) := by
  refine kentry (cc := cX8_wipe) (maxL := 2) (ret := (some .int)) (by decide +kernel) rfl (Nat.le_of_ble_eq_true rfl) ?_
  intro p e s0 m args below meth c A Q ls hQ hx hb hr hlocks hml hown hin hta hA hX0 hK hNs hP hD hS hl
  have hown : s0.vm.findClass RX8 = some m.cls := hown
  have hl : lv_has ls 2 [(0, .ref (b 0))] := hl
  refine lv_aload_n hx hb dX8_wipe_0 rfl (lv_at hl 0 rfl) ?_
  refine gfX8_143 (v := .int (R 7 1)) hx hb hta hown hK hP 0 rfl rfl dX8_wipe_1 ?_
  refine lv_istore_n (lv' := [(1, .int (R 7 1)), (0, .ref (b 0))]) hx hb dX8_wipe_4 rfl hl (by decide) rfl (fun ls hl => ?_)
  refine lv_aload_n hx hb dX8_wipe_5 rfl (lv_at hl 1 rfl) ?_
  refine lv_iconst (v := 0) hx hb dX8_wipe_6 (by decide) ?_
  refine pfX8_143 (ws1 := wR Y b (sM R 7 1 0)) hx hb hta hown hK hP hD hS 0 rfl (Nat.le_of_ble_eq_true rfl) rfl dX8_wipe_7 (fun H locs hP hD hS => ?_)
  refine lv_iload_n hx hb dX8_wipe_10 rfl (lv_at hl 0 rfl) ?_
  exact kiret (sM R 7 1 0) hQ hx hb hr hlocks hP hS dX8_wipe_11 (⟨rfl, rfl⟩)
