set_option maxHeartbeats 4000000 in
set_option maxRecDepth 100000 in
theorem c_X8_changes (l : Launch) (D : va_G) (Y : Nat → ClassId) (b : Nat → Nat) (R : kN) (j : Nat) (v : Int32) (hj : j < 1497) : kM l yX8_changes wX8_changes rX8_changes D Y (wR Y b R) [.ref (b 0), .int (nI j), .int v] kX0 (kQi D (fun r u => r = R 0 j ∧ u = sM R 0 j v) (fun u => wR Y b u)) := by
  refine kentry (cc := cX8_changes) (maxL := 4) (ret := (some .int)) (by decide +kernel) rfl (Nat.le_of_ble_eq_true rfl) ?_
  intro p e s0 m args below meth c A Q ls hQ hx hb hr hlocks hml hown hin hta hA hX0 hK hNs hP hD hS hl
  have hown : s0.vm.findClass RX8 = some m.cls := hown
  have hl : lv_has ls 4 [(0, .ref (b 0)), (1, .int (nI j)), (2, .int v)] := hl
  refine lv_aload_n hx hb dX8_changes_0 rfl (lv_at hl 0 rfl) ?_
  refine gfX8_7 (v := .ref (b 1)) hx hb hta hown hK hP 0 rfl rfl dX8_changes_1 ?_
  refine lv_iload_n hx hb dX8_changes_4 rfl (lv_at hl 1 rfl) ?_
  refine kiald (f := R 0) hx hb hK hP 1 rfl j rfl (by omega) (by omega) dX8_changes_5 ?_
  refine lv_istore_n (lv' := [(3, .int (R 0 j)), (0, .ref (b 0)), (1, .int (nI j)), (2, .int v)]) hx hb dX8_changes_6 rfl hl (by decide) rfl (fun ls hl => ?_)
  refine lv_aload_n hx hb dX8_changes_7 rfl (lv_at hl 1 rfl) ?_
  refine gfX8_7 (v := .ref (b 1)) hx hb hta hown hK hP 0 rfl rfl dX8_changes_8 ?_
  refine lv_iload_n hx hb dX8_changes_11 rfl (lv_at hl 2 rfl) ?_
  refine lv_iload_n hx hb dX8_changes_12 rfl (lv_at hl 3 rfl) ?_
  refine kiast (f := R 0) hx hb hK hP hD hS 1 rfl j rfl (by omega) (by omega) dX8_changes_13 (wR Y b (sM R 0 j v)) rfl (fun H locs hP hD hS => ?_)
  refine lv_iload_n hx hb dX8_changes_14 rfl (lv_at hl 0 rfl) ?_
  exact kiret (sM R 0 j v) hQ hx hb hr hlocks hP hS dX8_changes_15 (⟨rfl, rfl⟩)
