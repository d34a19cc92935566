set_option maxHeartbeats 4000000 in
set_option maxRecDepth 100000 in
theorem c_X8_lends (l : Launch) (D : va_G) (Y : Nat → ClassId) (b : Nat → Nat) (R : kN) (j i : Nat) (t : Int32) (hj : j < 6) (hi : i < 6) : kM l yX8_lends wX8_lends rX8_lends D Y (wR Y b R) [.ref (b 0), .int (nI j), .int (nI i), .int t] kX0 (kQi D (fun r u => r = mLendTo R j i t 0 (10 + j) ∧ u = mLendTo R j i t) (fun u => wR Y b u)) := by
  refine kentry (cc := cX8_lends) (maxL := 4) (ret := (some .int)) (by decide +kernel) rfl (Nat.le_of_ble_eq_true rfl) ?_
  intro p e s0 m args below meth c A Q ls hQ hx hb hr hlocks hml hown hin hta hA hX0 hK hNs hP hD hS hl
  have hown : s0.vm.findClass RX8 = some m.cls := hown
  have hl : lv_has ls 4 [(0, .ref (b 0)), (1, .int (nI j)), (2, .int (nI i)), (3, .int t)] := hl
  refine lv_aload_n hx hb dX8_lends_0 rfl (lv_at hl 0 rfl) ?_
  refine gfX8_7 (v := .ref (b 1)) hx hb hta hown hK hP 0 rfl rfl dX8_lends_1 ?_
  refine lv_bipush (v := 10) hx hb dX8_lends_4 (by decide) ?_
  refine lv_iload_n hx hb dX8_lends_6 rfl (lv_at hl 1 rfl) ?_
  refine lv_iadd hx hb dX8_lends_7 ?_
  refine kTop (nI_add 10 j) ?_
  refine lv_dup2_11 hx hb dX8_lends_8 rfl rfl ?_
  refine kiald (f := R 0) hx hb hK hP 1 rfl (10 + j) rfl (by omega) (by omega) dX8_lends_9 ?_
  refine lv_iload_n hx hb dX8_lends_10 rfl (lv_at hl 3 rfl) ?_
  refine lv_isub hx hb dX8_lends_11 ?_
  refine kiast (f := R 0) hx hb hK hP hD hS 1 rfl (10 + j) rfl (by omega) (by omega) dX8_lends_12 (wR Y b (sM R 0 (10 + j) ((R 0 (10 + j)) - t))) rfl (fun H locs hP hD hS => ?_)
  refine lv_aload_n hx hb dX8_lends_13 rfl (lv_at hl 0 rfl) ?_
  refine gfX8_7 (v := .ref (b 1)) hx hb hta hown hK hP 0 rfl rfl dX8_lends_14 ?_
  refine lv_bipush (v := 10) hx hb dX8_lends_17 (by decide) ?_
  refine lv_iload_n hx hb dX8_lends_19 rfl (lv_at hl 2 rfl) ?_
  refine lv_iadd hx hb dX8_lends_20 ?_
  refine kTop (nI_add 10 i) ?_
  refine lv_dup2_11 hx hb dX8_lends_21 rfl rfl ?_
  refine kiald (f := upd (R 0) (10 + j) ((R 0 (10 + j)) - t)) hx hb hK hP 1 rfl (10 + i) rfl (by omega) (by omega) dX8_lends_22 ?_
  refine lv_iload_n hx hb dX8_lends_23 rfl (lv_at hl 3 rfl) ?_
  refine lv_iadd hx hb dX8_lends_24 ?_
  refine kiast (f := upd (R 0) (10 + j) ((R 0 (10 + j)) - t)) hx hb hK hP hD hS 1 rfl (10 + i) rfl (by omega) (by omega) dX8_lends_25 (wR Y b (sM (sM R 0 (10 + j) ((R 0 (10 + j)) - t)) 0 (10 + i) ((upd (R 0) (10 + j) ((R 0 (10 + j)) - t) (10 + i)) + t))) rfl (fun H locs hP hD hS => ?_)
  refine lv_aload_n hx hb dX8_lends_26 rfl (lv_at hl 0 rfl) ?_
  refine gfX8_7 (v := .ref (b 1)) hx hb hta hown hK hP 0 rfl rfl dX8_lends_27 ?_
  refine lv_bipush (v := 10) hx hb dX8_lends_30 (by decide) ?_
  refine lv_iload_n hx hb dX8_lends_32 rfl (lv_at hl 1 rfl) ?_
  refine lv_iadd hx hb dX8_lends_33 ?_
  refine kTop (nI_add 10 j) ?_
  refine kiald (f := upd (upd (R 0) (10 + j) ((R 0 (10 + j)) - t)) (10 + i) ((upd (R 0) (10 + j) ((R 0 (10 + j)) - t) (10 + i)) + t)) hx hb hK hP 1 rfl (10 + j) rfl (by omega) (by omega) dX8_lends_34 ?_
  exact kiret (sM (sM R 0 (10 + j) ((R 0 (10 + j)) - t)) 0 (10 + i) ((upd (R 0) (10 + j) ((R 0 (10 + j)) - t) (10 + i)) + t)) hQ hx hb hr hlocks hP hS dX8_lends_35 (⟨rfl, rfl⟩)
