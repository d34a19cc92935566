set_option maxHeartbeats 4000000 in
set_option maxRecDepth 100000 in
theorem c_X8_stops (l : Launch) (D : va_G) (Y : Nat → ClassId) (b : Nat → Nat) (R : kN) (s : kS) (f t : Int32) (hZ : mX s) (hlt : mS s < 5) : kM l yX8_stops wX8_stops rX8_stops D Y (wR Y b (sR R 0 (s))) [.ref (b 0), .int f, .int t] kX0 (kQi D (fun r u => r = nI (mS s) ∧ u = mStops s f t) (fun u => wR Y b (sR R 0 u))) := by
  refine kentry (cc := cX8_stops) (maxL := 3) (ret := (some .int)) (by decide +kernel) rfl (Nat.le_of_ble_eq_true rfl) ?_
  intro p e s0 m args below meth c A Q ls hQ hx hb hr hlocks hml hown hin hta hA hX0 hK hNs hP hD hS hl
  have hown : s0.vm.findClass RX8 = some m.cls := hown
  have hl : lv_has ls 3 [(0, .ref (b 0)), (1, .int f), (2, .int t)] := hl
  refine lv_aload_n hx hb dX8_stops_0 rfl (lv_at hl 0 rfl) ?_
  refine gfX8_7 (v := .ref (b 1)) hx hb hta hown hK hP 0 rfl rfl dX8_stops_1 ?_
  refine lv_bipush (v := 16) hx hb dX8_stops_4 (by decide) ?_
  refine lv_iconst (v := 2) hx hb dX8_stops_6 (by decide) ?_
  refine lv_aload_n hx hb dX8_stops_7 rfl (lv_at hl 0 rfl) ?_
  refine gfX8_7 (v := .ref (b 1)) hx hb hta hown hK hP 0 rfl rfl dX8_stops_8 ?_
  refine lv_iconst (v := 2) hx hb dX8_stops_11 (by decide) ?_
  refine kiald (f := s) hx hb hK hP 1 rfl 2 rfl (by omega) (by omega) dX8_stops_12 ?_
  refine kTop hZ.s ?_
  refine lv_imul hx hb dX8_stops_13 ?_
  refine kTop (pk_mul 2 (mS s)) ?_
  refine lv_iadd hx hb dX8_stops_14 ?_
  refine kTop (nI_add 16 (2 * mS s)) ?_
  refine lv_iload_n hx hb dX8_stops_15 rfl (lv_at hl 1 rfl) ?_
  refine kiast (f := s) hx hb hK hP hD hS 1 rfl (16 + 2 * mS s) rfl (by omega) (by omega) dX8_stops_16 (wR Y b (sR R 0 (upd (s) (16 + 2 * mS s) f))) rfl (fun H locs hP hD hS => ?_)
  have hz1 : (upd (s) (16 + 2 * mS s) f) 2 = nI (mS s) := by rw [upd_o (by omega)]; exact hZ.s
  refine lv_aload_n hx hb dX8_stops_17 rfl (lv_at hl 0 rfl) ?_
  refine gfX8_7 (v := .ref (b 1)) hx hb hta hown hK hP 0 rfl rfl dX8_stops_18 ?_
  refine lv_bipush (v := 16) hx hb dX8_stops_21 (by decide) ?_
  refine lv_iconst (v := 2) hx hb dX8_stops_23 (by decide) ?_
  refine lv_aload_n hx hb dX8_stops_24 rfl (lv_at hl 0 rfl) ?_
  refine gfX8_7 (v := .ref (b 1)) hx hb hta hown hK hP 0 rfl rfl dX8_stops_25 ?_
  refine lv_iconst (v := 2) hx hb dX8_stops_28 (by decide) ?_
  refine kiald (f := upd (s) (16 + 2 * mS s) f) hx hb hK hP 1 rfl 2 rfl (by omega) (by omega) dX8_stops_29 ?_
  refine kTop hz1 ?_
  refine lv_imul hx hb dX8_stops_30 ?_
  refine kTop (pk_mul 2 (mS s)) ?_
  refine lv_iadd hx hb dX8_stops_31 ?_
  refine kTop (nI_add 16 (2 * mS s)) ?_
  refine lv_iconst (v := 1) hx hb dX8_stops_32 (by decide) ?_
  refine lv_iadd hx hb dX8_stops_33 ?_
  refine kTop (nI_add (16 + 2 * mS s) 1) ?_
  refine lv_iload_n hx hb dX8_stops_34 rfl (lv_at hl 2 rfl) ?_
  refine kiast (f := upd (s) (16 + 2 * mS s) f) hx hb hK hP hD hS 1 rfl (16 + 2 * mS s + 1) rfl (by omega) (by omega) dX8_stops_35 (wR Y b (sR R 0 (upd (upd (s) (16 + 2 * mS s) f) (16 + 2 * mS s + 1) t))) rfl (fun H locs hP hD hS => ?_)
  have hz2 : (upd (upd (s) (16 + 2 * mS s) f) (16 + 2 * mS s + 1) t) 2 = nI (mS s) := by rw [upd_o (by omega)]; exact hz1
  refine lv_aload_n hx hb dX8_stops_36 rfl (lv_at hl 0 rfl) ?_
  refine gfX8_7 (v := .ref (b 1)) hx hb hta hown hK hP 0 rfl rfl dX8_stops_37 ?_
  refine lv_iconst (v := 2) hx hb dX8_stops_40 (by decide) ?_
  refine lv_dup2_11 hx hb dX8_stops_41 rfl rfl ?_
  refine kiald (f := upd (upd (s) (16 + 2 * mS s) f) (16 + 2 * mS s + 1) t) hx hb hK hP 1 rfl 2 rfl (by omega) (by omega) dX8_stops_42 ?_
  refine kTop hz2 ?_
  refine lv_iconst (v := 1) hx hb dX8_stops_43 (by decide) ?_
  refine lv_iadd hx hb dX8_stops_44 ?_
  refine kTop (nI_add (mS s) 1) ?_
  refine kiast (f := upd (upd (s) (16 + 2 * mS s) f) (16 + 2 * mS s + 1) t) hx hb hK hP hD hS 1 rfl 2 rfl (by omega) (by omega) dX8_stops_45 (wR Y b (sR R 0 (upd (upd (upd (s) (16 + 2 * mS s) f) (16 + 2 * mS s + 1) t) 2 (nI (mS s + 1))))) rfl (fun H locs hP hD hS => ?_)
  have hz3 : (upd (upd (upd (s) (16 + 2 * mS s) f) (16 + 2 * mS s + 1) t) 2 (nI (mS s + 1))) 2 = nI (mS s + 1) := upd_s
  refine lv_aload_n hx hb dX8_stops_46 rfl (lv_at hl 0 rfl) ?_
  refine gfX8_7 (v := .ref (b 1)) hx hb hta hown hK hP 0 rfl rfl dX8_stops_47 ?_
  refine lv_iconst (v := 2) hx hb dX8_stops_50 (by decide) ?_
  refine kiald (f := upd (upd (upd (s) (16 + 2 * mS s) f) (16 + 2 * mS s + 1) t) 2 (nI (mS s + 1))) hx hb hK hP 1 rfl 2 rfl (by omega) (by omega) dX8_stops_51 ?_
  refine kTop hz3 ?_
  refine lv_iconst (v := 1) hx hb dX8_stops_52 (by decide) ?_
  refine lv_isub hx hb dX8_stops_53 ?_
  refine kTop (y := nI (mS s)) (nI_pred (mS s)) ?_
  exact kiret (upd (upd (upd (s) (16 + 2 * mS s) f) (16 + 2 * mS s + 1) t) 2 (nI (mS s + 1))) hQ hx hb hr hlocks hP hS dX8_stops_54 (⟨rfl, rfl⟩)
