set_option maxHeartbeats 4000000 in
set_option maxRecDepth 100000 in
theorem c_X4_keepValue (l : Launch) (D : va_G) (Y : Nat → ClassId) (d : Nat → Nat) (P : Nat → Int32) (n a : Nat) (kd : Int32) (V : Nat → Int32) (vc : Nat) (v : Int32) (h80 : n ≤ 80) (ha : a ≤ n) (hv : vc ≤ 4) : kM l yX4_keepValue wX4_keepValue rX4_keepValue D Y (wP Y d P n a kd V vc) [.ref (d 0), .int v] kX0 (kQv D (fun u => u = (kpV V vc v, kpC vc)) (fun u => wP Y d P n a kd u.1 u.2)) := by
  refine kentry (cc := cX4_keepValue) (maxL := 2) (ret := none) (by decide +kernel) rfl (Nat.le_of_ble_eq_true rfl) ?_
  intro p e s0 m args below meth c A Q ls hQ hx hb hr hlocks hml hown hin hta hA hX0 hK hNs hP hD hS hl
  have hown : s0.vm.findClass RX4 = some m.cls := hown
  have hl : lv_has ls 2 [(0, .ref (d 0)), (1, .int v)] := hl
  refine lv_aload_n hx hb dX4_keepValue_0 rfl (lv_at hl 0 rfl) ?_
  refine gfX4_51 (v := .int (nI vc)) hx hb hta hown hK hP 0 rfl rfl dX4_keepValue_1 ?_
  refine lv_iconst (v := 4) hx hb dX4_keepValue_4 (by decide) ?_
  refine lv_icmp_lt (tgt := 9) hx hb dX4_keepValue_5 (by decide) (fun c1 => ?_) (fun c1 => ?_)
  · have c1n : vc < 4 := (nI_ltI (a := vc) (b := 4) (by omega) (by omega)).mp c1
    refine lv_aload_n hx hb dX4_keepValue_9 rfl (lv_at hl 0 rfl) ?_
    refine gfX4_15 (v := .ref (d 2)) hx hb hta hown hK hP 0 rfl rfl dX4_keepValue_10 ?_
    refine lv_aload_n hx hb dX4_keepValue_13 rfl (lv_at hl 0 rfl) ?_
    refine gfX4_51 (v := .int (nI vc)) hx hb hta hown hK hP 0 rfl rfl dX4_keepValue_14 ?_
    refine lv_iload_n hx hb dX4_keepValue_17 rfl (lv_at hl 1 rfl) ?_
    refine kiast (f := V) hx hb hK hP hD hS 2 rfl vc rfl (by omega) (by omega) dX4_keepValue_18 (wP Y d P n a kd (upd V vc v) vc) rfl (fun H locs hP hD hS => ?_)
    refine lv_aload_n hx hb dX4_keepValue_19 rfl (lv_at hl 0 rfl) ?_
    refine lv_dup hx hb dX4_keepValue_20 rfl ?_
    refine gfX4_51 (v := .int (nI vc)) hx hb hta hown hK hP 0 rfl rfl dX4_keepValue_21 ?_
    refine lv_iconst (v := 1) hx hb dX4_keepValue_24 (by decide) ?_
    refine lv_iadd hx hb dX4_keepValue_25 ?_
    refine kTop (nI_add vc 1) ?_
    refine pfX4_51 (ws1 := wP Y d P n a kd (upd V vc v) (vc + 1)) hx hb hta hown hK hP hD hS 0 rfl (Nat.le_of_ble_eq_true rfl) rfl dX4_keepValue_26 (fun H locs hP hD hS => ?_)
    exact kvret ((upd V vc v, vc + 1)) hQ hx hb hr hlocks hP hS dX4_keepValue_29 (by unfold kpV kpC; rw [if_pos c1n, if_pos c1n])
  · have c1n : ¬ vc < 4 := fun h => c1 ((nI_ltI (a := vc) (b := 4) (by omega) (by omega)).mpr h)
    exact kvret ((V, vc)) hQ hx hb hr hlocks hP hS dX4_keepValue_8 (by unfold kpV kpC; rw [if_neg c1n, if_neg c1n])
