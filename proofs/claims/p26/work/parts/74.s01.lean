set_option maxHeartbeats 4000000 in
set_option maxRecDepth 100000 in
theorem c_L_cell (l : Launch) (D : va_G) (Y : Nat → ClassId) (base : Nat) (ad av : Nat → Nat) (sb L : Nat) (xs : Nat → Int32) (k : Nat) (hk : k < 1000) (hL : L ≤ 260) : kM l yL_cell wL_cell rL_cell D Y ([]) [.ref sb, .int (nI k)] (kZ base ad av sb L xs) (kQi D (fun (_ : Int32) (_ : Unit) => True) (fun _ => [])) := by
  refine kentryE (cc := cL_cell) (maxL := 2) (ret := (some .int)) (by decide +kernel) rfl (Nat.le_of_ble_eq_true rfl) ?_
  intro p e s0 m args below meth c A Q ls hA2 hQ hx hb hr hlocks hml hown hin hta hA hX0 hK hNs hP hD hS hl
  have hown : s0.vm.findClass RL = some m.cls := hown
  have hl : lv_has ls 2 [(0, .ref sb), (1, .int (nI k))] := hl
  have hAb := kAb hA2 hX0.1 (fun c hc => absurd hc List.not_mem_nil)
  have hbA : ¬ A sb := fun q => absurd (hAb sb q) (by have := hX0.2.2.2; omega)
  have hbl : sb < s0.heap.size := Nat.lt_of_lt_of_le hX0.2.2.2 hX0.1
  have hX := hX0.2.2.1
  refine lv_iload_n hx hb dL_cell_0 rfl (lv_at hl 1 rfl) ?_
  refine lv_aload_n hx hb dL_cell_1 rfl (lv_at hl 0 rfl) ?_
  refine va_slen hx hb hX hbl hbA hS dL_cell_2 ?_
  refine kTop (y := nI L) rfl ?_
  refine lv_icmp_ge (tgt := 12) hx hb dL_cell_3 (by decide) (fun c1 => ?_) (fun c1 => ?_)
  · have c1n : L ≤ k := (nI_leI (a := L) (b := k) (by omega) (by omega)).mp c1
    refine lv_ldc hx hb hown (hta _ al_5002) dL_cell_12 ?_
    refine lv_iload_n hx hb dL_cell_14 rfl (lv_at hl 1 rfl) ?_
    refine lv_imul hx hb dL_cell_15 ?_
    refine lv_sipush (v := 977) hx hb dL_cell_16 (by decide) ?_
    refine lv_iadd hx hb dL_cell_19 ?_
    exact kiret (()) hQ hx hb hr hlocks hP hS dL_cell_20 trivial
  · have c1n : ¬ L ≤ k := fun h => c1 ((nI_leI (a := L) (b := k) (by omega) (by omega)).mpr h)
    refine lv_aload_n hx hb dL_cell_6 rfl (lv_at hl 0 rfl) ?_
    refine lv_iload_n hx hb dL_cell_7 rfl (lv_at hl 1 rfl) ?_
    refine va_sld hx hb hX hbl hbA hS (vp_in_nI (by omega) (by omega)) dL_cell_8 ?_
    refine kTop (y := xs k) (congrArg xs (nI_clamp (by omega))) ?_
    refine lv_goto (tgt := 20) hx hb dL_cell_9 (by decide) ?_
    exact kiret (()) hQ hx hb hr hlocks hP hS dL_cell_20 trivial
