set_option maxHeartbeats 4000000 in
set_option maxRecDepth 100000 in
theorem c_X4_readSign (l : Launch) (D : va_G) (Y : Nat → ClassId) (d : Nat → Nat) (P : Nat → Int32) (n a : Nat) (kd : Int32) (V : Nat → Int32) (vc : Nat) (c0 : Int32) (h80 : n ≤ 80) (ha : a ≤ n) (hv : vc ≤ 4) : kM l yX4_readSign wX4_readSign rX4_readSign D Y (wP Y d P n a kd V vc) [.ref (d 0), .int c0] kX0 (kQi D (fun r u => r = kb (pAt P n a c0 c0) ∧ u = pSg P n a c0 c0) (fun u => wP Y d P n u kd V vc)) := by
  refine kentry (cc := cX4_readSign) (maxL := 2) (ret := (some .boolean)) (by decide +kernel) rfl (Nat.le_of_ble_eq_true rfl) ?_
  intro p e s0 m args below meth c A Q ls hQ hx hb hr hlocks hml hown hin hta hA hX0 hK hNs hP hD hS hl
  have hown : s0.vm.findClass RX4 = some m.cls := hown
  have hl : lv_has ls 2 [(0, .ref (d 0)), (1, .int c0)] := hl
  refine lv_aload_n hx hb dX4_readSign_0 rfl (lv_at hl 0 rfl) ?_
  refine gfX4_40 (v := .int (nI a)) hx hb hta hown hK hP 0 rfl rfl dX4_readSign_1 ?_
  refine lv_aload_n hx hb dX4_readSign_4 rfl (lv_at hl 0 rfl) ?_
  refine gfX4_23 (v := .int (nI n)) hx hb hta hown hK hP 0 rfl rfl dX4_readSign_5 ?_
  refine lv_icmp_ge (tgt := 24) hx hb dX4_readSign_8 (by decide) (fun c1 => ?_) (fun c1 => ?_)
  · have c1n : n ≤ a := (nI_leI (a := n) (b := a) (by omega) (by omega)).mp c1
    refine lv_iconst (v := 0) hx hb dX4_readSign_24 (by decide) ?_
    exact kzret (a) hQ hx hb hr hlocks hP hS dX4_readSign_25 (by first | exact Or.inl rfl | exact Or.inr rfl | exact kb_01 _) (by have h5 : ¬ pAt P n a c0 c0 := fun h => absurd h.1 (by omega); unfold pSg; rw [if_neg h5]; exact ⟨(kb_f h5).symm, rfl⟩)
  · have c1n : ¬ n ≤ a := fun h => c1 ((nI_leI (a := n) (b := a) (by omega) (by omega)).mpr h)
    refine lv_aload_n hx hb dX4_readSign_11 rfl (lv_at hl 0 rfl) ?_
    refine gfX4_9 (v := .ref (d 1)) hx hb hta hown hK hP 0 rfl rfl dX4_readSign_12 ?_
    refine lv_aload_n hx hb dX4_readSign_15 rfl (lv_at hl 0 rfl) ?_
    refine gfX4_40 (v := .int (nI a)) hx hb hta hown hK hP 0 rfl rfl dX4_readSign_16 ?_
    refine kcald (f := P) hx hb hK hP 1 rfl a rfl (by omega) (by omega) dX4_readSign_19 ?_
    refine lv_iload_n hx hb dX4_readSign_20 rfl (lv_at hl 1 rfl) ?_
    refine lv_icmp_eq (tgt := 26) hx hb dX4_readSign_21 (by decide) (fun c2 => ?_) (fun c2 => ?_)
    · refine lv_aload_n hx hb dX4_readSign_26 rfl (lv_at hl 0 rfl) ?_
      refine lv_dup hx hb dX4_readSign_27 rfl ?_
      refine gfX4_40 (v := .int (nI a)) hx hb hta hown hK hP 0 rfl rfl dX4_readSign_28 ?_
      refine lv_iconst (v := 1) hx hb dX4_readSign_31 (by decide) ?_
      refine lv_iadd hx hb dX4_readSign_32 ?_
      refine kTop (nI_add a 1) ?_
      refine pfX4_40 (ws1 := wP Y d P n (a + 1) kd V vc) hx hb hta hown hK hP hD hS 0 rfl (Nat.le_of_ble_eq_true rfl) rfl dX4_readSign_33 (fun H locs hP hD hS => ?_)
      refine lv_iconst (v := 1) hx hb dX4_readSign_36 (by decide) ?_
      exact kzret (a + 1) hQ hx hb hr hlocks hP hS dX4_readSign_37 (by first | exact Or.inl rfl | exact Or.inr rfl | exact kb_01 _) (by have h5 : pAt P n a c0 c0 := ⟨by omega, pIn_same.mpr c2⟩; unfold pSg; rw [if_pos h5]; exact ⟨(kb_t h5).symm, rfl⟩)
    · refine lv_iconst (v := 0) hx hb dX4_readSign_24 (by decide) ?_
      exact kzret (a) hQ hx hb hr hlocks hP hS dX4_readSign_25 (by first | exact Or.inl rfl | exact Or.inr rfl | exact kb_01 _) (by have h5 : ¬ pAt P n a c0 c0 := fun h => c2 (pIn_same.mp h.2); unfold pSg; rw [if_neg h5]; exact ⟨(kb_f h5).symm, rfl⟩)
