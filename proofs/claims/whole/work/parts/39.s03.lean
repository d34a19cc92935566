set_option maxHeartbeats 4000000 in
set_option maxRecDepth 100000 in
theorem c_X4_readDigit (l : Launch) (D : va_G) (Y : Nat → ClassId) (d : Nat → Nat) (P : Nat → Int32) (n a : Nat) (kd : Int32) (V : Nat → Int32) (vc : Nat) (h80 : n ≤ 80) (ha : a ≤ n) (hv : vc ≤ 4) : kM l yX4_readDigit wX4_readDigit rX4_readDigit D Y (wP Y d P n a kd V vc) [.ref (d 0)] kX0 (kQi D (fun r u => r = kb (pAt P n a 48 53) ∧ u = (cDg P n a V vc).2) (fun u => wP Y d P n u.1 kd u.2.1 u.2.2)) := by
  refine kentry (cc := cX4_readDigit) (maxL := 1) (ret := (some .boolean)) (by decide +kernel) rfl (Nat.le_of_ble_eq_true rfl) ?_
  intro p e s0 m args below meth c A Q ls hQ hx hb hr hlocks hml hown hin hta hA hX0 hK hNs hP hD hS hl
  have hown : s0.vm.findClass RX4 = some m.cls := hown
  have hl : lv_has ls 1 [(0, .ref (d 0))] := hl
  refine lv_aload_n hx hb dX4_readDigit_0 rfl (lv_at hl 0 rfl) ?_
  refine kc_i (krV (As := []) (rest := []) (c_X4_digitFollows l D Y d P n a kd V vc h80 ha hv) ⟨hx, hb, hml, hown, hta⟩ (cwX4_91 hta ⟨Nat.le_of_ble_eq_true rfl, Nat.le_of_ble_eq_true rfl⟩) kX0b (fun _ _ _ => trivial) hK hNs hP hD (kJ_all) (q0 := 0) rfl rfl rfl rfl hl.1 rfl (Nat.le_of_ble_eq_true rfl) dX4_readDigit_1 ⟨Nat.le_of_ble_eq_true rfl, Nat.le_of_ble_eq_true rfl⟩) hP hD hS hA (kJ_all) (fun _ => rfl) (fun r1 u H locs hw hP hD hS => ?_)
  subst hw
  have hP : va_P D vwCl (wP Y d P n a kd V vc) H := hP
  have hD : va_D A (wP Y d P n a kd V vc) := hD
  by_cases c2 : pAt P n a 48 57
  · refine kTop (kb_t c2) ?_
    refine lv_if_eq (tgt := 21) hx hb dX4_readDigit_4 (by decide) (fun h => False.elim (by revert h; decide)) (fun _ => ?_)
    have haN : a < n := c2.1
    refine lv_aload_n hx hb dX4_readDigit_7 rfl (lv_at hl 0 rfl) ?_
    refine gfX4_9 (v := .ref (d 1)) hx hb hta hown hK hP 0 rfl rfl dX4_readDigit_8 ?_
    refine lv_aload_n hx hb dX4_readDigit_11 rfl (lv_at hl 0 rfl) ?_
    refine gfX4_40 (v := .int (nI a)) hx hb hta hown hK hP 0 rfl rfl dX4_readDigit_12 ?_
    refine kcald (f := P) hx hb hK hP 1 rfl a rfl (by omega) (by omega) dX4_readDigit_15 ?_
    refine lv_bipush (v := 53) hx hb dX4_readDigit_16 (by decide) ?_
    refine lv_icmp_le (tgt := 23) hx hb dX4_readDigit_18 (by decide) (fun c3 => ?_) (fun c3 => ?_)
    · refine lv_aload_n hx hb dX4_readDigit_23 rfl (lv_at hl 0 rfl) ?_
      refine lv_aload_n hx hb dX4_readDigit_24 rfl (lv_at hl 0 rfl) ?_
      refine gfX4_9 (v := .ref (d 1)) hx hb hta hown hK hP 0 rfl rfl dX4_readDigit_25 ?_
      refine lv_aload_n hx hb dX4_readDigit_28 rfl (lv_at hl 0 rfl) ?_
      refine gfX4_40 (v := .int (nI a)) hx hb hta hown hK hP 0 rfl rfl dX4_readDigit_29 ?_
      refine kcald (f := P) hx hb hK hP 1 rfl a rfl (by omega) (by omega) dX4_readDigit_32 ?_
      refine lv_bipush (v := 48) hx hb dX4_readDigit_33 (by decide) ?_
      refine lv_isub hx hb dX4_readDigit_35 ?_
      refine kc_v (krV (As := [.int ((P a) - 48)]) (rest := []) (c_X4_keepValue l D Y d P n a kd V vc ((P a) - 48) h80 ha hv) ⟨hx, hb, hml, hown, hta⟩ (cwX4_94 hta ⟨Nat.le_of_ble_eq_true rfl, Nat.le_of_ble_eq_true rfl⟩) kX0b (fun _ _ _ => trivial) hK hNs hP hD (kJ_all) (q0 := 0) rfl rfl rfl rfl hl.1 rfl (Nat.le_of_ble_eq_true rfl) dX4_readDigit_36 ⟨Nat.le_of_ble_eq_true rfl, Nat.le_of_ble_eq_true rfl⟩) hP hD hS hA (kJ_all) (fun _ => rfl) (fun u H locs hw hP hD hS => ?_)
      subst hw
      have hP : va_P D vwCl (wP Y d P n a kd (kpV V vc ((P a) - 48)) (kpC vc)) H := hP
      have hD : va_D A (wP Y d P n a kd (kpV V vc ((P a) - 48)) (kpC vc)) := hD
      refine lv_aload_n hx hb dX4_readDigit_39 rfl (lv_at hl 0 rfl) ?_
      refine lv_dup hx hb dX4_readDigit_40 rfl ?_
      refine gfX4_40 (v := .int (nI a)) hx hb hta hown hK hP 0 rfl rfl dX4_readDigit_41 ?_
      refine lv_iconst (v := 1) hx hb dX4_readDigit_44 (by decide) ?_
      refine lv_iadd hx hb dX4_readDigit_45 ?_
      refine kTop (nI_add a 1) ?_
      refine pfX4_40 (ws1 := wP Y d P n (a + 1) kd (kpV V vc ((P a) - 48)) (kpC vc)) hx hb hta hown hK hP hD hS 0 rfl (Nat.le_of_ble_eq_true rfl) rfl dX4_readDigit_46 (fun H locs hP hD hS => ?_)
      refine lv_iconst (v := 1) hx hb dX4_readDigit_49 (by decide) ?_
      exact kzret (((a + 1), (kpV V vc ((P a) - 48)), (kpC vc))) hQ hx hb hr hlocks hP hS dX4_readDigit_50 (by first | exact Or.inl rfl | exact Or.inr rfl | exact kb_01 _) (by have h5 : pAt P n a 48 53 := ⟨c2.1, c2.2.1, Int32.not_lt.mpr c3⟩; unfold cDg; rw [if_pos h5]; exact ⟨(kb_t h5).symm, rfl⟩)
    · refine lv_iconst (v := 0) hx hb dX4_readDigit_21 (by decide) ?_
      exact kzret (((a), (V), (vc))) hQ hx hb hr hlocks hP hS dX4_readDigit_22 (by first | exact Or.inl rfl | exact Or.inr rfl | exact kb_01 _) (by have h5 : ¬ pAt P n a 48 53 := fun h => h.2.2 (Int32.not_le.mp c3); unfold cDg; rw [if_neg h5]; exact ⟨(kb_f h5).symm, rfl⟩)
  · refine kTop (kb_f c2) ?_
    refine lv_if_eq (tgt := 21) hx hb dX4_readDigit_4 (by decide) (fun _ => ?_) (fun h => False.elim (by revert h; decide))
    refine lv_iconst (v := 0) hx hb dX4_readDigit_21 (by decide) ?_
    exact kzret (((a), (V), (vc))) hQ hx hb hr hlocks hP hS dX4_readDigit_22 (by first | exact Or.inl rfl | exact Or.inr rfl | exact kb_01 _) (by have h5 : ¬ pAt P n a 48 53 := fun h => c2 ⟨h.1, h.2.1, fun z => h.2.2 (Int32.lt_trans (show (53 : Int32) < 57 by decide) z)⟩; unfold cDg; rw [if_neg h5]; exact ⟨(kb_f h5).symm, rfl⟩)
