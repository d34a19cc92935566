set_option maxHeartbeats 4000000 in
set_option maxRecDepth 100000 in
theorem c_X8_isDigit (l : Launch) (D : va_G) (Y : Nat → ClassId) (b : Nat → Nat) (R : kN) (a : Nat) (O : Nat → Int32) (o : Nat) (hn : R 7 1 = nI (pn R)) (h80 : pn R ≤ 80) (ha : a ≤ pn R) (k : Nat) (ho : o ≤ 26) (hk : k < 5) : kM l yX8_isDigit wX8_isDigit rX8_isDigit D Y (wR Y b (pWr R (a) (O) (o))) [.ref (b 0), .int (nI k)] kX0 (kQi D (fun r u => r = kb (pAt (R 5) (pn R) a 48 53) ∧ u = (pSg (R 5) (pn R) a 48 53, pDgO (R 5) (pn R) a O (5 * o + k))) (fun u => wR Y b (pWr R u.1 u.2 o))) := by
  refine kentry (cc := cX8_isDigit) (maxL := 2) (ret := (some .boolean)) (by decide +kernel) rfl (Nat.le_of_ble_eq_true rfl) ?_
  intro p e s0 m args below meth c A Q ls hQ hx hb hr hlocks hml hown hin hta hA hX0 hK hNs hP hD hS hl
  have hown : s0.vm.findClass RX8 = some m.cls := hown
  have hl : lv_has ls 2 [(0, .ref (b 0)), (1, .int (nI k))] := hl
  refine lv_aload_n hx hb dX8_isDigit_0 rfl (lv_at hl 0 rfl) ?_
  refine lv_bipush (v := 48) hx hb dX8_isDigit_1 (by decide) ?_
  refine lv_bipush (v := 53) hx hb dX8_isDigit_3 (by decide) ?_
  refine kc_i (krV (As := [.int 48, .int 53]) (rest := []) (c_X8_isAt l D Y b R (a) (O) (o) hn h80 ha 48 53) ⟨hx, hb, hml, hown, hta⟩ (cwX8_166 hta ⟨Nat.le_of_ble_eq_true rfl, Nat.le_of_ble_eq_true rfl⟩) kX0b (fun _ _ _ => trivial) hK hNs hP hD (kJ_all) (q0 := 0) rfl rfl rfl rfl hl.1 rfl (Nat.le_of_ble_eq_true rfl) dX8_isDigit_5 ⟨Nat.le_of_ble_eq_true rfl, Nat.le_of_ble_eq_true rfl⟩) hP hD hS hA (kJ_all) (fun _ => rfl) (fun r1 u H locs hw hP hD hS => ?_)
  subst hw
  have hP : va_P D vwCl (wR Y b (pWr R (a) (O) (o))) H := hP
  have hD : va_D A (wR Y b (pWr R (a) (O) (o))) := hD
  by_cases c2 : pAt (R 5) (pn R) (a) 48 53
  · refine kTop (kb_t c2) ?_
    refine lv_if_ne (tgt := 13) hx hb dX8_isDigit_8 (by decide) (fun _ => ?_) (fun h => False.elim (by revert h; decide))
    have haN : a < pn R := c2.1
    refine lv_aload_n hx hb dX8_isDigit_13 rfl (lv_at hl 0 rfl) ?_
    refine gfX8_29 (v := .ref (b 7)) hx hb hta hown hK hP 0 rfl rfl dX8_isDigit_14 ?_
    refine lv_iconst (v := 5) hx hb dX8_isDigit_17 (by decide) ?_
    refine lv_aload_n hx hb dX8_isDigit_18 rfl (lv_at hl 0 rfl) ?_
    refine gfX8_169 (v := .int (nI o)) hx hb hta hown hK hP 0 rfl rfl dX8_isDigit_19 ?_
    refine lv_imul hx hb dX8_isDigit_22 ?_
    refine kTop (pk_mul 5 o) ?_
    refine lv_iload_n hx hb dX8_isDigit_23 rfl (lv_at hl 1 rfl) ?_
    refine lv_iadd hx hb dX8_isDigit_24 ?_
    refine kTop (nI_add (5 * o) k) ?_
    refine lv_aload_n hx hb dX8_isDigit_25 rfl (lv_at hl 0 rfl) ?_
    refine gfX8_26 (v := .ref (b 6)) hx hb hta hown hK hP 0 rfl rfl dX8_isDigit_26 ?_
    refine lv_aload_n hx hb dX8_isDigit_29 rfl (lv_at hl 0 rfl) ?_
    refine gfX8_163 (v := .int (nI a)) hx hb hta hown hK hP 0 rfl rfl dX8_isDigit_30 ?_
    refine kiald (f := R 5) hx hb hK hP 6 rfl a rfl (by omega) (by omega) dX8_isDigit_33 ?_
    refine lv_bipush (v := 48) hx hb dX8_isDigit_34 (by decide) ?_
    refine lv_isub hx hb dX8_isDigit_36 ?_
    refine kiast (f := O) hx hb hK hP hD hS 7 rfl (5 * o + k) rfl (by omega) (by omega) dX8_isDigit_37 (wR Y b (pWr R (a) (upd (O) (5 * o + k) ((R 5 a) - 48)) (o))) rfl (fun H locs hP hD hS => ?_)
    refine lv_aload_n hx hb dX8_isDigit_38 rfl (lv_at hl 0 rfl) ?_
    refine lv_dup hx hb dX8_isDigit_39 rfl ?_
    refine gfX8_163 (v := .int (nI a)) hx hb hta hown hK hP 0 rfl rfl dX8_isDigit_40 ?_
    refine lv_iconst (v := 1) hx hb dX8_isDigit_43 (by decide) ?_
    refine lv_iadd hx hb dX8_isDigit_44 ?_
    refine kTop (nI_add a 1) ?_
    refine pfX8_163 (ws1 := wR Y b (pWr R (a + 1) (upd (O) (5 * o + k) ((R 5 a) - 48)) (o))) hx hb hta hown hK hP hD hS 0 rfl (Nat.le_of_ble_eq_true rfl) rfl dX8_isDigit_45 (fun H locs hP hD hS => ?_)
    refine lv_iconst (v := 1) hx hb dX8_isDigit_48 (by decide) ?_
    exact kzret (((a + 1), (upd (O) (5 * o + k) ((R 5 a) - 48)))) hQ hx hb hr hlocks hP hS dX8_isDigit_49 (by first | exact Or.inl rfl | exact Or.inr rfl | exact kb_01 _) (by refine ⟨(kb_t c2).symm, ?_⟩; unfold pSg pDgO; rw [if_pos c2, if_pos c2])
  · refine kTop (kb_f c2) ?_
    refine lv_if_ne (tgt := 13) hx hb dX8_isDigit_8 (by decide) (fun h => False.elim (by revert h; decide)) (fun _ => ?_)
    refine lv_iconst (v := 0) hx hb dX8_isDigit_11 (by decide) ?_
    exact kzret (((a), (O))) hQ hx hb hr hlocks hP hS dX8_isDigit_12 (by first | exact Or.inl rfl | exact Or.inr rfl | exact kb_01 _) (by refine ⟨(kb_f c2).symm, ?_⟩; unfold pSg pDgO; rw [if_neg c2, if_neg c2])
