set_option maxHeartbeats 4000000 in
set_option maxRecDepth 100000 in
theorem c_X8_isSign (l : Launch) (D : va_G) (Y : Nat → ClassId) (b : Nat → Nat) (R : kN) (a : Nat) (O : Nat → Int32) (o : Nat) (hn : R 7 1 = nI (pn R)) (h80 : pn R ≤ 80) (ha : a ≤ pn R) (c0 : Int32) : kM l yX8_isSign wX8_isSign rX8_isSign D Y (wR Y b (pWr R (a) (O) (o))) [.ref (b 0), .int c0] kX0 (kQi D (fun r u => r = kb (pAt (R 5) (pn R) a c0 c0) ∧ u = pSg (R 5) (pn R) a c0 c0) (fun u => wR Y b (pWr R u O o))) := by
  refine kentry (cc := cX8_isSign) (maxL := 3) (ret := (some .boolean)) (by decide +kernel) rfl (Nat.le_of_ble_eq_true rfl) ?_
  intro p e s0 m args below meth c A Q ls hQ hx hb hr hlocks hml hown hin hta hA hX0 hK hNs hP hD hS hl
  have hown : s0.vm.findClass RX8 = some m.cls := hown
  have hl : lv_has ls 3 [(0, .ref (b 0)), (1, .int c0)] := hl
  refine lv_aload_n hx hb dX8_isSign_0 rfl (lv_at hl 0 rfl) ?_
  refine lv_iload_n hx hb dX8_isSign_1 rfl (lv_at hl 1 rfl) ?_
  refine lv_iload_n hx hb dX8_isSign_2 rfl (lv_at hl 1 rfl) ?_
  refine kc_i (krV (As := [.int c0, .int c0]) (rest := []) (c_X8_isAt l D Y b R (a) (O) (o) hn h80 ha c0 c0) ⟨hx, hb, hml, hown, hta⟩ (cwX8_166 hta ⟨Nat.le_of_ble_eq_true rfl, Nat.le_of_ble_eq_true rfl⟩) kX0b (fun _ _ _ => trivial) hK hNs hP hD (kJ_all) (q0 := 0) rfl rfl rfl rfl hl.1 rfl (Nat.le_of_ble_eq_true rfl) dX8_isSign_3 ⟨Nat.le_of_ble_eq_true rfl, Nat.le_of_ble_eq_true rfl⟩) hP hD hS hA (kJ_all) (fun _ => rfl) (fun r1 u H locs hw hP hD hS => ?_)
  subst hw
  have hP : va_P D vwCl (wR Y b (pWr R (a) (O) (o))) H := hP
  have hD : va_D A (wR Y b (pWr R (a) (O) (o))) := hD
  refine lv_istore_n (lv' := [(2, .int (kb (pAt (R 5) (pn R) (a) c0 c0))), (0, .ref (b 0)), (1, .int c0)]) hx hb dX8_isSign_6 rfl hl (by decide) rfl (fun ls hl => ?_)
  refine lv_aload_n hx hb dX8_isSign_7 rfl (lv_at hl 1 rfl) ?_
  refine lv_dup hx hb dX8_isSign_8 rfl ?_
  refine gfX8_163 (v := .int (nI a)) hx hb hta hown hK hP 0 rfl rfl dX8_isSign_9 ?_
  refine lv_iload_n hx hb dX8_isSign_12 rfl (lv_at hl 0 rfl) ?_
  by_cases c2 : pAt (R 5) (pn R) (a) c0 c0
  · refine kTop (kb_t c2) ?_
    refine lv_if_eq (tgt := 20) hx hb dX8_isSign_13 (by decide) (fun h => False.elim (by revert h; decide)) (fun _ => ?_)
    refine lv_iconst (v := 1) hx hb dX8_isSign_16 (by decide) ?_
    refine lv_goto (tgt := 21) hx hb dX8_isSign_17 (by decide) ?_
    refine lv_iadd hx hb dX8_isSign_21 ?_
    refine kTop (nI_add a 1) ?_
    refine pfX8_163 (ws1 := wR Y b (pWr R (a + 1) (O) (o))) hx hb hta hown hK hP hD hS 0 rfl (Nat.le_of_ble_eq_true rfl) rfl dX8_isSign_22 (fun H locs hP hD hS => ?_)
    refine lv_iload_n hx hb dX8_isSign_25 rfl (lv_at hl 0 rfl) ?_
    exact kzret (a + 1) hQ hx hb hr hlocks hP hS dX8_isSign_26 (by first | exact Or.inl rfl | exact Or.inr rfl | exact kb_01 _) (by refine ⟨rfl, ?_⟩; unfold pSg; rw [if_pos c2] <;> rfl)
  · refine kTop (kb_f c2) ?_
    refine lv_if_eq (tgt := 20) hx hb dX8_isSign_13 (by decide) (fun _ => ?_) (fun h => False.elim (by revert h; decide))
    refine lv_iconst (v := 0) hx hb dX8_isSign_20 (by decide) ?_
    refine lv_iadd hx hb dX8_isSign_21 ?_
    refine kTop (nI_add a 0) ?_
    refine pfX8_163 (ws1 := wR Y b (pWr R (a + 0) (O) (o))) hx hb hta hown hK hP hD hS 0 rfl (Nat.le_of_ble_eq_true rfl) rfl dX8_isSign_22 (fun H locs hP hD hS => ?_)
    refine lv_iload_n hx hb dX8_isSign_25 rfl (lv_at hl 0 rfl) ?_
    exact kzret (a + 0) hQ hx hb hr hlocks hP hS dX8_isSign_26 (by first | exact Or.inl rfl | exact Or.inr rfl | exact kb_01 _) (by refine ⟨rfl, ?_⟩; unfold pSg; rw [if_neg c2] <;> rfl)
