set_option maxHeartbeats 4000000 in
set_option maxRecDepth 100000 in
theorem c_X8_isAt (l : Launch) (D : va_G) (Y : Nat → ClassId) (b : Nat → Nat) (R : kN) (a : Nat) (O : Nat → Int32) (o : Nat) (hn : R 7 1 = nI (pn R)) (h80 : pn R ≤ 80) (ha : a ≤ pn R) (lo hi : Int32) : kM l yX8_isAt wX8_isAt rX8_isAt D Y (wR Y b (pWr R (a) (O) (o))) [.ref (b 0), .int lo, .int hi] kX0 (kQi D (fun r (_ : Unit) => r = kb (pAt (R 5) (pn R) a lo hi)) (fun _ => wR Y b (pWr R a O o))) := by
  refine kentry (cc := cX8_isAt) (maxL := 3) (ret := (some .boolean)) (by decide +kernel) rfl (Nat.le_of_ble_eq_true rfl) ?_
  intro p e s0 m args below meth c A Q ls hQ hx hb hr hlocks hml hown hin hta hA hX0 hK hNs hP hD hS hl
  have hown : s0.vm.findClass RX8 = some m.cls := hown
  have hl : lv_has ls 3 [(0, .ref (b 0)), (1, .int lo), (2, .int hi)] := hl
  refine lv_aload_n hx hb dX8_isAt_0 rfl (lv_at hl 0 rfl) ?_
  refine gfX8_163 (v := .int (nI a)) hx hb hta hown hK hP 0 rfl rfl dX8_isAt_1 ?_
  refine lv_aload_n hx hb dX8_isAt_4 rfl (lv_at hl 0 rfl) ?_
  refine gfX8_143 (v := .int (R 7 1)) hx hb hta hown hK hP 0 rfl rfl dX8_isAt_5 ?_
  refine kTop hn ?_
  refine lv_icmp_ge (tgt := 32) hx hb dX8_isAt_8 (by decide) (fun c1 => ?_) (fun c1 => ?_)
  · have c1n : (pn R) ≤ a := (nI_leI (a := pn R) (b := a) (by omega) (by omega)).mp c1
    refine lv_iconst (v := 0) hx hb dX8_isAt_32 (by decide) ?_
    exact kzret (()) hQ hx hb hr hlocks hP hS dX8_isAt_33 (by first | exact Or.inl rfl | exact Or.inr rfl | exact kb_01 _) ((kb_f (fun h => absurd h.1 (by omega))).symm)
  · have c1n : ¬ (pn R) ≤ a := fun h => c1 ((nI_leI (a := pn R) (b := a) (by omega) (by omega)).mpr h)
    refine lv_aload_n hx hb dX8_isAt_11 rfl (lv_at hl 0 rfl) ?_
    refine gfX8_26 (v := .ref (b 6)) hx hb hta hown hK hP 0 rfl rfl dX8_isAt_12 ?_
    refine lv_aload_n hx hb dX8_isAt_15 rfl (lv_at hl 0 rfl) ?_
    refine gfX8_163 (v := .int (nI a)) hx hb hta hown hK hP 0 rfl rfl dX8_isAt_16 ?_
    refine kiald (f := R 5) hx hb hK hP 6 rfl a rfl (by omega) (by omega) dX8_isAt_19 ?_
    refine lv_iload_n hx hb dX8_isAt_20 rfl (lv_at hl 1 rfl) ?_
    refine lv_iload_n hx hb dX8_isAt_21 rfl (lv_at hl 2 rfl) ?_
    refine kc_i (krS (As := [.int (R 5 a), .int lo, .int hi]) (rest := []) (c_X8_in l D Y (R 5 a) lo hi) ⟨hx, hb, hml, hown, hta⟩ (cwX8_32 hta ⟨Nat.le_of_ble_eq_true rfl, Nat.le_of_ble_eq_true rfl⟩) kX0b (fun _ _ _ => trivial) hK hNs hP hD (kJ_nil) rfl hl.1 rfl (Nat.le_of_ble_eq_true rfl) dX8_isAt_22 ⟨Nat.le_of_ble_eq_true rfl, Nat.le_of_ble_eq_true rfl⟩) hP hD hS hA (kJ_nil) (fun _ => rfl) (fun r2 u H locs hw hP hD hS => ?_)
    subst hw
    have hP : va_P D vwCl (wR Y b (pWr R (a) (O) (o))) H := hP
    have hD : va_D A (wR Y b (pWr R (a) (O) (o))) := hD
    by_cases c3 : pIn (R 5 a) lo hi
    · refine kTop (kb_t c3) ?_
      refine lv_if_eq (tgt := 32) hx hb dX8_isAt_25 (by decide) (fun h => False.elim (by revert h; decide)) (fun _ => ?_)
      refine lv_iconst (v := 1) hx hb dX8_isAt_28 (by decide) ?_
      refine lv_goto (tgt := 33) hx hb dX8_isAt_29 (by decide) ?_
      exact kzret (()) hQ hx hb hr hlocks hP hS dX8_isAt_33 (by first | exact Or.inl rfl | exact Or.inr rfl | exact kb_01 _) ((kb_t ⟨Nat.not_le.mp c1n, c3⟩).symm)
    · refine kTop (kb_f c3) ?_
      refine lv_if_eq (tgt := 32) hx hb dX8_isAt_25 (by decide) (fun _ => ?_) (fun h => False.elim (by revert h; decide))
      refine lv_iconst (v := 0) hx hb dX8_isAt_32 (by decide) ?_
      exact kzret (()) hQ hx hb hr hlocks hP hS dX8_isAt_33 (by first | exact Or.inl rfl | exact Or.inr rfl | exact kb_01 _) ((kb_f (fun h => c3 h.2)).symm)
