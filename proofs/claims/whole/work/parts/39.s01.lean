set_option maxHeartbeats 4000000 in
set_option maxRecDepth 100000 in
theorem c_X4_digitFollows (l : Launch) (D : va_G) (Y : Nat → ClassId) (d : Nat → Nat) (P : Nat → Int32) (n a : Nat) (kd : Int32) (V : Nat → Int32) (vc : Nat) (h80 : n ≤ 80) (ha : a ≤ n) (hv : vc ≤ 4) : kM l yX4_digitFollows wX4_digitFollows rX4_digitFollows D Y (wP Y d P n a kd V vc) [.ref (d 0)] kX0 (kQi D (fun r (_ : Unit) => r = kb (pAt P n a 48 57)) (fun _ => wP Y d P n a kd V vc)) := by
  refine kentry (cc := cX4_digitFollows) (maxL := 1) (ret := (some .boolean)) (by decide +kernel) rfl (Nat.le_of_ble_eq_true rfl) ?_
  intro p e s0 m args below meth c A Q ls hQ hx hb hr hlocks hml hown hin hta hA hX0 hK hNs hP hD hS hl
  have hown : s0.vm.findClass RX4 = some m.cls := hown
  have hl : lv_has ls 1 [(0, .ref (d 0))] := hl
  refine lv_aload_n hx hb dX4_digitFollows_0 rfl (lv_at hl 0 rfl) ?_
  refine gfX4_40 (v := .int (nI a)) hx hb hta hown hK hP 0 rfl rfl dX4_digitFollows_1 ?_
  refine lv_aload_n hx hb dX4_digitFollows_4 rfl (lv_at hl 0 rfl) ?_
  refine gfX4_23 (v := .int (nI n)) hx hb hta hown hK hP 0 rfl rfl dX4_digitFollows_5 ?_
  refine lv_icmp_ge (tgt := 34) hx hb dX4_digitFollows_8 (by decide) (fun c1 => ?_) (fun c1 => ?_)
  · have c1n : n ≤ a := (nI_leI (a := n) (b := a) (by omega) (by omega)).mp c1
    refine lv_iconst (v := 0) hx hb dX4_digitFollows_34 (by decide) ?_
    exact kzret (()) hQ hx hb hr hlocks hP hS dX4_digitFollows_35 (by first | exact Or.inl rfl | exact Or.inr rfl | exact kb_01 _) ((kb_f (fun h => absurd h.1 (by omega))).symm)
  · have c1n : ¬ n ≤ a := fun h => c1 ((nI_leI (a := n) (b := a) (by omega) (by omega)).mpr h)
    refine lv_aload_n hx hb dX4_digitFollows_11 rfl (lv_at hl 0 rfl) ?_
    refine gfX4_9 (v := .ref (d 1)) hx hb hta hown hK hP 0 rfl rfl dX4_digitFollows_12 ?_
    refine lv_aload_n hx hb dX4_digitFollows_15 rfl (lv_at hl 0 rfl) ?_
    refine gfX4_40 (v := .int (nI a)) hx hb hta hown hK hP 0 rfl rfl dX4_digitFollows_16 ?_
    refine kcald (f := P) hx hb hK hP 1 rfl a rfl (by omega) (by omega) dX4_digitFollows_19 ?_
    refine lv_bipush (v := 48) hx hb dX4_digitFollows_20 (by decide) ?_
    refine lv_bipush (v := 57) hx hb dX4_digitFollows_22 (by decide) ?_
    refine kc_i (krSN (As := [.int (P a), .int 48, .int 57]) (rest := []) (c_X7_isWithin l D Y (P a) 48 57) ⟨hx, hb, hml, hown, hta⟩ (cwX4_29 hta hNs ⟨Nat.le_of_ble_eq_true rfl, Nat.le_of_ble_eq_true rfl⟩) kX0b (fun _ _ _ => trivial) hK hNs hP hD (kJ_nil) rfl hl.1 rfl (Nat.le_of_ble_eq_true rfl) dX4_digitFollows_24 ⟨Nat.le_of_ble_eq_true rfl, Nat.le_of_ble_eq_true rfl⟩) hP hD hS hA (kJ_nil) (fun _ => rfl) (fun r2 u H locs hw hP hD hS => ?_)
    subst hw
    have hP : va_P D vwCl (wP Y d P n a kd V vc) H := hP
    have hD : va_D A (wP Y d P n a kd V vc) := hD
    by_cases c3 : pIn (P a) 48 57
    · refine kTop (kb_t c3) ?_
      refine lv_if_eq (tgt := 34) hx hb dX4_digitFollows_27 (by decide) (fun h => False.elim (by revert h; decide)) (fun _ => ?_)
      refine lv_iconst (v := 1) hx hb dX4_digitFollows_30 (by decide) ?_
      refine lv_goto (tgt := 35) hx hb dX4_digitFollows_31 (by decide) ?_
      exact kzret (()) hQ hx hb hr hlocks hP hS dX4_digitFollows_35 (by first | exact Or.inl rfl | exact Or.inr rfl | exact kb_01 _) ((kb_t ⟨Nat.not_le.mp c1n, c3⟩).symm)
    · refine kTop (kb_f c3) ?_
      refine lv_if_eq (tgt := 34) hx hb dX4_digitFollows_27 (by decide) (fun _ => ?_) (fun h => False.elim (by revert h; decide))
      refine lv_iconst (v := 0) hx hb dX4_digitFollows_34 (by decide) ?_
      exact kzret (()) hQ hx hb hr hlocks hP hS dX4_digitFollows_35 (by first | exact Or.inl rfl | exact Or.inr rfl | exact kb_01 _) ((kb_f (fun h => c3 h.2)).symm)
