set_option maxHeartbeats 4000000 in
set_option maxRecDepth 100000 in
theorem c_X5_addStop (l : Launch) (D : va_G) (Y : Nat → ClassId) (a : Nat → Nat) (M : kN) (f t : Int32) (hI : cI M) : kM l yX5_addStop wX5_addStop rX5_addStop D Y (wM Y a M) [.ref (a 17), .int f, .int t] kX0 (kQi D (fun r u => r = (cStop M f t).1 ∧ u = (cStop M f t).2) (fun u => wM Y a u)) := by
  refine kentry (cc := cX5_addStop) (maxL := 3) (ret := (some .int)) (by decide +kernel) rfl (Nat.le_of_ble_eq_true rfl) ?_
  intro p e s m args below meth c A Q ls hQ hx hb hr hlocks hml hown hin hta hA hX hK hNs hP hD hS hl
  have hown : s.vm.findClass RX5 = some m.cls := hown
  have hl : lv_has ls 3 [(0, .ref (a 17)), (1, .int f), (2, .int t)] := hl
  have h5 := hI.s5
  refine lv_iload_n hx hb dX5_addStop_0 rfl (lv_at hl 1 rfl) ?_
  refine lv_iconst (v := 0) hx hb dX5_addStop_1 (by decide) ?_
  refine lv_sipush (v := 999) hx hb dX5_addStop_2 (by decide) ?_
  refine kc_i (krSN (As := [.int f, .int 0, .int 999]) (rest := []) (c_X7_isWithin l D Y f 0 999) ⟨hx, hb, hml, hown, hta⟩ (cwX5_26 hta hNs ⟨Nat.le_of_ble_eq_true rfl, Nat.le_of_ble_eq_true rfl⟩) kX0b (fun _ _ _ => trivial) hK hNs hP hD (kJ_nil) rfl hl.1 rfl (Nat.le_of_ble_eq_true rfl) dX5_addStop_5 ⟨Nat.le_of_ble_eq_true rfl, Nat.le_of_ble_eq_true rfl⟩) hP hD hS hA (kJ_nil) (fun _ => rfl) (fun r1 u H locs hw hP hD hS => ?_)
  subst hw
  have hP : va_P D vwCl (wM Y a M) H := hP
  have hD : va_D A (wM Y a M) := hD
  by_cases c2 : pIn f 0 999
  · refine kTop (kb_t c2) ?_
    refine lv_if_eq (tgt := 22) hx hb dX5_addStop_8 (by decide) (fun h => False.elim (by revert h; decide)) (fun _ => ?_)
    refine lv_iload_n hx hb dX5_addStop_11 rfl (lv_at hl 2 rfl) ?_
    refine lv_iload_n hx hb dX5_addStop_12 rfl (lv_at hl 1 rfl) ?_
    refine lv_sipush (v := 999) hx hb dX5_addStop_13 (by decide) ?_
    refine kc_i (krSN (As := [.int t, .int f, .int 999]) (rest := []) (c_X7_isWithin l D Y t f 999) ⟨hx, hb, hml, hown, hta⟩ (cwX5_26 hta hNs ⟨Nat.le_of_ble_eq_true rfl, Nat.le_of_ble_eq_true rfl⟩) kX0b (fun _ _ _ => trivial) hK hNs hP hD (kJ_nil) rfl hl.1 rfl (Nat.le_of_ble_eq_true rfl) dX5_addStop_16 ⟨Nat.le_of_ble_eq_true rfl, Nat.le_of_ble_eq_true rfl⟩) hP hD hS hA (kJ_nil) (fun _ => rfl) (fun r3 u H locs hw hP hD hS => ?_)
    subst hw
    have hP : va_P D vwCl (wM Y a M) H := hP
    have hD : va_D A (wM Y a M) := hD
    by_cases c4 : pIn t f 999
    · refine kTop (kb_t c4) ?_
      refine lv_if_ne (tgt := 25) hx hb dX5_addStop_19 (by decide) (fun _ => ?_) (fun h => False.elim (by revert h; decide))
      refine lv_aload_n hx hb dX5_addStop_25 rfl (lv_at hl 0 rfl) ?_
      refine gfX5_18 (v := .int (M 19 5)) hx hb hta hown hK hP 17 rfl rfl dX5_addStop_26 ?_
      refine kTop hI.s ?_
      refine lv_iconst (v := 5) hx hb dX5_addStop_29 (by decide) ?_
      refine lv_icmp_lt (tgt := 36) hx hb dX5_addStop_30 (by decide) (fun c5 => ?_) (fun c5 => ?_)
      · have c5n : (nS M) < 5 := (nI_ltI (a := nS M) (b := 5) (by omega) (by omega)).mp c5
        refine lv_aload_n hx hb dX5_addStop_36 rfl (lv_at hl 0 rfl) ?_
        refine gfX5_9 (v := .ref (a 18)) hx hb hta hown hK hP 17 rfl rfl dX5_addStop_37 ?_
        refine lv_aload_n hx hb dX5_addStop_40 rfl (lv_at hl 0 rfl) ?_
        refine gfX5_18 (v := .int (M 19 5)) hx hb hta hown hK hP 17 rfl rfl dX5_addStop_41 ?_
        refine kTop hI.s ?_
        refine lv_iload_n hx hb dX5_addStop_44 rfl (lv_at hl 1 rfl) ?_
        refine kiast (f := M 14) hx hb hK hP hD hS 18 rfl (nS M) rfl (by omega) (by omega) dX5_addStop_45 (wM Y a (sM M 14 (nS M) f)) rfl (fun H locs hP hD hS => ?_)
        refine lv_aload_n hx hb dX5_addStop_46 rfl (lv_at hl 0 rfl) ?_
        refine gfX5_15 (v := .ref (a 19)) hx hb hta hown hK hP 17 rfl rfl dX5_addStop_47 ?_
        refine lv_aload_n hx hb dX5_addStop_50 rfl (lv_at hl 0 rfl) ?_
        refine gfX5_18 (v := .int (M 19 5)) hx hb hta hown hK hP 17 rfl rfl dX5_addStop_51 ?_
        refine kTop hI.s ?_
        refine lv_iload_n hx hb dX5_addStop_54 rfl (lv_at hl 2 rfl) ?_
        refine kiast (f := M 15) hx hb hK hP hD hS 19 rfl (nS M) rfl (by omega) (by omega) dX5_addStop_55 (wM Y a (sM (sM M 14 (nS M) f) 15 (nS M) t)) rfl (fun H locs hP hD hS => ?_)
        refine lv_aload_n hx hb dX5_addStop_56 rfl (lv_at hl 0 rfl) ?_
        refine lv_dup hx hb dX5_addStop_57 rfl ?_
        refine gfX5_18 (v := .int (M 19 5)) hx hb hta hown hK hP 17 rfl rfl dX5_addStop_58 ?_
        refine kTop hI.s ?_
        refine lv_iconst (v := 1) hx hb dX5_addStop_61 (by decide) ?_
        refine lv_iadd hx hb dX5_addStop_62 ?_
        refine kTop (nI_add (nS M) 1) ?_
        refine pfX5_18 (ws1 := wM Y a (sM (sM (sM M 14 (nS M) f) 15 (nS M) t) 19 5 (nI ((nS M) + 1)))) hx hb hta hown hK hP hD hS 17 rfl (Nat.le_of_ble_eq_true rfl) rfl dX5_addStop_63 (fun H locs hP hD hS => ?_)
        refine lv_aload_n hx hb dX5_addStop_66 rfl (lv_at hl 0 rfl) ?_
        refine gfX5_18 (v := .int (nI ((nS M) + 1))) hx hb hta hown hK hP 17 rfl rfl dX5_addStop_67 ?_
        refine lv_iconst (v := 1) hx hb dX5_addStop_70 (by decide) ?_
        refine lv_isub hx hb dX5_addStop_71 ?_
        refine kTop (y := nI (nS M)) (nI_pred (nS M)) ?_
        exact kiret (sM (sM (sM M 14 (nS M) f) 15 (nS M) t) 19 5 (nI ((nS M) + 1))) hQ hx hb hr hlocks hP hS dX5_addStop_72 (by unfold cStop; rw [hI.s, if_pos c2, if_pos c4, if_pos c5]; refine ⟨rfl, ?_⟩; rw [nI_1])
      · have c5n : ¬ (nS M) < 5 := fun h => c5 ((nI_ltI (a := nS M) (b := 5) (by omega) (by omega)).mpr h)
        refine lv_bipush (v := (-4)) hx hb dX5_addStop_33 (by decide) ?_
        exact kiret (M) hQ hx hb hr hlocks hP hS dX5_addStop_35 (by unfold cStop; rw [hI.s, if_pos c2, if_pos c4, if_neg c5]; exact ⟨rfl, rfl⟩)
    · refine kTop (kb_f c4) ?_
      refine lv_if_ne (tgt := 25) hx hb dX5_addStop_19 (by decide) (fun h => False.elim (by revert h; decide)) (fun _ => ?_)
      refine lv_bipush (v := (-2)) hx hb dX5_addStop_22 (by decide) ?_
      exact kiret (M) hQ hx hb hr hlocks hP hS dX5_addStop_24 (by unfold cStop; rw [hI.s, if_pos c2, if_neg c4]; exact ⟨rfl, rfl⟩)
  · refine kTop (kb_f c2) ?_
    refine lv_if_eq (tgt := 22) hx hb dX5_addStop_8 (by decide) (fun _ => ?_) (fun h => False.elim (by revert h; decide))
    refine lv_bipush (v := (-2)) hx hb dX5_addStop_22 (by decide) ?_
    exact kiret (M) hQ hx hb hr hlocks hP hS dX5_addStop_24 (by unfold cStop; rw [hI.s, if_neg c2]; exact ⟨rfl, rfl⟩)
