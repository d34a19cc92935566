set_option maxHeartbeats 4000000 in
set_option maxRecDepth 100000 in
theorem c_X3_changeQuota (l : Launch) (D : va_G) (Y : Nat → ClassId) (a : Nat → Nat) (M : kN) (g t : Int32) : kM l yX3_changeQuota wX3_changeQuota rX3_changeQuota D Y (wM Y a M) [.ref (a 0), .int g, .int t] kX0 (kQi D (fun r u => r = (cQuota M g t).1 ∧ u = (cQuota M g t).2) (fun u => wM Y a u)) := by
  refine kentry (cc := cX3_changeQuota) (maxL := 4) (ret := (some .int)) (by decide +kernel) rfl (Nat.le_of_ble_eq_true rfl) ?_
  intro p e s m args below meth c A Q ls hQ hx hb hr hlocks hml hown hin hta hA hX hK hNs hP hD hS hl
  have hown : s.vm.findClass RX3 = some m.cls := hown
  have hl : lv_has ls 4 [(0, .ref (a 0)), (1, .int g), (2, .int t)] := hl
  refine lv_iload_n hx hb dX3_changeQuota_0 rfl (lv_at hl 1 rfl) ?_
  refine kc_i (krSN (As := [.int g]) (rest := []) (c_X7_isGrower l D Y g) ⟨hx, hb, hml, hown, hta⟩ (cwX3_83 hta hNs ⟨Nat.le_of_ble_eq_true rfl, Nat.le_of_ble_eq_true rfl⟩) kX0b (fun _ _ _ => trivial) hK hNs hP hD (kJ_nil) rfl hl.1 rfl (Nat.le_of_ble_eq_true rfl) dX3_changeQuota_1 ⟨Nat.le_of_ble_eq_true rfl, Nat.le_of_ble_eq_true rfl⟩) hP hD hS hA (kJ_nil) (fun _ => rfl) (fun r1 u H locs hw hP hD hS => ?_)
  subst hw
  have hP : va_P D vwCl (wM Y a M) H := hP
  have hD : va_D A (wM Y a M) := hD
  by_cases c2 : pIn g 0 5
  · refine kTop (kb_t c2) ?_
    refine lv_if_ne (tgt := 9) hx hb dX3_changeQuota_4 (by decide) (fun _ => ?_) (fun h => False.elim (by revert h; decide))
    obtain ⟨k, rfl, hkl, hkh⟩ := pIn_nat c2 (show (0 : Int32) = nI 0 from rfl) (show (5 : Int32) = nI 5 from rfl) (by omega) (by omega)
    refine lv_iload_n hx hb dX3_changeQuota_9 rfl (lv_at hl 2 rfl) ?_
    refine lv_iconst (v := 0) hx hb dX3_changeQuota_10 (by decide) ?_
    refine lv_sipush (v := 9999) hx hb dX3_changeQuota_11 (by decide) ?_
    refine kc_i (krSN (As := [.int t, .int 0, .int 9999]) (rest := []) (c_X7_isWithin l D Y t 0 9999) ⟨hx, hb, hml, hown, hta⟩ (cwX3_73 hta hNs ⟨Nat.le_of_ble_eq_true rfl, Nat.le_of_ble_eq_true rfl⟩) kX0b (fun _ _ _ => trivial) hK hNs hP hD (kJ_nil) rfl hl.1 rfl (Nat.le_of_ble_eq_true rfl) dX3_changeQuota_14 ⟨Nat.le_of_ble_eq_true rfl, Nat.le_of_ble_eq_true rfl⟩) hP hD hS hA (kJ_nil) (fun _ => rfl) (fun r3 u H locs hw hP hD hS => ?_)
    subst hw
    have hP : va_P D vwCl (wM Y a M) H := hP
    have hD : va_D A (wM Y a M) := hD
    by_cases c4 : pIn t 0 9999
    · refine kTop (kb_t c4) ?_
      refine lv_if_ne (tgt := 23) hx hb dX3_changeQuota_17 (by decide) (fun _ => ?_) (fun h => False.elim (by revert h; decide))
      refine lv_aload_n hx hb dX3_changeQuota_23 rfl (lv_at hl 0 rfl) ?_
      refine gfX3_18 (v := .ref (a 2)) hx hb hta hown hK hP 0 rfl rfl dX3_changeQuota_24 ?_
      refine gfX3_87 (v := .ref (a 3)) hx hb hta hown hK hP 2 rfl rfl dX3_changeQuota_27 ?_
      refine lv_iload_n hx hb dX3_changeQuota_30 rfl (lv_at hl 1 rfl) ?_
      refine kiald (f := M 1) hx hb hK hP 3 rfl k rfl (by omega) (by omega) dX3_changeQuota_31 ?_
      refine lv_istore_n (lv' := [(3, .int (M 1 k)), (0, .ref (a 0)), (1, .int (nI k)), (2, .int t)]) hx hb dX3_changeQuota_32 rfl hl (by decide) rfl (fun ls hl => ?_)
      refine lv_aload_n hx hb dX3_changeQuota_33 rfl (lv_at hl 1 rfl) ?_
      refine gfX3_18 (v := .ref (a 2)) hx hb hta hown hK hP 0 rfl rfl dX3_changeQuota_34 ?_
      refine gfX3_87 (v := .ref (a 3)) hx hb hta hown hK hP 2 rfl rfl dX3_changeQuota_37 ?_
      refine lv_iload_n hx hb dX3_changeQuota_40 rfl (lv_at hl 2 rfl) ?_
      refine lv_iload_n hx hb dX3_changeQuota_41 rfl (lv_at hl 3 rfl) ?_
      refine kiast (f := M 1) hx hb hK hP hD hS 3 rfl k rfl (by omega) (by omega) dX3_changeQuota_42 (wM Y a (sM M 1 k t)) rfl (fun H locs hP hD hS => ?_)
      refine lv_iload_n hx hb dX3_changeQuota_43 rfl (lv_at hl 0 rfl) ?_
      exact kiret (sM M 1 k t) hQ hx hb hr hlocks hP hS dX3_changeQuota_44 (by unfold cQuota; rw [if_pos c2, if_pos c4]; rw [nI_clamp (by omega)]; exact ⟨rfl, rfl⟩)
    · refine kTop (kb_f c4) ?_
      refine lv_if_ne (tgt := 23) hx hb dX3_changeQuota_17 (by decide) (fun h => False.elim (by revert h; decide)) (fun _ => ?_)
      refine lv_bipush (v := (-2)) hx hb dX3_changeQuota_20 (by decide) ?_
      exact kiret (M) hQ hx hb hr hlocks hP hS dX3_changeQuota_22 (by unfold cQuota; rw [if_pos c2, if_neg c4]; exact ⟨rfl, rfl⟩)
  · refine kTop (kb_f c2) ?_
    refine lv_if_ne (tgt := 9) hx hb dX3_changeQuota_4 (by decide) (fun h => False.elim (by revert h; decide)) (fun _ => ?_)
    refine lv_iconst (v := (-1)) hx hb dX3_changeQuota_7 (by decide) ?_
    exact kiret (M) hQ hx hb hr hlocks hP hS dX3_changeQuota_8 (by unfold cQuota; rw [if_neg c2]; exact ⟨rfl, rfl⟩)
