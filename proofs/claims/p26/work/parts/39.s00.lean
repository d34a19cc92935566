set_option maxHeartbeats 4000000 in
set_option maxRecDepth 100000 in
theorem c_X3_changeSetting (l : Launch) (D : va_G) (Y : Nat → ClassId) (base : Nat) (ad av : Nat → Nat) (a : Nat → Nat) (M : kN) (k v : Int32) (hB : ∀ i, base ≤ a i) : kM l yX3_changeSetting wX3_changeSetting rX3_changeSetting D Y (wM Y a M) [.ref (a 0), .int k, .int v] (kX base ad av) (kQi D (fun r u => r = (cSet M k v).1 ∧ u = (cSet M k v).2) (fun u => wM Y a u)) := by
  refine kentryE (cc := cX3_changeSetting) (maxL := 4) (ret := (some .int)) (by decide +kernel) rfl (Nat.le_of_ble_eq_true rfl) ?_
  intro p e s0 m args below meth c A Q ls hA2 hQ hx hb hr hlocks hml hown hin hta hA hX0 hK hNs hP hD hS hl
  have hown : s0.vm.findClass RX3 = some m.cls := hown
  have hl : lv_has ls 4 [(0, .ref (a 0)), (1, .int k), (2, .int v)] := hl
  have hAb := kAb hA2 hX0.1 (kBM hB)
  have hE := hX0.2.narrow hAb
  refine lv_iload_n hx hb dX3_changeSetting_0 rfl (lv_at hl 1 rfl) ?_
  refine lv_iconst (v := 0) hx hb dX3_changeSetting_1 (by decide) ?_
  refine lv_bipush (v := 6) hx hb dX3_changeSetting_2 (by decide) ?_
  refine kc_i (krSN (As := [.int k, .int 0, .int 6]) (rest := []) (c_X7_isWithin l D Y k 0 6) ⟨hx, hb, hml, hown, hta⟩ (cwX3_73 hta hNs ⟨Nat.le_of_ble_eq_true rfl, Nat.le_of_ble_eq_true rfl⟩) kX0b (fun _ _ _ => trivial) hK hNs hP hD (kJ_nil) rfl hl.1 rfl (Nat.le_of_ble_eq_true rfl) dX3_changeSetting_4 ⟨Nat.le_of_ble_eq_true rfl, Nat.le_of_ble_eq_true rfl⟩) hP hD hS hA (kJ_nil) (fun _ => rfl) (fun r1 u H locs hw hP hD hS => ?_)
  subst hw
  have hP : va_P D vwCl (wM Y a M) H := hP
  have hD : va_D A (wM Y a M) := hD
  by_cases c2 : pIn k 0 6
  · refine kTop (kb_t c2) ?_
    refine lv_if_ne (tgt := 13) hx hb dX3_changeSetting_7 (by decide) (fun _ => ?_) (fun h => False.elim (by revert h; decide))
    obtain ⟨j, rfl, hj0, hj1⟩ := pIn_nat c2 (show (0 : Int32) = nI 0 from rfl) (show (6 : Int32) = nI 6 from rfl) (by omega) (by omega)
    refine lv_iload_n hx hb dX3_changeSetting_13 rfl (lv_at hl 2 rfl) ?_
    refine va_gets hx hb hE.2.2.2.2.1.1 hS hown (hta _ al_163) (fun _ h => h) dX3_changeSetting_14 ?_
    refine lv_iload_n hx hb dX3_changeSetting_17 rfl (lv_at hl 1 rfl) ?_
    refine va_ti (v := .int (kLo.getD j 0)) hx hb hE.2.2.2.2.1.2 hS (vp_in_nI (by omega) (by omega)) (by rw [nI_clamp (by omega)]) dX3_changeSetting_18 ?_
    refine va_gets hx hb hE.2.2.2.2.2.1 hS hown (hta _ al_164) (fun _ h => h) dX3_changeSetting_19 ?_
    refine lv_iload_n hx hb dX3_changeSetting_22 rfl (lv_at hl 1 rfl) ?_
    refine va_ti (v := .int (kHi.getD j 0)) hx hb hE.2.2.2.2.2.2 hS (vp_in_nI (by omega) (by omega)) (by rw [nI_clamp (by omega)]) dX3_changeSetting_23 ?_
    refine kc_i (krSN (As := [.int v, .int (kLo.getD j 0), .int (kHi.getD j 0)]) (rest := []) (c_X7_isWithin l D Y v (kLo.getD j 0) (kHi.getD j 0)) ⟨hx, hb, hml, hown, hta⟩ (cwX3_73 hta hNs ⟨Nat.le_of_ble_eq_true rfl, Nat.le_of_ble_eq_true rfl⟩) kX0b (fun _ _ _ => trivial) hK hNs hP hD (kJ_nil) rfl hl.1 rfl (Nat.le_of_ble_eq_true rfl) dX3_changeSetting_24 ⟨Nat.le_of_ble_eq_true rfl, Nat.le_of_ble_eq_true rfl⟩) hP hD hS hA (kJ_nil) (fun _ => rfl) (fun r3 u H locs hw hP hD hS => ?_)
    subst hw
    have hP : va_P D vwCl (wM Y a M) H := hP
    have hD : va_D A (wM Y a M) := hD
    by_cases c4 : pIn v (kLo.getD j 0) (kHi.getD j 0)
    · refine kTop (kb_t c4) ?_
      refine lv_if_ne (tgt := 33) hx hb dX3_changeSetting_27 (by decide) (fun _ => ?_) (fun h => False.elim (by revert h; decide))
      refine lv_aload_n hx hb dX3_changeSetting_33 rfl (lv_at hl 0 rfl) ?_
      refine gfX3_9 (v := .ref (a 1)) hx hb hta hown hK hP 0 rfl rfl dX3_changeSetting_34 ?_
      refine lv_iload_n hx hb dX3_changeSetting_37 rfl (lv_at hl 1 rfl) ?_
      refine kiald (f := M 0) hx hb hK hP 1 rfl j rfl (by omega) (by omega) dX3_changeSetting_38 ?_
      refine lv_istore_n (lv' := [(3, .int (M 0 j)), (0, .ref (a 0)), (1, .int (nI j)), (2, .int v)]) hx hb dX3_changeSetting_39 rfl hl (by decide) rfl (fun ls hl => ?_)
      refine lv_aload_n hx hb dX3_changeSetting_40 rfl (lv_at hl 1 rfl) ?_
      refine gfX3_9 (v := .ref (a 1)) hx hb hta hown hK hP 0 rfl rfl dX3_changeSetting_41 ?_
      refine lv_iload_n hx hb dX3_changeSetting_44 rfl (lv_at hl 2 rfl) ?_
      refine lv_iload_n hx hb dX3_changeSetting_45 rfl (lv_at hl 3 rfl) ?_
      refine kiast (f := M 0) hx hb hK hP hD hS 1 rfl j rfl (by omega) (by omega) dX3_changeSetting_46 (wM Y a (sM M 0 j v)) rfl (fun H locs hP hD hS => ?_)
      refine lv_iload_n hx hb dX3_changeSetting_47 rfl (lv_at hl 0 rfl) ?_
      exact kiret (sM M 0 j v) hQ hx hb hr hlocks hP hS dX3_changeSetting_48 (by unfold cSet; rw [if_pos c2, nI_clamp (n := j) (by omega), if_pos c4]; exact ⟨rfl, rfl⟩)
    · refine kTop (kb_f c4) ?_
      refine lv_if_ne (tgt := 33) hx hb dX3_changeSetting_27 (by decide) (fun h => False.elim (by revert h; decide)) (fun _ => ?_)
      refine lv_bipush (v := (-2)) hx hb dX3_changeSetting_30 (by decide) ?_
      exact kiret (M) hQ hx hb hr hlocks hP hS dX3_changeSetting_32 (by unfold cSet; rw [if_pos c2, nI_clamp (n := j) (by omega), if_neg c4]; exact ⟨rfl, rfl⟩)
  · refine kTop (kb_f c2) ?_
    refine lv_if_ne (tgt := 13) hx hb dX3_changeSetting_7 (by decide) (fun h => False.elim (by revert h; decide)) (fun _ => ?_)
    refine lv_bipush (v := (-2)) hx hb dX3_changeSetting_10 (by decide) ?_
    exact kiret (M) hQ hx hb hr hlocks hP hS dX3_changeSetting_12 (by unfold cSet; rw [if_neg c2]; exact ⟨rfl, rfl⟩)
