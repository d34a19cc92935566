set_option maxHeartbeats 4000000 in
set_option maxRecDepth 100000 in
theorem c_X3_lendQuota (l : Launch) (D : va_G) (Y : Nat → ClassId) (a : Nat → Nat) (M : kN) (g o t : Int32) : kM l yX3_lendQuota wX3_lendQuota rX3_lendQuota D Y (wM Y a M) [.ref (a 0), .int g, .int o, .int t] kX0 (kQi D (fun r u => r = (cLend M g o t).1 ∧ u = (cLend M g o t).2) (fun u => wM Y a u)) := by
  refine kentry (cc := cX3_lendQuota) (maxL := 4) (ret := (some .int)) (by decide +kernel) rfl (Nat.le_of_ble_eq_true rfl) ?_
  intro p e s m args below meth c A Q ls hQ hx hb hr hlocks hml hown hin hta hA hX hK hNs hP hD hS hl
  have hown : s.vm.findClass RX3 = some m.cls := hown
  have hl : lv_has ls 4 [(0, .ref (a 0)), (1, .int g), (2, .int o), (3, .int t)] := hl
  refine lv_iload_n hx hb dX3_lendQuota_0 rfl (lv_at hl 1 rfl) ?_
  refine kc_i (krSN (As := [.int g]) (rest := []) (c_X7_isGrower l D Y g) ⟨hx, hb, hml, hown, hta⟩ (cwX3_83 hta hNs ⟨Nat.le_of_ble_eq_true rfl, Nat.le_of_ble_eq_true rfl⟩) kX0b (fun _ _ _ => trivial) hK hNs hP hD (kJ_nil) rfl hl.1 rfl (Nat.le_of_ble_eq_true rfl) dX3_lendQuota_1 ⟨Nat.le_of_ble_eq_true rfl, Nat.le_of_ble_eq_true rfl⟩) hP hD hS hA (kJ_nil) (fun _ => rfl) (fun r1 u H locs hw hP hD hS => ?_)
  subst hw
  have hP : va_P D vwCl (wM Y a M) H := hP
  have hD : va_D A (wM Y a M) := hD
  by_cases c2 : pIn g 0 5
  · refine kTop (kb_t c2) ?_
    refine lv_if_eq (tgt := 14) hx hb dX3_lendQuota_4 (by decide) (fun h => False.elim (by revert h; decide)) (fun _ => ?_)
    refine lv_iload_n hx hb dX3_lendQuota_7 rfl (lv_at hl 2 rfl) ?_
    refine kc_i (krSN (As := [.int o]) (rest := []) (c_X7_isGrower l D Y o) ⟨hx, hb, hml, hown, hta⟩ (cwX3_83 hta hNs ⟨Nat.le_of_ble_eq_true rfl, Nat.le_of_ble_eq_true rfl⟩) kX0b (fun _ _ _ => trivial) hK hNs hP hD (kJ_nil) rfl hl.1 rfl (Nat.le_of_ble_eq_true rfl) dX3_lendQuota_8 ⟨Nat.le_of_ble_eq_true rfl, Nat.le_of_ble_eq_true rfl⟩) hP hD hS hA (kJ_nil) (fun _ => rfl) (fun r3 u H locs hw hP hD hS => ?_)
    subst hw
    have hP : va_P D vwCl (wM Y a M) H := hP
    have hD : va_D A (wM Y a M) := hD
    by_cases c4 : pIn o 0 5
    · refine kTop (kb_t c4) ?_
      refine lv_if_ne (tgt := 16) hx hb dX3_lendQuota_11 (by decide) (fun _ => ?_) (fun h => False.elim (by revert h; decide))
      obtain ⟨k, rfl, hkl, hkh⟩ := pIn_nat c2 (show (0 : Int32) = nI 0 from rfl) (show (5 : Int32) = nI 5 from rfl) (by omega) (by omega)
      obtain ⟨j, rfl, hjl, hjh⟩ := pIn_nat c4 (show (0 : Int32) = nI 0 from rfl) (show (5 : Int32) = nI 5 from rfl) (by omega) (by omega)
      refine lv_iload_n hx hb dX3_lendQuota_16 rfl (lv_at hl 3 rfl) ?_
      refine lv_iconst (v := 1) hx hb dX3_lendQuota_17 (by decide) ?_
      refine lv_icmp_lt (tgt := 26) hx hb dX3_lendQuota_18 (by decide) (fun c5 => ?_) (fun c5 => ?_)
      · refine lv_bipush (v := (-2)) hx hb dX3_lendQuota_26 (by decide) ?_
        exact kiret (M) hQ hx hb hr hlocks hP hS dX3_lendQuota_28 (by unfold cLend; rw [nI_clamp (n := k) (by omega), nI_clamp (n := j) (by omega), if_pos c2, if_pos c4, if_pos c5]; exact ⟨rfl, rfl⟩)
      · refine lv_iload_n hx hb dX3_lendQuota_21 rfl (lv_at hl 1 rfl) ?_
        refine lv_iload_n hx hb dX3_lendQuota_22 rfl (lv_at hl 2 rfl) ?_
        refine lv_icmp_ne (tgt := 29) hx hb dX3_lendQuota_23 (by decide) (fun c6 => ?_) (fun c6 => ?_)
        · have c6n : ¬ k = j := fun h => c6 ((nI_eq (a := k) (b := j) (by omega) (by omega)).mpr h)
          refine lv_aload_n hx hb dX3_lendQuota_29 rfl (lv_at hl 0 rfl) ?_
          refine gfX3_18 (v := .ref (a 2)) hx hb hta hown hK hP 0 rfl rfl dX3_lendQuota_30 ?_
          refine gfX3_87 (v := .ref (a 3)) hx hb hta hown hK hP 2 rfl rfl dX3_lendQuota_33 ?_
          refine lv_iload_n hx hb dX3_lendQuota_36 rfl (lv_at hl 1 rfl) ?_
          refine kiald (f := M 1) hx hb hK hP 3 rfl k rfl (by omega) (by omega) dX3_lendQuota_37 ?_
          refine lv_iload_n hx hb dX3_lendQuota_38 rfl (lv_at hl 3 rfl) ?_
          refine lv_icmp_lt (tgt := 59) hx hb dX3_lendQuota_39 (by decide) (fun c7 => ?_) (fun c7 => ?_)
          · refine lv_bipush (v := (-5)) hx hb dX3_lendQuota_59 (by decide) ?_
            exact kiret (M) hQ hx hb hr hlocks hP hS dX3_lendQuota_61 (by unfold cLend; rw [nI_clamp (n := k) (by omega), nI_clamp (n := j) (by omega), if_pos c2, if_pos c4, if_neg c5, if_neg c6, if_pos c7]; exact ⟨rfl, rfl⟩)
          · refine lv_aload_n hx hb dX3_lendQuota_42 rfl (lv_at hl 0 rfl) ?_
            refine gfX3_18 (v := .ref (a 2)) hx hb hta hown hK hP 0 rfl rfl dX3_lendQuota_43 ?_
            refine gfX3_87 (v := .ref (a 3)) hx hb hta hown hK hP 2 rfl rfl dX3_lendQuota_46 ?_
            refine lv_iload_n hx hb dX3_lendQuota_49 rfl (lv_at hl 2 rfl) ?_
            refine kiald (f := M 1) hx hb hK hP 3 rfl j rfl (by omega) (by omega) dX3_lendQuota_50 ?_
            refine lv_sipush (v := 9999) hx hb dX3_lendQuota_51 (by decide) ?_
            refine lv_iload_n hx hb dX3_lendQuota_54 rfl (lv_at hl 3 rfl) ?_
            refine lv_isub hx hb dX3_lendQuota_55 ?_
            refine lv_icmp_le (tgt := 62) hx hb dX3_lendQuota_56 (by decide) (fun c8 => ?_) (fun c8 => ?_)
            · refine lv_aload_n hx hb dX3_lendQuota_62 rfl (lv_at hl 0 rfl) ?_
              refine gfX3_18 (v := .ref (a 2)) hx hb hta hown hK hP 0 rfl rfl dX3_lendQuota_63 ?_
              refine gfX3_87 (v := .ref (a 3)) hx hb hta hown hK hP 2 rfl rfl dX3_lendQuota_66 ?_
              refine lv_iload_n hx hb dX3_lendQuota_69 rfl (lv_at hl 1 rfl) ?_
              refine lv_dup2_11 hx hb dX3_lendQuota_70 rfl rfl ?_
              refine kiald (f := M 1) hx hb hK hP 3 rfl k rfl (by omega) (by omega) dX3_lendQuota_71 ?_
              refine lv_iload_n hx hb dX3_lendQuota_72 rfl (lv_at hl 3 rfl) ?_
              refine lv_isub hx hb dX3_lendQuota_73 ?_
              refine kiast (f := M 1) hx hb hK hP hD hS 3 rfl k rfl (by omega) (by omega) dX3_lendQuota_74 (wM Y a (sM M 1 k ((M 1 k) - t))) rfl (fun H locs hP hD hS => ?_)
              refine lv_aload_n hx hb dX3_lendQuota_75 rfl (lv_at hl 0 rfl) ?_
              refine gfX3_18 (v := .ref (a 2)) hx hb hta hown hK hP 0 rfl rfl dX3_lendQuota_76 ?_
              refine gfX3_87 (v := .ref (a 3)) hx hb hta hown hK hP 2 rfl rfl dX3_lendQuota_79 ?_
              refine lv_iload_n hx hb dX3_lendQuota_82 rfl (lv_at hl 2 rfl) ?_
              refine lv_dup2_11 hx hb dX3_lendQuota_83 rfl rfl ?_
              refine kiald (f := upd (M 1) k ((M 1 k) - t)) hx hb hK hP 3 rfl j rfl (by omega) (by omega) dX3_lendQuota_84 ?_
              refine lv_iload_n hx hb dX3_lendQuota_85 rfl (lv_at hl 3 rfl) ?_
              refine lv_iadd hx hb dX3_lendQuota_86 ?_
              refine kiast (f := upd (M 1) k ((M 1 k) - t)) hx hb hK hP hD hS 3 rfl j rfl (by omega) (by omega) dX3_lendQuota_87 (wM Y a (sM (sM M 1 k ((M 1 k) - t)) 1 j ((upd (M 1) k ((M 1 k) - t) j) + t))) rfl (fun H locs hP hD hS => ?_)
              refine lv_aload_n hx hb dX3_lendQuota_88 rfl (lv_at hl 0 rfl) ?_
              refine gfX3_18 (v := .ref (a 2)) hx hb hta hown hK hP 0 rfl rfl dX3_lendQuota_89 ?_
              refine gfX3_87 (v := .ref (a 3)) hx hb hta hown hK hP 2 rfl rfl dX3_lendQuota_92 ?_
              refine lv_iload_n hx hb dX3_lendQuota_95 rfl (lv_at hl 1 rfl) ?_
              refine kiald (f := upd (upd (M 1) k ((M 1 k) - t)) j ((upd (M 1) k ((M 1 k) - t) j) + t)) hx hb hK hP 3 rfl k rfl (by omega) (by omega) dX3_lendQuota_96 ?_
              exact kiret (sM (sM M 1 k ((M 1 k) - t)) 1 j ((upd (M 1) k ((M 1 k) - t) j) + t)) hQ hx hb hr hlocks hP hS dX3_lendQuota_97 (by unfold cLend; rw [nI_clamp (n := k) (by omega), nI_clamp (n := j) (by omega), if_pos c2, if_pos c4, if_neg c5, if_neg c6, if_neg c7, if_pos c8]; exact ⟨rfl, rfl⟩)
            · refine lv_bipush (v := (-5)) hx hb dX3_lendQuota_59 (by decide) ?_
              exact kiret (M) hQ hx hb hr hlocks hP hS dX3_lendQuota_61 (by unfold cLend; rw [nI_clamp (n := k) (by omega), nI_clamp (n := j) (by omega), if_pos c2, if_pos c4, if_neg c5, if_neg c6, if_neg c7, if_neg c8]; exact ⟨rfl, rfl⟩)
        · have c6n : k = j := (nI_eq (a := k) (b := j) (by omega) (by omega)).mp c6
          refine lv_bipush (v := (-2)) hx hb dX3_lendQuota_26 (by decide) ?_
          exact kiret (M) hQ hx hb hr hlocks hP hS dX3_lendQuota_28 (by unfold cLend; rw [nI_clamp (n := k) (by omega), nI_clamp (n := j) (by omega), if_pos c2, if_pos c4, if_neg c5, if_pos c6]; exact ⟨rfl, rfl⟩)
    · refine kTop (kb_f c4) ?_
      refine lv_if_ne (tgt := 16) hx hb dX3_lendQuota_11 (by decide) (fun h => False.elim (by revert h; decide)) (fun _ => ?_)
      refine lv_iconst (v := (-1)) hx hb dX3_lendQuota_14 (by decide) ?_
      exact kiret (M) hQ hx hb hr hlocks hP hS dX3_lendQuota_15 (by unfold cLend; rw [if_pos c2, if_neg c4]; exact ⟨rfl, rfl⟩)
  · refine kTop (kb_f c2) ?_
    refine lv_if_eq (tgt := 14) hx hb dX3_lendQuota_4 (by decide) (fun _ => ?_) (fun h => False.elim (by revert h; decide))
    refine lv_iconst (v := (-1)) hx hb dX3_lendQuota_14 (by decide) ?_
    exact kiret (M) hQ hx hb hr hlocks hP hS dX3_lendQuota_15 (by unfold cLend; rw [if_neg c2]; exact ⟨rfl, rfl⟩)
