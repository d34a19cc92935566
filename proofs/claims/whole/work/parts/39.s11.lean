set_option maxHeartbeats 4000000 in
set_option maxRecDepth 100000 in
theorem c_X4_findFault (l : Launch) (D : va_G) (Y : Nat → ClassId) (base : Nat) (ad av : Nat → Nat) (d : Nat → Nat) (P : Nat → Int32) (n a : Nat) (kd : Int32) (V : Nat → Int32) (vc : Nat) (h80 : n ≤ 80) (hv : vc ≤ 4) (hC : ∀ k, k < 80 → kChr (P k)) (hB : ∀ i, base ≤ d i) : kM l yX4_findFault wX4_findFault rX4_findFault D Y (wP Y d P n a kd V vc) [.ref (d 0)] (kX base ad av) (kQi D (fun r u => r = (cFa P n 80 (0, kd, V, vc)).1 ∧ u = (cFa P n 80 (0, kd, V, vc)).2) (fun u => wP Y d P n u.1 u.2.1 u.2.2.1 u.2.2.2)) := by
  refine kentryE (cc := cX4_findFault) (maxL := 2) (ret := (some .int)) (by decide +kernel) rfl (Nat.le_of_ble_eq_true rfl) ?_
  intro p e s0 m args below meth c A Q ls hA2 hQ hx hb hr hlocks hml hown hin hta hA hX0 hK hNs hP hD hS hl
  have hown : s0.vm.findClass RX4 = some m.cls := hown
  have hl : lv_has ls 2 [(0, .ref (d 0))] := hl
  have hAb := kAb hA2 hX0.1 (kBP hB)
  have hE := hX0.2.narrow hAb
  refine lv_aload_n hx hb dX4_findFault_0 rfl (lv_at hl 0 rfl) ?_
  refine kc_v (krV (As := []) (rest := []) (c_X4_startReading l D Y d P n a kd V vc ) ⟨hx, hb, hml, hown, hta⟩ (cwX4_33 hta ⟨Nat.le_of_ble_eq_true rfl, Nat.le_of_ble_eq_true rfl⟩) kX0b (fun _ _ _ => trivial) hK hNs hP hD (kJ_all) (q0 := 0) rfl rfl rfl rfl hl.1 rfl (Nat.le_of_ble_eq_true rfl) dX4_findFault_1 ⟨Nat.le_of_ble_eq_true rfl, Nat.le_of_ble_eq_true rfl⟩) hP hD hS hA (kJ_all) (fun _ => rfl) (fun u H locs hw hP hD hS => ?_)
  have hP : va_P D vwCl (wP Y d P n 0 kd V vc) H := hP
  have hD : va_D A (wP Y d P n 0 kd V vc) := hD
  refine lv_iconst (v := 0) hx hb dX4_findFault_4 (by decide) ?_
  refine lv_istore_n (lv' := [(1, .int 0), (0, .ref (d 0))]) hx hb dX4_findFault_5 rfl hl (by decide) rfl (fun ls hl => ?_)
  have loop6 : ∀ (zf : Nat) (i : Nat) (a2 : Nat) (kd2 : Int32) (V2 : Nat → Int32) (vc2 : Nat), 80 - i < zf → cFa P n (80 - i) (a2, kd2, V2, vc2) = cFa P n 80 (0, kd, V, vc) → i ≤ 80 → a2 ≤ n → vc2 ≤ 4 → ∀ (H : Heap) (locs : List Loc), va_P D vwCl (wP Y d P n a2 kd2 V2 vc2) H → va_D A (wP Y d P n a2 kd2 V2 vc2) → va_S A s0.heap H locs → ∀ (ls : Array Slot), lv_has ls 2 [(1, .int (nI i)), (0, .ref (d 0))] → W p l e rX4_findFault s0 m args below meth c H locs 0 0 Q (F0 m 6 ls []) := by
    intro zf
    induction zf with
    | zero => intro i a2 kd2 V2 vc2 hmu; exact absurd hmu (Nat.not_lt_zero _)
    | succ zf ih =>
      intro i a2 kd2 V2 vc2 hmu hf0 hi ha2 hv2 H locs hP hD hS ls hl
      refine lv_iload_n hx hb dX4_findFault_6 rfl (lv_at hl 0 rfl) ?_
      refine lv_bipush (v := 80) hx hb dX4_findFault_7 (by decide) ?_
      refine lv_icmp_ge (tgt := 58) hx hb dX4_findFault_9 (by decide) (fun c2 => ?_) (fun c2 => ?_)
      · have c2n : 80 ≤ i := (nI_leI (a := 80) (b := i) (by omega) (by omega)).mp c2
        refine lv_aload_n hx hb dX4_findFault_58 rfl (lv_at hl 1 rfl) ?_
        refine gfX4_40 (v := .int (nI a2)) hx hb hta hown hK hP 0 rfl rfl dX4_findFault_59 ?_
        exact kiret (((a2), (kd2), (V2), (vc2))) hQ hx hb hr hlocks hP hS dX4_findFault_62 (by rw [← hf0, show 80 - i = 0 by omega]; exact ⟨rfl, rfl⟩)
      · have c2n : ¬ 80 ≤ i := fun h => c2 ((nI_leI (a := 80) (b := i) (by omega) (by omega)).mpr h)
        refine lv_aload_n hx hb dX4_findFault_12 rfl (lv_at hl 1 rfl) ?_
        refine kc_i (krV (As := []) (rest := []) (c_X4_readOrder l D Y base ad av d P n a2 kd2 V2 vc2 h80 ha2 hv2 hC hB) ⟨hx, hb, hml, hown, hta⟩ (cwX4_36 hta ⟨Nat.le_of_ble_eq_true rfl, Nat.le_of_ble_eq_true rfl⟩) kXb_E (kX_go hX0 hS hAb) hK hNs hP hD (kJ_all) (q0 := 0) rfl rfl rfl rfl hl.1 rfl (Nat.le_of_ble_eq_true rfl) dX4_findFault_13 ⟨Nat.le_of_ble_eq_true rfl, Nat.le_of_ble_eq_true rfl⟩) hP hD hS hA (kJ_all) (fun _ => rfl) (fun r3 u H locs hw hP hD hS => ?_)
        obtain ⟨rfl, rfl⟩ := hw
        have hP : va_P D vwCl (wP Y d P n ((cOrd P n (a2, kd2, V2, vc2)).2.1) ((cOrd P n (a2, kd2, V2, vc2)).2.2.1) ((cOrd P n (a2, kd2, V2, vc2)).2.2.2.1) ((cOrd P n (a2, kd2, V2, vc2)).2.2.2.2)) H := hP
        have hD : va_D A (wP Y d P n ((cOrd P n (a2, kd2, V2, vc2)).2.1) ((cOrd P n (a2, kd2, V2, vc2)).2.2.1) ((cOrd P n (a2, kd2, V2, vc2)).2.2.2.1) ((cOrd P n (a2, kd2, V2, vc2)).2.2.2.2)) := hD
        obtain ⟨hA3, hV3⟩ := cOrd_le (P := P) (n := n) (q := (a2, kd2, V2, vc2)) ha2 hv2
        by_cases c4 : (cOrd P n (a2, kd2, V2, vc2)).1 = true
        · refine kTop (kb_t c4) ?_
          refine lv_if_ne (tgt := 24) hx hb dX4_findFault_16 (by decide) (fun _ => ?_) (fun h => False.elim (by revert h; decide))
          refine lv_aload_n hx hb dX4_findFault_24 rfl (lv_at hl 1 rfl) ?_
          refine gfX4_40 (v := .int (nI ((cOrd P n (a2, kd2, V2, vc2)).2.1))) hx hb hta hown hK hP 0 rfl rfl dX4_findFault_25 ?_
          refine lv_aload_n hx hb dX4_findFault_28 rfl (lv_at hl 1 rfl) ?_
          refine gfX4_23 (v := .int (nI n)) hx hb hta hown hK hP 0 rfl rfl dX4_findFault_29 ?_
          refine lv_icmp_ne (tgt := 38) hx hb dX4_findFault_32 (by decide) (fun c5 => ?_) (fun c5 => ?_)
          · have c5n : ¬ ((cOrd P n (a2, kd2, V2, vc2)).2.1) = n := fun h => c5 ((nI_eq (a := (cOrd P n (a2, kd2, V2, vc2)).2.1) (b := n) (by omega) (by omega)).mpr h)
            refine lv_aload_n hx hb dX4_findFault_38 rfl (lv_at hl 1 rfl) ?_
            refine lv_bipush (v := 59) hx hb dX4_findFault_39 (by decide) ?_
            refine kc_i (krV (As := [.int 59]) (rest := []) (c_X4_readSign l D Y d P n ((cOrd P n (a2, kd2, V2, vc2)).2.1) ((cOrd P n (a2, kd2, V2, vc2)).2.2.1) ((cOrd P n (a2, kd2, V2, vc2)).2.2.2.1) ((cOrd P n (a2, kd2, V2, vc2)).2.2.2.2) 59 h80 hA3 hV3) ⟨hx, hb, hml, hown, hta⟩ (cwX4_43 hta ⟨Nat.le_of_ble_eq_true rfl, Nat.le_of_ble_eq_true rfl⟩) kX0b (fun _ _ _ => trivial) hK hNs hP hD (kJ_all) (q0 := 0) rfl rfl rfl rfl hl.1 rfl (Nat.le_of_ble_eq_true rfl) dX4_findFault_41 ⟨Nat.le_of_ble_eq_true rfl, Nat.le_of_ble_eq_true rfl⟩) hP hD hS hA (kJ_all) (fun _ => rfl) (fun r6 u H locs hw hP hD hS => ?_)
            obtain ⟨rfl, rfl⟩ := hw
            have hP : va_P D vwCl (wP Y d P n (pSg P n ((cOrd P n (a2, kd2, V2, vc2)).2.1) 59 59) ((cOrd P n (a2, kd2, V2, vc2)).2.2.1) ((cOrd P n (a2, kd2, V2, vc2)).2.2.2.1) ((cOrd P n (a2, kd2, V2, vc2)).2.2.2.2)) H := hP
            have hD : va_D A (wP Y d P n (pSg P n ((cOrd P n (a2, kd2, V2, vc2)).2.1) 59 59) ((cOrd P n (a2, kd2, V2, vc2)).2.2.1) ((cOrd P n (a2, kd2, V2, vc2)).2.2.2.1) ((cOrd P n (a2, kd2, V2, vc2)).2.2.2.2)) := hD
            by_cases c7 : pAt P n ((cOrd P n (a2, kd2, V2, vc2)).2.1) 59 59
            · refine kTop (kb_t c7) ?_
              refine lv_if_ne (tgt := 52) hx hb dX4_findFault_44 (by decide) (fun _ => ?_) (fun h => False.elim (by revert h; decide))
              refine lv_iinc (v := nI (i + 1)) (lv' := [(1, .int (nI (i + 1))), (0, .ref (d 0))]) hx hb dX4_findFault_52 hl (k := 0) rfl (nI_add i 1) (by decide) rfl (fun ls hl => ?_)
              refine lv_goto (tgt := 6) hx hb dX4_findFault_55 (by decide) ?_
              have hlt3 := c7.1
              rw [show pSg P n ((cOrd P n (a2, kd2, V2, vc2)).2.1) 59 59 = (cOrd P n (a2, kd2, V2, vc2)).2.1 + 1 from if_pos c7] at hP hD
              exact ih (i + 1) ((cOrd P n (a2, kd2, V2, vc2)).2.1 + 1) ((cOrd P n (a2, kd2, V2, vc2)).2.2.1) ((cOrd P n (a2, kd2, V2, vc2)).2.2.2.1) ((cOrd P n (a2, kd2, V2, vc2)).2.2.2.2) (by omega) (by rw [← hf0]; rw [show 80 - i = (80 - (i + 1)) + 1 by omega]; exact (cFa_go c4 c5n c7).symm) (by omega) (by omega) hV3 _ _ hP hD hS ls (lv_sub hl [0, 1] rfl)
            · refine kTop (kb_f c7) ?_
              refine lv_if_ne (tgt := 52) hx hb dX4_findFault_44 (by decide) (fun h => False.elim (by revert h; decide)) (fun _ => ?_)
              refine lv_aload_n hx hb dX4_findFault_47 rfl (lv_at hl 1 rfl) ?_
              refine gfX4_40 (v := .int (nI (pSg P n ((cOrd P n (a2, kd2, V2, vc2)).2.1) 59 59))) hx hb hta hown hK hP 0 rfl rfl dX4_findFault_48 ?_
              exact kiret (((pSg P n ((cOrd P n (a2, kd2, V2, vc2)).2.1) 59 59), ((cOrd P n (a2, kd2, V2, vc2)).2.2.1), ((cOrd P n (a2, kd2, V2, vc2)).2.2.2.1), ((cOrd P n (a2, kd2, V2, vc2)).2.2.2.2))) hQ hx hb hr hlocks hP hS dX4_findFault_51 (by rw [← hf0, show 80 - i = (80 - (i + 1)) + 1 by omega, cFa_st c4 c5n c7]; rw [show pSg P n ((cOrd P n (a2, kd2, V2, vc2)).2.1) 59 59 = (cOrd P n (a2, kd2, V2, vc2)).2.1 from if_neg c7]; exact ⟨rfl, rfl⟩)
          · have c5n : ((cOrd P n (a2, kd2, V2, vc2)).2.1) = n := (nI_eq (a := (cOrd P n (a2, kd2, V2, vc2)).2.1) (b := n) (by omega) (by omega)).mp c5
            refine lv_bipush (v := (-6)) hx hb dX4_findFault_35 (by decide) ?_
            exact kiret ((((cOrd P n (a2, kd2, V2, vc2)).2.1), ((cOrd P n (a2, kd2, V2, vc2)).2.2.1), ((cOrd P n (a2, kd2, V2, vc2)).2.2.2.1), ((cOrd P n (a2, kd2, V2, vc2)).2.2.2.2))) hQ hx hb hr hlocks hP hS dX4_findFault_37 (by rw [← hf0, show 80 - i = (80 - (i + 1)) + 1 by omega, cFa_ok c4 c5n]; exact ⟨rfl, rfl⟩)
        · refine kTop (kb_f c4) ?_
          refine lv_if_ne (tgt := 24) hx hb dX4_findFault_16 (by decide) (fun h => False.elim (by revert h; decide)) (fun _ => ?_)
          refine lv_aload_n hx hb dX4_findFault_19 rfl (lv_at hl 1 rfl) ?_
          refine gfX4_40 (v := .int (nI ((cOrd P n (a2, kd2, V2, vc2)).2.1))) hx hb hta hown hK hP 0 rfl rfl dX4_findFault_20 ?_
          exact kiret ((((cOrd P n (a2, kd2, V2, vc2)).2.1), ((cOrd P n (a2, kd2, V2, vc2)).2.2.1), ((cOrd P n (a2, kd2, V2, vc2)).2.2.2.1), ((cOrd P n (a2, kd2, V2, vc2)).2.2.2.2))) hQ hx hb hr hlocks hP hS dX4_findFault_23 (by rw [← hf0, show 80 - i = (80 - (i + 1)) + 1 by omega, cFa_no c4]; exact ⟨rfl, rfl⟩)
  exact loop6 ((80 - 0) + 1) 0 0 kd V vc (Nat.lt_succ_self _) rfl (by omega) (by omega) hv _ _ hP hD hS ls (lv_sub hl [0, 1] rfl)
