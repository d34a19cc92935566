set_option maxHeartbeats 4000000 in
set_option maxRecDepth 100000 in
theorem c_X4_readOrder (l : Launch) (D : va_G) (Y : Nat → ClassId) (base : Nat) (ad av : Nat → Nat) (d : Nat → Nat) (P : Nat → Int32) (n a : Nat) (kd : Int32) (V : Nat → Int32) (vc : Nat) (h80 : n ≤ 80) (ha : a ≤ n) (hv : vc ≤ 4) (hC : ∀ k, k < 80 → kChr (P k)) (hB : ∀ i, base ≤ d i) : kM l yX4_readOrder wX4_readOrder rX4_readOrder D Y (wP Y d P n a kd V vc) [.ref (d 0)] (kX base ad av) (kQi D (fun r u => r = kb ((cOrd P n (a, kd, V, vc)).1 = true) ∧ u = (cOrd P n (a, kd, V, vc)).2) (fun u => wP Y d P n u.1 u.2.1 u.2.2.1 u.2.2.2)) := by
  refine kentryE (cc := cX4_readOrder) (maxL := 3) (ret := (some .boolean)) (by decide +kernel) rfl (Nat.le_of_ble_eq_true rfl) ?_
  intro p e s0 m args below meth c A Q ls hA2 hQ hx hb hr hlocks hml hown hin hta hA hX0 hK hNs hP hD hS hl
  have hown : s0.vm.findClass RX4 = some m.cls := hown
  have hl : lv_has ls 3 [(0, .ref (d 0))] := hl
  have hAb := kAb hA2 hX0.1 (kBP hB)
  have hE := hX0.2.narrow hAb
  refine lv_aload_n hx hb dX4_readOrder_0 rfl (lv_at hl 0 rfl) ?_
  refine gfX4_40 (v := .int (nI a)) hx hb hta hown hK hP 0 rfl rfl dX4_readOrder_1 ?_
  refine lv_aload_n hx hb dX4_readOrder_4 rfl (lv_at hl 0 rfl) ?_
  refine gfX4_23 (v := .int (nI n)) hx hb hta hown hK hP 0 rfl rfl dX4_readOrder_5 ?_
  refine lv_icmp_lt (tgt := 13) hx hb dX4_readOrder_8 (by decide) (fun c1 => ?_) (fun c1 => ?_)
  · have c1n : a < n := (nI_ltI (a := a) (b := n) (by omega) (by omega)).mp c1
    have haN : a < n := by omega
    refine lv_aload_n hx hb dX4_readOrder_13 rfl (lv_at hl 0 rfl) ?_
    refine lv_aload_n hx hb dX4_readOrder_14 rfl (lv_at hl 0 rfl) ?_
    refine gfX4_9 (v := .ref (d 1)) hx hb hta hown hK hP 0 rfl rfl dX4_readOrder_15 ?_
    refine lv_aload_n hx hb dX4_readOrder_18 rfl (lv_at hl 0 rfl) ?_
    refine gfX4_40 (v := .int (nI a)) hx hb hta hown hK hP 0 rfl rfl dX4_readOrder_19 ?_
    refine kcald (f := P) hx hb hK hP 1 rfl a rfl (by omega) (by omega) dX4_readOrder_22 ?_
    refine pfX4_47 (ws1 := wP Y d P n a (P a) V vc) hx hb hta hown hK hP hD hS (hC a (by omega)) 0 rfl (Nat.le_of_ble_eq_true rfl) rfl dX4_readOrder_23 (fun H locs hP hD hS => ?_)
    refine lv_aload_n hx hb dX4_readOrder_26 rfl (lv_at hl 0 rfl) ?_
    refine lv_iconst (v := 0) hx hb dX4_readOrder_27 (by decide) ?_
    refine pfX4_51 (ws1 := wP Y d P n a (P a) V 0) hx hb hta hown hK hP hD hS 0 rfl (Nat.le_of_ble_eq_true rfl) rfl dX4_readOrder_28 (fun H locs hP hD hS => ?_)
    refine lv_aload_n hx hb dX4_readOrder_31 rfl (lv_at hl 0 rfl) ?_
    refine gfX4_47 (v := .int (P a)) hx hb hta hown hK hP 0 rfl rfl dX4_readOrder_32 ?_
    refine kc_r (krS (As := [.int (P a)]) (rest := []) (c_X4_formOf l D Y base ad av (P a)) ⟨hx, hb, hml, hown, hta⟩ (cwX4_54 hta ⟨Nat.le_of_ble_eq_true rfl, Nat.le_of_ble_eq_true rfl⟩) kXb_E (kX_go hX0 hS hAb) hK hNs hP hD (kJ_nil) rfl hl.1 rfl (Nat.le_of_ble_eq_true rfl) dX4_readOrder_35 ⟨Nat.le_of_ble_eq_true rfl, Nat.le_of_ble_eq_true rfl⟩) hP hD hS hA (kJ_nil) (fun _ => rfl) (fun u H locs hw hP hD hS => ?_)
    subst hw
    have hP : va_P D vwCl (wP Y d P n a (P a) V 0) H := hP
    have hD : va_D A (wP Y d P n a (P a) V 0) := hD
    refine lv_astore_n (lv' := [(1, .ref (ad (cFx (P a)))), (0, .ref (d 0))]) hx hb dX4_readOrder_38 rfl hl (by decide) rfl (fun ls hl => ?_)
    refine lv_aload_n hx hb dX4_readOrder_39 rfl (lv_at hl 0 rfl) ?_
    refine kc_i (krVE (As := []) (rest := []) (c_J0_isEmpty_aae02 l D Y base ad av (cFx (P a)) (cFx_lt _)) ⟨hx, hb, hml, hown, hta⟩ (cwX4_58 hta ⟨Nat.le_of_ble_eq_true rfl, Nat.le_of_ble_eq_true rfl⟩) kXb_E (kX_go hX0 hS hAb) hK hNs hP hD (kJ_nil) (vk_recv hE.1 (cFx_lt _) hS) rfl hl.1 rfl (Nat.le_of_ble_eq_true rfl) dX4_readOrder_40 ⟨Nat.le_of_ble_eq_true rfl, Nat.le_of_ble_eq_true rfl⟩) hP hD hS hA (kJ_nil) (fun _ => rfl) (fun r3 u H locs hw hP hD hS => ?_)
    subst hw
    have hP : va_P D vwCl (wP Y d P n a (P a) V 0) H := hP
    have hD : va_D A (wP Y d P n a (P a) V 0) := hD
    by_cases c4 : kLen.getD (cFx (P a)) 0 = 0
    · refine kTop (kb_t c4) ?_
      refine lv_if_eq (tgt := 48) hx hb dX4_readOrder_43 (by decide) (fun h => False.elim (by revert h; decide)) (fun _ => ?_)
      refine lv_iconst (v := 0) hx hb dX4_readOrder_46 (by decide) ?_
      exact kzret (((a), (P a), (V), (0))) hQ hx hb hr hlocks hP hS dX4_readOrder_47 (by first | exact Or.inl rfl | exact Or.inr rfl | exact kb_01 _) (by unfold cOrd; rw [if_neg (by dsimp only; omega)]; dsimp only; rw [if_pos c4]; exact ⟨(kb_f (fun h => Bool.noConfusion h)).symm, rfl⟩)
    · refine kTop (kb_f c4) ?_
      refine lv_if_eq (tgt := 48) hx hb dX4_readOrder_43 (by decide) (fun _ => ?_) (fun h => False.elim (by revert h; decide))
      refine lv_iconst (v := 0) hx hb dX4_readOrder_48 (by decide) ?_
      refine lv_istore_n (lv' := [(2, .int 0), (1, .ref (ad (cFx (P a)))), (0, .ref (d 0))]) hx hb dX4_readOrder_49 rfl hl (by decide) rfl (fun ls hl => ?_)
      have h99 := kLen99 (cFx (P a))
      have loop50 : ∀ (zf : Nat) (k : Nat) (a2 : Nat) (V2 : Nat → Int32) (vc2 : Nat), kLen.getD (cFx (P a)) 0 - k < zf → cParts P n (cFx (P a)) a V k = (true, a2, V2, vc2) → k ≤ kLen.getD (cFx (P a)) 0 → a2 ≤ n → vc2 ≤ 4 → ∀ (H : Heap) (locs : List Loc), va_P D vwCl (wP Y d P n a2 (P a) V2 vc2) H → va_D A (wP Y d P n a2 (P a) V2 vc2) → va_S A s0.heap H locs → ∀ (ls : Array Slot), lv_has ls 3 [(2, .int (nI k)), (1, .ref (ad (cFx (P a)))), (0, .ref (d 0))] → W p l e rX4_readOrder s0 m args below meth c H locs 0 0 Q (F0 m 50 ls []) := by
        intro zf
        induction zf with
        | zero => intro k a2 V2 vc2 hmu; exact absurd hmu (Nat.not_lt_zero _)
        | succ zf ih =>
          intro k a2 V2 vc2 hmu hx0 hk ha2 hv2 H locs hP hD hS ls hl
          refine lv_iload_n hx hb dX4_readOrder_50 rfl (lv_at hl 0 rfl) ?_
          refine lv_aload_n hx hb dX4_readOrder_51 rfl (lv_at hl 1 rfl) ?_
          refine kc_i (krVE (As := []) (rest := [.int (nI k)]) (c_J0_length_8abf5 l D Y base ad av (cFx (P a)) (cFx_lt _)) ⟨hx, hb, hml, hown, hta⟩ (cwX4_63 hta ⟨Nat.le_of_ble_eq_true rfl, Nat.le_of_ble_eq_true rfl⟩) kXb_E (kX_go hX0 hS hAb) hK hNs hP hD (kJ_nil) (vk_recv hE.1 (cFx_lt _) hS) rfl hl.1 rfl (Nat.le_of_ble_eq_true rfl) dX4_readOrder_52 ⟨Nat.le_of_ble_eq_true rfl, Nat.le_of_ble_eq_true rfl⟩) hP hD hS hA (kJ_nil) (fun _ => rfl) (fun r5 u H locs hw hP hD hS => ?_)
          subst hw
          have hP : va_P D vwCl (wP Y d P n a2 (P a) V2 vc2) H := hP
          have hD : va_D A (wP Y d P n a2 (P a) V2 vc2) := hD
          refine lv_icmp_ge (tgt := 78) hx hb dX4_readOrder_55 (by decide) (fun c6 => ?_) (fun c6 => ?_)
          · have c6n : (kLen.getD (cFx (P a)) 0) ≤ k := (nI_leI (a := kLen.getD (cFx (P a)) 0) (b := k) (by omega) (by omega)).mp c6
            refine lv_iconst (v := 1) hx hb dX4_readOrder_78 (by decide) ?_
            exact kzret (((a2), (P a), (V2), (vc2))) hQ hx hb hr hlocks hP hS dX4_readOrder_79 (by first | exact Or.inl rfl | exact Or.inr rfl | exact kb_01 _) (by unfold cOrd; rw [if_neg (by dsimp only; omega)]; dsimp only; rw [if_neg c4]; have hk2 : kLen.getD (cFx (P a)) 0 = k := (by omega); rw [hk2, hx0]; exact ⟨(kb_t rfl).symm, rfl⟩)
          · have c6n : ¬ (kLen.getD (cFx (P a)) 0) ≤ k := fun h => c6 ((nI_leI (a := kLen.getD (cFx (P a)) 0) (b := k) (by omega) (by omega)).mpr h)
            refine lv_aload_n hx hb dX4_readOrder_58 rfl (lv_at hl 2 rfl) ?_
            refine lv_aload_n hx hb dX4_readOrder_59 rfl (lv_at hl 1 rfl) ?_
            refine lv_iload_n hx hb dX4_readOrder_60 rfl (lv_at hl 0 rfl) ?_
            refine kc_i (krVE (As := [.int (nI k)]) (rest := [.ref (d 0)]) (c_J0_charAt_5068e l D Y base ad av (cFx (P a)) (cFx_lt _) k (by omega)) ⟨hx, hb, hml, hown, hta⟩ (cwX4_66 hta ⟨Nat.le_of_ble_eq_true rfl, Nat.le_of_ble_eq_true rfl⟩) kXb_E (kX_go hX0 hS hAb) hK hNs hP hD (kJ_nil) (vk_recv hE.1 (cFx_lt _) hS) rfl hl.1 rfl (Nat.le_of_ble_eq_true rfl) dX4_readOrder_61 ⟨Nat.le_of_ble_eq_true rfl, Nat.le_of_ble_eq_true rfl⟩) hP hD hS hA (kJ_nil) (fun _ => rfl) (fun r7 u H locs hw hP hD hS => ?_)
            subst hw
            have hP : va_P D vwCl (wP Y d P n a2 (P a) V2 vc2) H := hP
            have hD : va_D A (wP Y d P n a2 (P a) V2 vc2) := hD
            refine kc_i (krV (As := [.int ((kByt.getD (cFx (P a)) []).getD k 0)]) (rest := []) (c_X4_readPart l D Y d P n a2 (P a) V2 vc2 ((kByt.getD (cFx (P a)) []).getD k 0) h80 ha2 hv2) ⟨hx, hb, hml, hown, hta⟩ (cwX4_70 hta ⟨Nat.le_of_ble_eq_true rfl, Nat.le_of_ble_eq_true rfl⟩) kX0b (fun _ _ _ => trivial) hK hNs hP hD (kJ_all) (q0 := 0) rfl rfl rfl rfl hl.1 rfl (Nat.le_of_ble_eq_true rfl) dX4_readOrder_64 ⟨Nat.le_of_ble_eq_true rfl, Nat.le_of_ble_eq_true rfl⟩) hP hD hS hA (kJ_all) (fun _ => rfl) (fun r8 u H locs hw hP hD hS => ?_)
            obtain ⟨rfl, rfl⟩ := hw
            have hP : va_P D vwCl (wP Y d P n ((cPart P n ((kByt.getD (cFx (P a)) []).getD k 0) a2 V2 vc2).2.1) (P a) ((cPart P n ((kByt.getD (cFx (P a)) []).getD k 0) a2 V2 vc2).2.2.1) ((cPart P n ((kByt.getD (cFx (P a)) []).getD k 0) a2 V2 vc2).2.2.2)) H := hP
            have hD : va_D A (wP Y d P n ((cPart P n ((kByt.getD (cFx (P a)) []).getD k 0) a2 V2 vc2).2.1) (P a) ((cPart P n ((kByt.getD (cFx (P a)) []).getD k 0) a2 V2 vc2).2.2.1) ((cPart P n ((kByt.getD (cFx (P a)) []).getD k 0) a2 V2 vc2).2.2.2)) := hD
            by_cases c9 : (cPart P n ((kByt.getD (cFx (P a)) []).getD k 0) a2 V2 vc2).1 = true
            · refine kTop (kb_t c9) ?_
              refine lv_if_ne (tgt := 72) hx hb dX4_readOrder_67 (by decide) (fun _ => ?_) (fun h => False.elim (by revert h; decide))
              refine lv_iinc (v := nI (k + 1)) (lv' := [(2, .int (nI (k + 1))), (1, .ref (ad (cFx (P a)))), (0, .ref (d 0))]) hx hb dX4_readOrder_72 hl (k := 0) rfl (nI_add k 1) (by decide) rfl (fun ls hl => ?_)
              refine lv_goto (tgt := 50) hx hb dX4_readOrder_75 (by decide) ?_
              have h99 := kLen99 (cFx (P a))
              exact ih (k + 1) ((cPart P n ((kByt.getD (cFx (P a)) []).getD k 0) a2 V2 vc2).2.1) ((cPart P n ((kByt.getD (cFx (P a)) []).getD k 0) a2 V2 vc2).2.2.1) ((cPart P n ((kByt.getD (cFx (P a)) []).getD k 0) a2 V2 vc2).2.2.2) (by omega) (by show (if (cParts P n (cFx (P a)) a V k).1 = true then cPart P n ((kByt.getD (cFx (P a)) []).getD k 0) (cParts P n (cFx (P a)) a V k).2.1 (cParts P n (cFx (P a)) a V k).2.2.1 (cParts P n (cFx (P a)) a V k).2.2.2 else cParts P n (cFx (P a)) a V k) = _; rw [hx0]; exact (if_pos rfl).trans (Prod.ext c9 rfl)) (by omega) ((cPart_le ha2 hv2).1) ((cPart_le ha2 hv2).2) _ _ hP hD hS ls (lv_sub hl [0, 1, 2] rfl)
            · refine kTop (kb_f c9) ?_
              refine lv_if_ne (tgt := 72) hx hb dX4_readOrder_67 (by decide) (fun h => False.elim (by revert h; decide)) (fun _ => ?_)
              refine lv_iconst (v := 0) hx hb dX4_readOrder_70 (by decide) ?_
              exact kzret ((((cPart P n ((kByt.getD (cFx (P a)) []).getD k 0) a2 V2 vc2).2.1), (P a), ((cPart P n ((kByt.getD (cFx (P a)) []).getD k 0) a2 V2 vc2).2.2.1), ((cPart P n ((kByt.getD (cFx (P a)) []).getD k 0) a2 V2 vc2).2.2.2))) hQ hx hb hr hlocks hP hS dX4_readOrder_71 (by first | exact Or.inl rfl | exact Or.inr rfl | exact kb_01 _) (by unfold cOrd; rw [if_neg (by dsimp only; omega)]; dsimp only; rw [if_neg c4]; have hs : cParts P n (cFx (P a)) a V (k + 1) = cPart P n ((kByt.getD (cFx (P a)) []).getD k 0) a2 V2 vc2 := (by show (if (cParts P n (cFx (P a)) a V k).1 = true then cPart P n ((kByt.getD (cFx (P a)) []).getD k 0) (cParts P n (cFx (P a)) a V k).2.1 (cParts P n (cFx (P a)) a V k).2.2.1 (cParts P n (cFx (P a)) a V k).2.2.2 else cParts P n (cFx (P a)) a V k) = _; rw [hx0]; exact if_pos rfl); have he := cParts_no (P := P) (n := n) (i := cFx (P a)) (a := a) (V := V) (k := k + 1) (by rw [hs]; exact c9) (kLen.getD (cFx (P a)) 0 - (k + 1)); rw [show k + 1 + (kLen.getD (cFx (P a)) 0 - (k + 1)) = kLen.getD (cFx (P a)) 0 by omega, hs] at he; rw [he]; exact ⟨(kb_f c9).symm, rfl⟩)
      exact loop50 ((kLen.getD (cFx (P a)) 0 - 0) + 1) 0 a V 0 (Nat.lt_succ_self _) rfl (by omega) ha (by omega) _ _ hP hD hS ls (lv_sub hl [0, 1, 2] rfl)
  · have c1n : ¬ a < n := fun h => c1 ((nI_ltI (a := a) (b := n) (by omega) (by omega)).mpr h)
    refine lv_iconst (v := 0) hx hb dX4_readOrder_11 (by decide) ?_
    exact kzret (((a), (kd), (V), (vc))) hQ hx hb hr hlocks hP hS dX4_readOrder_12 (by first | exact Or.inl rfl | exact Or.inr rfl | exact kb_01 _) (by unfold cOrd; rw [if_pos (by dsimp only; omega)]; exact ⟨(kb_f (fun h => Bool.noConfusion h)).symm, rfl⟩)
