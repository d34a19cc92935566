set_option maxHeartbeats 4000000 in
set_option maxRecDepth 100000 in
theorem c_X4_countSigns (l : Launch) (D : va_G) (Y : Nat → ClassId) (w : Int64) : kM l yX4_countSigns wX4_countSigns rX4_countSigns D Y ([]) [.long w] kX0 (kQi D (fun r (_ : Unit) => r = cCount w) (fun _ => [])) := by
  refine kentry (cc := cX4_countSigns) (maxL := 5) (ret := (some .int)) (by decide +kernel) rfl (Nat.le_of_ble_eq_true rfl) ?_
  intro p e s0 m args below meth c A Q ls hQ hx hb hr hlocks hml hown hin hta hA hX0 hK hNs hP hD hS hl
  have hown : s0.vm.findClass RX4 = some m.cls := hown
  have hl : lv_has ls 5 [(0, .long w)] := hl
  refine lv_lload_n hx hb dX4_countSigns_0 rfl (lv_at hl 0 rfl) ?_
  refine lv_lstore_n (lv' := [(2, .long w), (0, .long w)]) hx hb dX4_countSigns_1 rfl hl (by decide) rfl (fun ls hl => ?_)
  refine lv_iconst (v := 0) hx hb dX4_countSigns_2 (by decide) ?_
  refine lv_istore (lv' := [(4, .int 0), (2, .long w), (0, .long w)]) hx hb dX4_countSigns_3 hl (by decide) rfl (fun ls hl => ?_)
  have loop5 : ∀ (zf : Nat) (i : Nat), 8 - i < zf → cCn w (8 - i) i = cCount w → i ≤ 8 → ∀ (H : Heap) (locs : List Loc), va_P D vwCl ([]) H → va_D A ([]) → va_S A s0.heap H locs → ∀ (ls : Array Slot), lv_has ls 5 [(4, .int (nI i)), (2, .long (cShT w i)), (0, .long w)] → W p l e rX4_countSigns s0 m args below meth c H locs 0 0 Q (F0 m 5 ls []) := by
    intro zf
    induction zf with
    | zero => intro i hmu; exact absurd hmu (Nat.not_lt_zero _)
    | succ zf ih =>
      intro i hmu hr0 hi H locs hP hD hS ls hl
      refine lv_iload hx hb dX4_countSigns_5 (lv_at hl 0 rfl) ?_
      refine lv_bipush (v := 8) hx hb dX4_countSigns_7 (by decide) ?_
      refine lv_icmp_ge (tgt := 51) hx hb dX4_countSigns_9 (by decide) (fun c1 => ?_) (fun c1 => ?_)
      · have c1n : 8 ≤ i := (nI_leI (a := 8) (b := i) (by omega) (by omega)).mp c1
        have hend : cCount w = (if cShT w i = 0 then nI i else 0) := by rw [← hr0]; rw [show 8 - i = 0 by omega]; rfl
        refine lv_lload_n hx hb dX4_countSigns_51 rfl (lv_at hl 1 rfl) ?_
        refine lv_lconst (v := 0) hx hb dX4_countSigns_52 (by decide) ?_
        refine W.lcmp hx hb dX4_countSigns_53 ?_
        refine lv_if_ne (tgt := 62) hx hb dX4_countSigns_54 (by decide) (fun c2 => ?_) (fun c2 => ?_)
        · refine lv_iconst (v := 0) hx hb dX4_countSigns_62 (by decide) ?_
          exact kiret (()) hQ hx hb hr hlocks hP hS dX4_countSigns_63 (by rw [hend, if_neg (fun h => c2 (kcmp0.mpr h))])
        · refine lv_iload hx hb dX4_countSigns_57 (lv_at hl 0 rfl) ?_
          refine lv_goto (tgt := 63) hx hb dX4_countSigns_59 (by decide) ?_
          exact kiret (()) hQ hx hb hr hlocks hP hS dX4_countSigns_63 (by rw [hend, if_pos (kcmp0.mp c2)])
      · have c1n : ¬ 8 ≤ i := fun h => c1 ((nI_leI (a := 8) (b := i) (by omega) (by omega)).mpr h)
        refine lv_lload_n hx hb dX4_countSigns_12 rfl (lv_at hl 1 rfl) ?_
        refine lv_ldc2 hx hb hown (hta _ al_597) dX4_countSigns_13 ?_
        refine lv_land hx hb dX4_countSigns_16 ?_
        refine lv_lconst (v := 0) hx hb dX4_countSigns_17 (by decide) ?_
        refine W.lcmp hx hb dX4_countSigns_18 ?_
        refine lv_if_eq (tgt := 51) hx hb dX4_countSigns_19 (by decide) (fun c3 => ?_) (fun c3 => ?_)
        · have hend : cCount w = (if cShT w i = 0 then nI i else 0) := by rw [← hr0]; rw [show 8 - i = (8 - (i + 1)) + 1 by omega]; exact if_pos (kcmp0.mp c3)
          refine lv_lload_n hx hb dX4_countSigns_51 rfl (lv_at hl 1 rfl) ?_
          refine lv_lconst (v := 0) hx hb dX4_countSigns_52 (by decide) ?_
          refine W.lcmp hx hb dX4_countSigns_53 ?_
          refine lv_if_ne (tgt := 62) hx hb dX4_countSigns_54 (by decide) (fun c4 => ?_) (fun c4 => ?_)
          · refine lv_iconst (v := 0) hx hb dX4_countSigns_62 (by decide) ?_
            exact kiret (()) hQ hx hb hr hlocks hP hS dX4_countSigns_63 (by rw [hend, if_neg (fun h => c4 (kcmp0.mpr h))])
          · refine lv_iload hx hb dX4_countSigns_57 (lv_at hl 0 rfl) ?_
            refine lv_goto (tgt := 63) hx hb dX4_countSigns_59 (by decide) ?_
            exact kiret (()) hQ hx hb hr hlocks hP hS dX4_countSigns_63 (by rw [hend, if_pos (kcmp0.mp c4)])
        · refine lv_lload_n hx hb dX4_countSigns_22 rfl (lv_at hl 1 rfl) ?_
          refine lv_ldc2 hx hb hown (hta _ al_597) dX4_countSigns_23 ?_
          refine lv_land hx hb dX4_countSigns_26 ?_
          refine lv_l2i (v := ((cShT w i) &&& 255).toInt32) hx hb dX4_countSigns_27 rfl ?_
          refine lv_bipush (v := 33) hx hb dX4_countSigns_28 (by decide) ?_
          refine lv_bipush (v := 126) hx hb dX4_countSigns_30 (by decide) ?_
          refine kc_i (krSN (As := [.int (((cShT w i) &&& 255).toInt32), .int 33, .int 126]) (rest := []) (c_X7_isWithin l D Y (((cShT w i) &&& 255).toInt32) 33 126) ⟨hx, hb, hml, hown, hta⟩ (cwX4_29 hta hNs ⟨Nat.le_of_ble_eq_true rfl, Nat.le_of_ble_eq_true rfl⟩) kX0b (fun _ _ _ => trivial) hK hNs hP hD (kJ_nil) rfl hl.1 rfl (Nat.le_of_ble_eq_true rfl) dX4_countSigns_32 ⟨Nat.le_of_ble_eq_true rfl, Nat.le_of_ble_eq_true rfl⟩) hP hD hS hA (kJ_nil) (fun _ => rfl) (fun r5 u H locs hw hP hD hS => ?_)
          subst hw
          have hP : va_P D vwCl ([]) H := hP
          have hD : va_D A ([]) := hD
          by_cases c6 : pIn (((cShT w i) &&& 255).toInt32) 33 126
          · refine kTop (kb_t c6) ?_
            refine lv_if_ne (tgt := 40) hx hb dX4_countSigns_35 (by decide) (fun _ => ?_) (fun h => False.elim (by revert h; decide))
            refine lv_lload_n hx hb dX4_countSigns_40 rfl (lv_at hl 1 rfl) ?_
            refine lv_bipush (v := 8) hx hb dX4_countSigns_41 (by decide) ?_
            refine lv_lushr (v := ((cShT w i).toUInt64 >>> ((8 : Int32).toInt64.toUInt64 &&& Int64.toUInt64 63)).toInt64) hx hb dX4_countSigns_43 rfl ?_
            refine lv_lstore_n (lv' := [(2, .long (((cShT w i).toUInt64 >>> ((8 : Int32).toInt64.toUInt64 &&& Int64.toUInt64 63)).toInt64)), (4, .int (nI i)), (0, .long w)]) hx hb dX4_countSigns_44 rfl hl (by decide) rfl (fun ls hl => ?_)
            refine lv_iinc (v := nI (i + 1)) (lv' := [(4, .int (nI (i + 1))), (2, .long (((cShT w i).toUInt64 >>> ((8 : Int32).toInt64.toUInt64 &&& Int64.toUInt64 63)).toInt64)), (0, .long w)]) hx hb dX4_countSigns_45 hl (k := 1) rfl (nI_add i 1) (by decide) rfl (fun ls hl => ?_)
            refine lv_goto (tgt := 5) hx hb dX4_countSigns_48 (by decide) ?_
            exact ih (i + 1) (by omega) (by rw [← hr0]; rw [show 8 - i = (8 - (i + 1)) + 1 by omega]; exact ((if_neg (fun h => c3 (kcmp0.mpr h))).trans (if_pos c6)).symm) (by omega) _ _ hP hD hS ls (lv_sub hl [0, 1, 2] rfl)
          · refine kTop (kb_f c6) ?_
            refine lv_if_ne (tgt := 40) hx hb dX4_countSigns_35 (by decide) (fun h => False.elim (by revert h; decide)) (fun _ => ?_)
            refine lv_iconst (v := 0) hx hb dX4_countSigns_38 (by decide) ?_
            exact kiret (()) hQ hx hb hr hlocks hP hS dX4_countSigns_39 (by rw [← hr0]; rw [show 8 - i = (8 - (i + 1)) + 1 by omega]; exact ((if_neg (fun h => c3 (kcmp0.mpr h))).trans (if_neg c6)).symm)
  exact loop5 ((8 - 0) + 1) 0 (Nat.lt_succ_self _) rfl (by omega) _ _ hP hD hS ls (lv_sub hl [0, 1, 2] rfl)
