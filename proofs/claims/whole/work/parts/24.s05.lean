set_option maxHeartbeats 4000000 in
set_option maxRecDepth 100000 in
theorem c_X8_fields (l : Launch) (D : va_G) (Y : Nat → ClassId) (b : Nat → Nat) (R : kN) (h : Int32) (hZ : mX (R 0)) : kM l yX8_fields wX8_fields rX8_fields D Y (wR Y b R) [.ref (b 0), .int h] kX0 (kQl D (fun r (_ : Unit) => r = mFields (R 0) h) (fun _ => wR Y b R)) := by
  refine kentry (cc := cX8_fields) (maxL := 5) (ret := (some .long)) (by decide +kernel) rfl (Nat.le_of_ble_eq_true rfl) ?_
  intro p e s0 m args below meth c A Q ls hQ hx hb hr hlocks hml hown hin hta hA hX0 hK hNs hP hD hS hl
  have hown : s0.vm.findClass RX8 = some m.cls := hown
  have hl : lv_has ls 5 [(0, .ref (b 0)), (1, .int h)] := hl
  have hF30 := hZ.f30
  refine lv_iload_n hx hb dX8_fields_0 rfl (lv_at hl 1 rfl) ?_
  refine lv_iconst (v := 0) hx hb dX8_fields_1 (by decide) ?_
  refine lv_iconst (v := 3) hx hb dX8_fields_2 (by decide) ?_
  refine kc_i (krS (As := [.int h, .int 0, .int 3]) (rest := []) (c_X8_in l D Y h 0 3) ⟨hx, hb, hml, hown, hta⟩ (cwX8_32 hta ⟨Nat.le_of_ble_eq_true rfl, Nat.le_of_ble_eq_true rfl⟩) kX0b (fun _ _ _ => trivial) hK hNs hP hD (kJ_nil) rfl hl.1 rfl (Nat.le_of_ble_eq_true rfl) dX8_fields_3 ⟨Nat.le_of_ble_eq_true rfl, Nat.le_of_ble_eq_true rfl⟩) hP hD hS hA (kJ_nil) (fun _ => rfl) (fun r1 u H locs hw hP hD hS => ?_)
  subst hw
  have hP : va_P D vwCl (wR Y b R) H := hP
  have hD : va_D A (wR Y b R) := hD
  by_cases c2 : pIn h 0 3
  · refine kTop (kb_t c2) ?_
    refine lv_if_ne (tgt := 13) hx hb dX8_fields_6 (by decide) (fun _ => ?_) (fun h => False.elim (by revert h; decide))
    refine lv_lconst (v := 0) hx hb dX8_fields_13 (by decide) ?_
    refine lv_lstore_n (lv' := [(2, .long 0), (0, .ref (b 0)), (1, .int h)]) hx hb dX8_fields_14 rfl hl (by decide) rfl (fun ls hl => ?_)
    refine lv_iconst (v := 0) hx hb dX8_fields_15 (by decide) ?_
    refine lv_istore (lv' := [(4, .int 0), (2, .long 0), (0, .ref (b 0)), (1, .int h)]) hx hb dX8_fields_16 hl (by decide) rfl (fun ls hl => ?_)
    have loop18 : ∀ (n : Nat) (k : Nat), mF (R 0) - k < n → k ≤ mF (R 0) → ∀ (H : Heap) (locs : List Loc), va_P D vwCl (wR Y b R) H → va_D A (wR Y b R) → va_S A s0.heap H locs → ∀ (ls : Array Slot), lv_has ls 5 [(4, .int (nI k)), (2, .long (mSetTo (R 0) h k)), (0, .ref (b 0)), (1, .int h)] → W p l e rX8_fields s0 m args below meth c H locs 0 0 Q (F0 m 18 ls []) := by
      intro n
      induction n with
      | zero => intro k hmu; exact absurd hmu (Nat.not_lt_zero _)
      | succ n ih =>
        intro k hmu hk H locs hP hD hS ls hl
        refine lv_iload hx hb dX8_fields_18 (lv_at hl 0 rfl) ?_
        refine lv_aload_n hx hb dX8_fields_20 rfl (lv_at hl 2 rfl) ?_
        refine gfX8_7 (v := .ref (b 1)) hx hb hta hown hK hP 0 rfl rfl dX8_fields_21 ?_
        refine lv_iconst (v := 1) hx hb dX8_fields_24 (by decide) ?_
        refine kiald (f := R 0) hx hb hK hP 1 rfl 1 rfl (by omega) (by omega) dX8_fields_25 ?_
        refine kTop hZ.f ?_
        refine lv_icmp_ge (tgt := 59) hx hb dX8_fields_26 (by decide) (fun c3 => ?_) (fun c3 => ?_)
        · have c3n : (mF (R 0)) ≤ k := (nI_leI (a := mF (R 0)) (b := k) (by omega) (by omega)).mp c3
          refine lv_lload_n hx hb dX8_fields_59 rfl (lv_at hl 1 rfl) ?_
          exact klret (()) hQ hx hb hr hlocks hP hS dX8_fields_60 (by have hk2 : k = mF (R 0) := (by omega); subst hk2; unfold mFields; rw [if_pos c2])
        · have c3n : ¬ (mF (R 0)) ≤ k := fun h => c3 ((nI_leI (a := mF (R 0)) (b := k) (by omega) (by omega)).mpr h)
          refine lv_lload_n hx hb dX8_fields_29 rfl (lv_at hl 1 rfl) ?_
          refine lv_aload_n hx hb dX8_fields_30 rfl (lv_at hl 2 rfl) ?_
          refine gfX8_7 (v := .ref (b 1)) hx hb hta hown hK hP 0 rfl rfl dX8_fields_31 ?_
          refine lv_iload hx hb dX8_fields_34 (lv_at hl 0 rfl) ?_
          refine kc_i (krS (As := [.ref (b 1), .int (nI k)]) (rest := [.long (mSetTo (R 0) h k)]) (c_X8_how l D Y (b 1) (R 0) k (by omega)) ⟨hx, hb, hml, hown, hta⟩ (cwX8_51 hta ⟨Nat.le_of_ble_eq_true rfl, Nat.le_of_ble_eq_true rfl⟩) kX0b (fun _ _ _ => trivial) hK hNs hP hD (kJ_sub [1] rfl rfl) rfl hl.1 rfl (Nat.le_of_ble_eq_true rfl) dX8_fields_36 ⟨Nat.le_of_ble_eq_true rfl, Nat.le_of_ble_eq_true rfl⟩) hP hD hS hA (kJ_sub [1] rfl rfl) (fun _ => rfl) (fun r4 u H locs hw hP hD hS => ?_)
          subst hw
          have hP : va_P D vwCl (wR Y b R) H := hP
          have hD : va_D A (wR Y b R) := hD
          refine lv_iload_n hx hb dX8_fields_39 rfl (lv_at hl 3 rfl) ?_
          refine lv_icmp_ne (tgt := 50) hx hb dX8_fields_40 (by decide) (fun c5 => ?_) (fun c5 => ?_)
          · refine lv_lconst (v := 0) hx hb dX8_fields_50 (by decide) ?_
            refine lv_lor hx hb dX8_fields_51 ?_
            refine lv_lstore_n (lv' := [(2, .long ((mSetTo (R 0) h k) ||| 0)), (4, .int (nI k)), (0, .ref (b 0)), (1, .int h)]) hx hb dX8_fields_52 rfl hl (by decide) rfl (fun ls hl => ?_)
            refine lv_iinc (v := nI (k + 1)) (lv' := [(4, .int (nI (k + 1))), (2, .long ((mSetTo (R 0) h k) ||| 0)), (0, .ref (b 0)), (1, .int h)]) hx hb dX8_fields_53 hl (k := 1) rfl (nI_add k 1) (by decide) rfl (fun ls hl => ?_)
            refine lv_goto (tgt := 18) hx hb dX8_fields_56 (by decide) ?_
            have hsum : (mSetTo (R 0) h k) ||| 0 = mSetTo (R 0) h (k + 1) := by show _ = mSetTo (R 0) h k ||| (if mHow (R 0) k = h then (1 : Int64) <<< ((nI k).toInt64 &&& 63) else 0); rw [if_neg c5]
            rw [hsum] at hl
            exact ih (k + 1) (by omega) (by omega) _ _ hP hD hS ls (lv_sub hl [0, 1, 2, 3] rfl)
          · refine lv_lconst (v := 1) hx hb dX8_fields_43 (by decide) ?_
            refine lv_iload hx hb dX8_fields_44 (lv_at hl 0 rfl) ?_
            refine lv_lshl (v := 1 <<< ((nI k).toInt64 &&& 63)) hx hb dX8_fields_46 rfl ?_
            refine lv_goto (tgt := 51) hx hb dX8_fields_47 (by decide) ?_
            refine lv_lor hx hb dX8_fields_51 ?_
            refine lv_lstore_n (lv' := [(2, .long ((mSetTo (R 0) h k) ||| (1 <<< ((nI k).toInt64 &&& 63)))), (4, .int (nI k)), (0, .ref (b 0)), (1, .int h)]) hx hb dX8_fields_52 rfl hl (by decide) rfl (fun ls hl => ?_)
            refine lv_iinc (v := nI (k + 1)) (lv' := [(4, .int (nI (k + 1))), (2, .long ((mSetTo (R 0) h k) ||| (1 <<< ((nI k).toInt64 &&& 63)))), (0, .ref (b 0)), (1, .int h)]) hx hb dX8_fields_53 hl (k := 1) rfl (nI_add k 1) (by decide) rfl (fun ls hl => ?_)
            refine lv_goto (tgt := 18) hx hb dX8_fields_56 (by decide) ?_
            have hsum : (mSetTo (R 0) h k) ||| (1 <<< ((nI k).toInt64 &&& 63)) = mSetTo (R 0) h (k + 1) := by show _ = mSetTo (R 0) h k ||| (if mHow (R 0) k = h then (1 : Int64) <<< ((nI k).toInt64 &&& 63) else 0); rw [if_pos c5]
            rw [hsum] at hl
            exact ih (k + 1) (by omega) (by omega) _ _ hP hD hS ls (lv_sub hl [0, 1, 2, 3] rfl)
    exact loop18 ((mF (R 0) - 0) + 1) 0 (Nat.lt_succ_self _) (by omega) _ _ hP hD hS ls (lv_sub hl [0, 1, 2, 3] rfl)
  · refine kTop (kb_f c2) ?_
    refine lv_if_ne (tgt := 13) hx hb dX8_fields_6 (by decide) (fun h => False.elim (by revert h; decide)) (fun _ => ?_)
    refine lv_ldc2 hx hb hown (hta _ al_533) dX8_fields_9 ?_
    exact klret (()) hQ hx hb hr hlocks hP hS dX8_fields_12 (by unfold mFields; rw [if_neg c2])
