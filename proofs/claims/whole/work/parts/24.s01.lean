set_option maxHeartbeats 4000000 in
set_option maxRecDepth 100000 in
theorem c_X8_burnt (l : Launch) (D : va_G) (Y : Nat → ClassId) (b : Nat → Nat) (R : kN) (g : Int32) (hZ : mX (R 0)) : kM l yX8_burnt wX8_burnt rX8_burnt D Y (wR Y b R) [.ref (b 0), .int g] kX0 (kQi D (fun r (_ : Unit) => r = mBurntTo (R 0) g (mF (R 0))) (fun _ => wR Y b R)) := by
  refine kentry (cc := cX8_burnt) (maxL := 4) (ret := (some .int)) (by decide +kernel) rfl (Nat.le_of_ble_eq_true rfl) ?_
  intro p e s0 m args below meth c A Q ls hQ hx hb hr hlocks hml hown hin hta hA hX0 hK hNs hP hD hS hl
  have hown : s0.vm.findClass RX8 = some m.cls := hown
  have hl : lv_has ls 4 [(0, .ref (b 0)), (1, .int g)] := hl
  have hF30 := hZ.f30
  refine lv_iconst (v := 0) hx hb dX8_burnt_0 (by decide) ?_
  refine lv_istore_n (lv' := [(2, .int 0), (0, .ref (b 0)), (1, .int g)]) hx hb dX8_burnt_1 rfl hl (by decide) rfl (fun ls hl => ?_)
  refine lv_iconst (v := 0) hx hb dX8_burnt_2 (by decide) ?_
  refine lv_istore_n (lv' := [(3, .int 0), (2, .int 0), (0, .ref (b 0)), (1, .int g)]) hx hb dX8_burnt_3 rfl hl (by decide) rfl (fun ls hl => ?_)
  have loop4 : ∀ (n : Nat) (k : Nat), mF (R 0) - k < n → k ≤ mF (R 0) → ∀ (H : Heap) (locs : List Loc), va_P D vwCl (wR Y b R) H → va_D A (wR Y b R) → va_S A s0.heap H locs → ∀ (ls : Array Slot), lv_has ls 4 [(3, .int (nI k)), (2, .int (mBurntTo (R 0) g k)), (0, .ref (b 0)), (1, .int g)] → W p l e rX8_burnt s0 m args below meth c H locs 0 0 Q (F0 m 4 ls []) := by
    intro n
    induction n with
    | zero => intro k hmu; exact absurd hmu (Nat.not_lt_zero _)
    | succ n ih =>
      intro k hmu hk H locs hP hD hS ls hl
      refine lv_iload_n hx hb dX8_burnt_4 rfl (lv_at hl 0 rfl) ?_
      refine lv_aload_n hx hb dX8_burnt_5 rfl (lv_at hl 2 rfl) ?_
      refine gfX8_7 (v := .ref (b 1)) hx hb hta hown hK hP 0 rfl rfl dX8_burnt_6 ?_
      refine lv_iconst (v := 1) hx hb dX8_burnt_9 (by decide) ?_
      refine kiald (f := R 0) hx hb hK hP 1 rfl 1 rfl (by omega) (by omega) dX8_burnt_10 ?_
      refine kTop hZ.f ?_
      refine lv_icmp_ge (tgt := 61) hx hb dX8_burnt_11 (by decide) (fun c1 => ?_) (fun c1 => ?_)
      · have c1n : (mF (R 0)) ≤ k := (nI_leI (a := mF (R 0)) (b := k) (by omega) (by omega)).mp c1
        refine lv_iload_n hx hb dX8_burnt_61 rfl (lv_at hl 1 rfl) ?_
        exact kiret (()) hQ hx hb hr hlocks hP hS dX8_burnt_62 (by have hk2 : k = mF (R 0) := (by omega); rw [hk2])
      · have c1n : ¬ (mF (R 0)) ≤ k := fun h => c1 ((nI_leI (a := mF (R 0)) (b := k) (by omega) (by omega)).mpr h)
        refine lv_iload_n hx hb dX8_burnt_14 rfl (lv_at hl 1 rfl) ?_
        refine lv_aload_n hx hb dX8_burnt_15 rfl (lv_at hl 2 rfl) ?_
        refine gfX8_7 (v := .ref (b 1)) hx hb hta hown hK hP 0 rfl rfl dX8_burnt_16 ?_
        refine lv_iload_n hx hb dX8_burnt_19 rfl (lv_at hl 0 rfl) ?_
        refine lv_iconst (v := 0) hx hb dX8_burnt_20 (by decide) ?_
        refine kc_i (krS (As := [.ref (b 1), .int (nI k), .int 0]) (rest := [.int (mBurntTo (R 0) g k)]) (c_X8_of l D Y (b 1) (R 0) k 0 (by omega) (by decide)) ⟨hx, hb, hml, hown, hta⟩ (cwX8_47 hta ⟨Nat.le_of_ble_eq_true rfl, Nat.le_of_ble_eq_true rfl⟩) kX0b (fun _ _ _ => trivial) hK hNs hP hD (kJ_sub [1] rfl rfl) rfl hl.1 rfl (Nat.le_of_ble_eq_true rfl) dX8_burnt_21 ⟨Nat.le_of_ble_eq_true rfl, Nat.le_of_ble_eq_true rfl⟩) hP hD hS hA (kJ_sub [1] rfl rfl) (fun _ => rfl) (fun r2 u H locs hw hP hD hS => ?_)
        subst hw
        have hP : va_P D vwCl (wR Y b R) H := hP
        have hD : va_D A (wR Y b R) := hD
        refine lv_iload_n hx hb dX8_burnt_24 rfl (lv_at hl 3 rfl) ?_
        refine lv_icmp_ne (tgt := 52) hx hb dX8_burnt_25 (by decide) (fun c3 => ?_) (fun c3 => ?_)
        · refine lv_iconst (v := 0) hx hb dX8_burnt_52 (by decide) ?_
          refine lv_iadd hx hb dX8_burnt_53 ?_
          refine lv_istore_n (lv' := [(2, .int ((mBurntTo (R 0) g k) + 0)), (3, .int (nI k)), (0, .ref (b 0)), (1, .int g)]) hx hb dX8_burnt_54 rfl hl (by decide) rfl (fun ls hl => ?_)
          refine lv_iinc (v := nI (k + 1)) (lv' := [(3, .int (nI (k + 1))), (2, .int ((mBurntTo (R 0) g k) + 0)), (0, .ref (b 0)), (1, .int g)]) hx hb dX8_burnt_55 hl (k := 1) rfl (nI_add k 1) (by decide) rfl (fun ls hl => ?_)
          refine lv_goto (tgt := 4) hx hb dX8_burnt_58 (by decide) ?_
          have hsum : (mBurntTo (R 0) g k) + 0 = mBurntTo (R 0) g (k + 1) := by show _ = mBurntTo (R 0) g k + (if R 0 (56 + 8 * k + 0) = g then (if mHow (R 0) k = 1 then R 0 (56 + 8 * k + 4) else 0) else 0); rw [if_neg c3]
          rw [hsum] at hl
          exact ih (k + 1) (by omega) (by omega) _ _ hP hD hS ls (lv_sub hl [0, 1, 2, 3] rfl)
        · refine lv_aload_n hx hb dX8_burnt_28 rfl (lv_at hl 2 rfl) ?_
          refine gfX8_7 (v := .ref (b 1)) hx hb hta hown hK hP 0 rfl rfl dX8_burnt_29 ?_
          refine lv_iload_n hx hb dX8_burnt_32 rfl (lv_at hl 0 rfl) ?_
          refine kc_i (krS (As := [.ref (b 1), .int (nI k)]) (rest := [.int (mBurntTo (R 0) g k)]) (c_X8_how l D Y (b 1) (R 0) k (by omega)) ⟨hx, hb, hml, hown, hta⟩ (cwX8_51 hta ⟨Nat.le_of_ble_eq_true rfl, Nat.le_of_ble_eq_true rfl⟩) kX0b (fun _ _ _ => trivial) hK hNs hP hD (kJ_sub [1] rfl rfl) rfl hl.1 rfl (Nat.le_of_ble_eq_true rfl) dX8_burnt_33 ⟨Nat.le_of_ble_eq_true rfl, Nat.le_of_ble_eq_true rfl⟩) hP hD hS hA (kJ_sub [1] rfl rfl) (fun _ => rfl) (fun r4 u H locs hw hP hD hS => ?_)
          subst hw
          have hP : va_P D vwCl (wR Y b R) H := hP
          have hD : va_D A (wR Y b R) := hD
          refine lv_iconst (v := 1) hx hb dX8_burnt_36 (by decide) ?_
          refine lv_icmp_ne (tgt := 52) hx hb dX8_burnt_37 (by decide) (fun c5 => ?_) (fun c5 => ?_)
          · refine lv_iconst (v := 0) hx hb dX8_burnt_52 (by decide) ?_
            refine lv_iadd hx hb dX8_burnt_53 ?_
            refine lv_istore_n (lv' := [(2, .int ((mBurntTo (R 0) g k) + 0)), (3, .int (nI k)), (0, .ref (b 0)), (1, .int g)]) hx hb dX8_burnt_54 rfl hl (by decide) rfl (fun ls hl => ?_)
            refine lv_iinc (v := nI (k + 1)) (lv' := [(3, .int (nI (k + 1))), (2, .int ((mBurntTo (R 0) g k) + 0)), (0, .ref (b 0)), (1, .int g)]) hx hb dX8_burnt_55 hl (k := 1) rfl (nI_add k 1) (by decide) rfl (fun ls hl => ?_)
            refine lv_goto (tgt := 4) hx hb dX8_burnt_58 (by decide) ?_
            have hsum : (mBurntTo (R 0) g k) + 0 = mBurntTo (R 0) g (k + 1) := by show _ = mBurntTo (R 0) g k + (if R 0 (56 + 8 * k + 0) = g then (if mHow (R 0) k = 1 then R 0 (56 + 8 * k + 4) else 0) else 0); rw [if_pos c3, if_neg c5]
            rw [hsum] at hl
            exact ih (k + 1) (by omega) (by omega) _ _ hP hD hS ls (lv_sub hl [0, 1, 2, 3] rfl)
          · refine lv_aload_n hx hb dX8_burnt_40 rfl (lv_at hl 2 rfl) ?_
            refine gfX8_7 (v := .ref (b 1)) hx hb hta hown hK hP 0 rfl rfl dX8_burnt_41 ?_
            refine lv_iload_n hx hb dX8_burnt_44 rfl (lv_at hl 0 rfl) ?_
            refine lv_iconst (v := 4) hx hb dX8_burnt_45 (by decide) ?_
            refine kc_i (krS (As := [.ref (b 1), .int (nI k), .int 4]) (rest := [.int (mBurntTo (R 0) g k)]) (c_X8_of l D Y (b 1) (R 0) k 4 (by omega) (by decide)) ⟨hx, hb, hml, hown, hta⟩ (cwX8_47 hta ⟨Nat.le_of_ble_eq_true rfl, Nat.le_of_ble_eq_true rfl⟩) kX0b (fun _ _ _ => trivial) hK hNs hP hD (kJ_sub [1] rfl rfl) rfl hl.1 rfl (Nat.le_of_ble_eq_true rfl) dX8_burnt_46 ⟨Nat.le_of_ble_eq_true rfl, Nat.le_of_ble_eq_true rfl⟩) hP hD hS hA (kJ_sub [1] rfl rfl) (fun _ => rfl) (fun r6 u H locs hw hP hD hS => ?_)
            subst hw
            have hP : va_P D vwCl (wR Y b R) H := hP
            have hD : va_D A (wR Y b R) := hD
            refine lv_goto (tgt := 53) hx hb dX8_burnt_49 (by decide) ?_
            refine lv_iadd hx hb dX8_burnt_53 ?_
            refine lv_istore_n (lv' := [(2, .int ((mBurntTo (R 0) g k) + ((R 0) (56 + 8 * k + 4)))), (3, .int (nI k)), (0, .ref (b 0)), (1, .int g)]) hx hb dX8_burnt_54 rfl hl (by decide) rfl (fun ls hl => ?_)
            refine lv_iinc (v := nI (k + 1)) (lv' := [(3, .int (nI (k + 1))), (2, .int ((mBurntTo (R 0) g k) + ((R 0) (56 + 8 * k + 4)))), (0, .ref (b 0)), (1, .int g)]) hx hb dX8_burnt_55 hl (k := 1) rfl (nI_add k 1) (by decide) rfl (fun ls hl => ?_)
            refine lv_goto (tgt := 4) hx hb dX8_burnt_58 (by decide) ?_
            have hsum : (mBurntTo (R 0) g k) + ((R 0) (56 + 8 * k + 4)) = mBurntTo (R 0) g (k + 1) := by show _ = mBurntTo (R 0) g k + (if R 0 (56 + 8 * k + 0) = g then (if mHow (R 0) k = 1 then R 0 (56 + 8 * k + 4) else 0) else 0); rw [if_pos c3, if_pos c5]
            rw [hsum] at hl
            exact ih (k + 1) (by omega) (by omega) _ _ hP hD hS ls (lv_sub hl [0, 1, 2, 3] rfl)
  exact loop4 ((mF (R 0) - 0) + 1) 0 (Nat.lt_succ_self _) (by omega) _ _ hP hD hS ls (lv_sub hl [0, 1, 2, 3] rfl)
