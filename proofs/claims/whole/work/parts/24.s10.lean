set_option maxHeartbeats 4000000 in
set_option maxRecDepth 100000 in
theorem c_X8_stopCosts (l : Launch) (D : va_G) (Y : Nat → ClassId) (b : Nat → Nat) (R : kN) (d q : Int32) (hZ : mX (R 0)) (hQ0 : mQ (R 0)) : kM l yX8_stopCosts wX8_stopCosts rX8_stopCosts D Y (wR Y b R) [.ref (b 0), .int d, .int q] kX0 (kQi D (fun r u => r = mCosts (R 0) d q ∧ ∃ T, u = sR R 1 T) (fun u => wR Y b u)) := by
  refine kentry (cc := cX8_stopCosts) (maxL := 4) (ret := (some .int)) (by decide +kernel) rfl (Nat.le_of_ble_eq_true rfl) ?_
  intro p e s0 m args below meth c A Q ls hQ hx hb hr hlocks hml hown hin hta hA hX0 hK hNs hP hD hS hl
  have hown : s0.vm.findClass RX8 = some m.cls := hown
  have hl : lv_has ls 4 [(0, .ref (b 0)), (1, .int d), (2, .int q)] := hl
  refine lv_iload_n hx hb dX8_stopCosts_0 rfl (lv_at hl 1 rfl) ?_
  refine lv_iconst (v := 1) hx hb dX8_stopCosts_1 (by decide) ?_
  refine lv_sipush (v := 300) hx hb dX8_stopCosts_2 (by decide) ?_
  refine kc_i (krS (As := [.int d, .int 1, .int 300]) (rest := []) (c_X8_in l D Y d 1 300) ⟨hx, hb, hml, hown, hta⟩ (cwX8_32 hta ⟨Nat.le_of_ble_eq_true rfl, Nat.le_of_ble_eq_true rfl⟩) kX0b (fun _ _ _ => trivial) hK hNs hP hD (kJ_nil) rfl hl.1 rfl (Nat.le_of_ble_eq_true rfl) dX8_stopCosts_5 ⟨Nat.le_of_ble_eq_true rfl, Nat.le_of_ble_eq_true rfl⟩) hP hD hS hA (kJ_nil) (fun _ => rfl) (fun r1 u H locs hw hP hD hS => ?_)
  subst hw
  have hP : va_P D vwCl (wR Y b R) H := hP
  have hD : va_D A (wR Y b R) := hD
  by_cases c2 : pIn d 1 300
  · refine kTop (kb_t c2) ?_
    refine lv_if_eq (tgt := 20) hx hb dX8_stopCosts_8 (by decide) (fun h => False.elim (by revert h; decide)) (fun _ => ?_)
    refine lv_iload_n hx hb dX8_stopCosts_11 rfl (lv_at hl 2 rfl) ?_
    refine lv_iconst (v := 0) hx hb dX8_stopCosts_12 (by decide) ?_
    refine lv_iload_n hx hb dX8_stopCosts_13 rfl (lv_at hl 1 rfl) ?_
    refine kc_i (krS (As := [.int q, .int 0, .int d]) (rest := []) (c_X8_in l D Y q 0 d) ⟨hx, hb, hml, hown, hta⟩ (cwX8_32 hta ⟨Nat.le_of_ble_eq_true rfl, Nat.le_of_ble_eq_true rfl⟩) kX0b (fun _ _ _ => trivial) hK hNs hP hD (kJ_nil) rfl hl.1 rfl (Nat.le_of_ble_eq_true rfl) dX8_stopCosts_14 ⟨Nat.le_of_ble_eq_true rfl, Nat.le_of_ble_eq_true rfl⟩) hP hD hS hA (kJ_nil) (fun _ => rfl) (fun r3 u H locs hw hP hD hS => ?_)
    subst hw
    have hP : va_P D vwCl (wR Y b R) H := hP
    have hD : va_D A (wR Y b R) := hD
    by_cases c4 : pIn q 0 d
    · refine kTop (kb_t c4) ?_
      refine lv_if_ne (tgt := 23) hx hb dX8_stopCosts_17 (by decide) (fun _ => ?_) (fun h => False.elim (by revert h; decide))
      obtain ⟨j, rfl, hjl, hjh⟩ := pIn_nat c2 (show (1 : Int32) = nI 1 from rfl) (show (300 : Int32) = nI 300 from rfl) (by omega) (by omega)
      refine lv_aload_n hx hb dX8_stopCosts_23 rfl (lv_at hl 0 rfl) ?_
      refine gfX8_7 (v := .ref (b 1)) hx hb hta hown hK hP 0 rfl rfl dX8_stopCosts_24 ?_
      refine lv_iconst (v := 0) hx hb dX8_stopCosts_27 (by decide) ?_
      refine lv_aload_n hx hb dX8_stopCosts_28 rfl (lv_at hl 0 rfl) ?_
      refine gfX8_13 (v := .ref (b 2)) hx hb hta hown hK hP 0 rfl rfl dX8_stopCosts_29 ?_
      refine lv_iconst (v := 0) hx hb dX8_stopCosts_32 (by decide) ?_
      refine kc_v (krS (As := [.ref (b 1), .int 0, .ref (b 2), .int 0]) (rest := []) (c_X8_lays l D Y (b 1) 1497 (R 0) 0 (b 2) 1497 (R 1) 0 (by omega) (by omega) (by omega) (by omega)) ⟨hx, hb, hml, hown, hta⟩ (cwX8_40 hta ⟨Nat.le_of_ble_eq_true rfl, Nat.le_of_ble_eq_true rfl⟩) kX0b (fun _ _ _ => trivial) hK hNs hP hD (kJ_sub [1, 2] rfl rfl) rfl hl.1 rfl (Nat.le_of_ble_eq_true rfl) dX8_stopCosts_33 ⟨Nat.le_of_ble_eq_true rfl, Nat.le_of_ble_eq_true rfl⟩) hP hD hS hA (kJ_sub [1, 2] rfl rfl) (fun _ => rfl) (fun u H locs hw hP hD hS => ?_)
      have hP : va_P D vwCl (wR Y b (sR R 1 (kcy (R 0) (R 1) 0 0 1497))) H := hP
      have hD : va_D A (wR Y b (sR R 1 (kcy (R 0) (R 1) 0 0 1497))) := hD
      have hP : va_P D vwCl (wR Y b (sR R 1 (R 0))) H := kRow 2 hP rfl (fun j hj => kcy_full _ _ hj)
      have hD : va_D A (wR Y b (sR R 1 (R 0))) := wR_D hD
      refine lv_aload_n hx hb dX8_stopCosts_36 rfl (lv_at hl 0 rfl) ?_
      refine lv_iload_n hx hb dX8_stopCosts_37 rfl (lv_at hl 1 rfl) ?_
      refine lv_iconst (v := 0) hx hb dX8_stopCosts_38 (by decide) ?_
      refine kc_v (krV (As := [.int (nI j), .int 0]) (rest := []) (c_X8_tries l D Y b R (R 0) j 0 hZ hQ0 (by omega)) ⟨hx, hb, hml, hown, hta⟩ (cwX8_148 hta ⟨Nat.le_of_ble_eq_true rfl, Nat.le_of_ble_eq_true rfl⟩) kX0b (fun _ _ _ => trivial) hK hNs hP hD (kJ_all) (q0 := 0) rfl rfl rfl rfl hl.1 rfl (Nat.le_of_ble_eq_true rfl) dX8_stopCosts_39 ⟨Nat.le_of_ble_eq_true rfl, Nat.le_of_ble_eq_true rfl⟩) hP hD hS hA (kJ_all) (fun _ => rfl) (fun u H locs hw hP hD hS => ?_)
      subst hw
      have hP : va_P D vwCl (wR Y b (sR R 1 (mDays (R 0) 0 j))) H := hP
      have hD : va_D A (wR Y b (sR R 1 (mDays (R 0) 0 j))) := hD
      refine lv_aload_n hx hb dX8_stopCosts_42 rfl (lv_at hl 0 rfl) ?_
      refine gfX8_13 (v := .ref (b 2)) hx hb hta hown hK hP 0 rfl rfl dX8_stopCosts_43 ?_
      refine lv_bipush (v := 27) hx hb dX8_stopCosts_46 (by decide) ?_
      refine kiald (f := mDays (R 0) 0 j) hx hb hK hP 2 rfl 27 rfl (by omega) (by omega) dX8_stopCosts_48 ?_
      refine lv_istore_n (lv' := [(3, .int (mDays (R 0) 0 j 27)), (0, .ref (b 0)), (1, .int (nI j)), (2, .int q)]) hx hb dX8_stopCosts_49 rfl hl (by decide) rfl (fun ls hl => ?_)
      refine lv_aload_n hx hb dX8_stopCosts_50 rfl (lv_at hl 1 rfl) ?_
      refine gfX8_7 (v := .ref (b 1)) hx hb hta hown hK hP 0 rfl rfl dX8_stopCosts_51 ?_
      refine lv_iconst (v := 0) hx hb dX8_stopCosts_54 (by decide) ?_
      refine lv_aload_n hx hb dX8_stopCosts_55 rfl (lv_at hl 1 rfl) ?_
      refine gfX8_13 (v := .ref (b 2)) hx hb hta hown hK hP 0 rfl rfl dX8_stopCosts_56 ?_
      refine lv_iconst (v := 0) hx hb dX8_stopCosts_59 (by decide) ?_
      refine kc_v (krS (As := [.ref (b 1), .int 0, .ref (b 2), .int 0]) (rest := []) (c_X8_lays l D Y (b 1) 1497 (R 0) 0 (b 2) 1497 (mDays (R 0) 0 j) 0 (by omega) (by omega) (by omega) (by omega)) ⟨hx, hb, hml, hown, hta⟩ (cwX8_40 hta ⟨Nat.le_of_ble_eq_true rfl, Nat.le_of_ble_eq_true rfl⟩) kX0b (fun _ _ _ => trivial) hK hNs hP hD (kJ_sub [1, 2] rfl rfl) rfl hl.1 rfl (Nat.le_of_ble_eq_true rfl) dX8_stopCosts_60 ⟨Nat.le_of_ble_eq_true rfl, Nat.le_of_ble_eq_true rfl⟩) hP hD hS hA (kJ_sub [1, 2] rfl rfl) (fun _ => rfl) (fun u H locs hw hP hD hS => ?_)
      have hP : va_P D vwCl (wR Y b (sR R 1 (kcy (R 0) (mDays (R 0) 0 j) 0 0 1497))) H := hP
      have hD : va_D A (wR Y b (sR R 1 (kcy (R 0) (mDays (R 0) 0 j) 0 0 1497))) := hD
      have hP : va_P D vwCl (wR Y b (sR R 1 (R 0))) H := kRow 2 hP rfl (fun j hj => kcy_full _ _ hj)
      have hD : va_D A (wR Y b (sR R 1 (R 0))) := wR_D hD
      refine lv_aload_n hx hb dX8_stopCosts_63 rfl (lv_at hl 1 rfl) ?_
      refine lv_iload_n hx hb dX8_stopCosts_64 rfl (lv_at hl 2 rfl) ?_
      refine lv_iload_n hx hb dX8_stopCosts_65 rfl (lv_at hl 3 rfl) ?_
      refine kc_v (krV (As := [.int (nI j), .int q]) (rest := []) (c_X8_tries l D Y b R (R 0) j q hZ hQ0 (by omega)) ⟨hx, hb, hml, hown, hta⟩ (cwX8_148 hta ⟨Nat.le_of_ble_eq_true rfl, Nat.le_of_ble_eq_true rfl⟩) kX0b (fun _ _ _ => trivial) hK hNs hP hD (kJ_all) (q0 := 0) rfl rfl rfl rfl hl.1 rfl (Nat.le_of_ble_eq_true rfl) dX8_stopCosts_66 ⟨Nat.le_of_ble_eq_true rfl, Nat.le_of_ble_eq_true rfl⟩) hP hD hS hA (kJ_all) (fun _ => rfl) (fun u H locs hw hP hD hS => ?_)
      subst hw
      have hP : va_P D vwCl (wR Y b (sR R 1 (mDays (R 0) q j))) H := hP
      have hD : va_D A (wR Y b (sR R 1 (mDays (R 0) q j))) := hD
      refine lv_iload_n hx hb dX8_stopCosts_69 rfl (lv_at hl 0 rfl) ?_
      refine lv_aload_n hx hb dX8_stopCosts_70 rfl (lv_at hl 1 rfl) ?_
      refine gfX8_13 (v := .ref (b 2)) hx hb hta hown hK hP 0 rfl rfl dX8_stopCosts_71 ?_
      refine lv_bipush (v := 27) hx hb dX8_stopCosts_74 (by decide) ?_
      refine kiald (f := mDays (R 0) q j) hx hb hK hP 2 rfl 27 rfl (by omega) (by omega) dX8_stopCosts_76 ?_
      refine lv_isub hx hb dX8_stopCosts_77 ?_
      refine lv_ldc hx hb hown (hta _ al_587) dX8_stopCosts_78 ?_
      refine lv_iadd hx hb dX8_stopCosts_80 ?_
      exact kiret (sR R 1 (mDays (R 0) q j)) hQ hx hb hr hlocks hP hS dX8_stopCosts_81 (by refine ⟨?_, _, rfl⟩; unfold mCosts; rw [nI_clamp (n := j) (by omega), if_pos c2, if_pos c4])
    · refine kTop (kb_f c4) ?_
      refine lv_if_ne (tgt := 23) hx hb dX8_stopCosts_17 (by decide) (fun h => False.elim (by revert h; decide)) (fun _ => ?_)
      refine lv_bipush (v := (-2)) hx hb dX8_stopCosts_20 (by decide) ?_
      exact kiret (R) hQ hx hb hr hlocks hP hS dX8_stopCosts_22 (by refine ⟨?_, ⟨R 1, (sR_id R 1).symm⟩⟩; unfold mCosts; rw [if_pos c2, if_neg c4])
  · refine kTop (kb_f c2) ?_
    refine lv_if_eq (tgt := 20) hx hb dX8_stopCosts_8 (by decide) (fun _ => ?_) (fun h => False.elim (by revert h; decide))
    refine lv_bipush (v := (-2)) hx hb dX8_stopCosts_20 (by decide) ?_
    exact kiret (R) hQ hx hb hr hlocks hP hS dX8_stopCosts_22 (by refine ⟨?_, ⟨R 1, (sR_id R 1).symm⟩⟩; unfold mCosts; rw [if_neg c2])
