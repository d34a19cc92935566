set_option maxHeartbeats 4000000 in
set_option maxRecDepth 100000 in
theorem c_X8_then (l : Launch) (D : va_G) (Y : Nat → ClassId) (b : Nat → Nat) (R : kN) (d w : Int32) (hZ : mX (R 0)) (hQ0 : mQ (R 0)) : kM l yX8_then wX8_then rX8_then D Y (wR Y b R) [.ref (b 0), .int d, .int w] kX0 (kQi D (fun r u => r = mThen (R 0) d w ∧ ∃ T, u = sR R 1 T) (fun u => wR Y b u)) := by
  refine kentry (cc := cX8_then) (maxL := 4) (ret := (some .int)) (by decide +kernel) rfl (Nat.le_of_ble_eq_true rfl) ?_
  intro p e s0 m args below meth c A Q ls hQ hx hb hr hlocks hml hown hin hta hA hX0 hK hNs hP hD hS hl
  have hown : s0.vm.findClass RX8 = some m.cls := hown
  have hl : lv_has ls 4 [(0, .ref (b 0)), (1, .int d), (2, .int w)] := hl
  refine lv_iload_n hx hb dX8_then_0 rfl (lv_at hl 1 rfl) ?_
  refine lv_iconst (v := 1) hx hb dX8_then_1 (by decide) ?_
  refine lv_sipush (v := 300) hx hb dX8_then_2 (by decide) ?_
  refine kc_i (krS (As := [.int d, .int 1, .int 300]) (rest := []) (c_X8_in l D Y d 1 300) ⟨hx, hb, hml, hown, hta⟩ (cwX8_32 hta ⟨Nat.le_of_ble_eq_true rfl, Nat.le_of_ble_eq_true rfl⟩) kX0b (fun _ _ _ => trivial) hK hNs hP hD (kJ_nil) rfl hl.1 rfl (Nat.le_of_ble_eq_true rfl) dX8_then_5 ⟨Nat.le_of_ble_eq_true rfl, Nat.le_of_ble_eq_true rfl⟩) hP hD hS hA (kJ_nil) (fun _ => rfl) (fun r1 u H locs hw hP hD hS => ?_)
  subst hw
  have hP : va_P D vwCl (wR Y b R) H := hP
  have hD : va_D A (wR Y b R) := hD
  by_cases c2 : pIn d 1 300
  · refine kTop (kb_t c2) ?_
    refine lv_if_eq (tgt := 20) hx hb dX8_then_8 (by decide) (fun h => False.elim (by revert h; decide)) (fun _ => ?_)
    refine lv_iload_n hx hb dX8_then_11 rfl (lv_at hl 2 rfl) ?_
    refine lv_iconst (v := 0) hx hb dX8_then_12 (by decide) ?_
    refine lv_iconst (v := 2) hx hb dX8_then_13 (by decide) ?_
    refine kc_i (krS (As := [.int w, .int 0, .int 2]) (rest := []) (c_X8_in l D Y w 0 2) ⟨hx, hb, hml, hown, hta⟩ (cwX8_32 hta ⟨Nat.le_of_ble_eq_true rfl, Nat.le_of_ble_eq_true rfl⟩) kX0b (fun _ _ _ => trivial) hK hNs hP hD (kJ_nil) rfl hl.1 rfl (Nat.le_of_ble_eq_true rfl) dX8_then_14 ⟨Nat.le_of_ble_eq_true rfl, Nat.le_of_ble_eq_true rfl⟩) hP hD hS hA (kJ_nil) (fun _ => rfl) (fun r3 u H locs hw hP hD hS => ?_)
    subst hw
    have hP : va_P D vwCl (wR Y b R) H := hP
    have hD : va_D A (wR Y b R) := hD
    by_cases c4 : pIn w 0 2
    · refine kTop (kb_t c4) ?_
      refine lv_if_ne (tgt := 23) hx hb dX8_then_17 (by decide) (fun _ => ?_) (fun h => False.elim (by revert h; decide))
      obtain ⟨j, rfl, hjl, hjh⟩ := pIn_nat c2 (show (1 : Int32) = nI 1 from rfl) (show (300 : Int32) = nI 300 from rfl) (by omega) (by omega)
      refine lv_aload_n hx hb dX8_then_23 rfl (lv_at hl 0 rfl) ?_
      refine gfX8_7 (v := .ref (b 1)) hx hb hta hown hK hP 0 rfl rfl dX8_then_24 ?_
      refine lv_iconst (v := 0) hx hb dX8_then_27 (by decide) ?_
      refine lv_aload_n hx hb dX8_then_28 rfl (lv_at hl 0 rfl) ?_
      refine gfX8_13 (v := .ref (b 2)) hx hb hta hown hK hP 0 rfl rfl dX8_then_29 ?_
      refine lv_iconst (v := 0) hx hb dX8_then_32 (by decide) ?_
      refine kc_v (krS (As := [.ref (b 1), .int 0, .ref (b 2), .int 0]) (rest := []) (c_X8_lays l D Y (b 1) 1497 (R 0) 0 (b 2) 1497 (R 1) 0 (by omega) (by omega) (by omega) (by omega)) ⟨hx, hb, hml, hown, hta⟩ (cwX8_40 hta ⟨Nat.le_of_ble_eq_true rfl, Nat.le_of_ble_eq_true rfl⟩) kX0b (fun _ _ _ => trivial) hK hNs hP hD (kJ_sub [1, 2] rfl rfl) rfl hl.1 rfl (Nat.le_of_ble_eq_true rfl) dX8_then_33 ⟨Nat.le_of_ble_eq_true rfl, Nat.le_of_ble_eq_true rfl⟩) hP hD hS hA (kJ_sub [1, 2] rfl rfl) (fun _ => rfl) (fun u H locs hw hP hD hS => ?_)
      have hP : va_P D vwCl (wR Y b (sR R 1 (kcy (R 0) (R 1) 0 0 1497))) H := hP
      have hD : va_D A (wR Y b (sR R 1 (kcy (R 0) (R 1) 0 0 1497))) := hD
      have hP : va_P D vwCl (wR Y b (sR R 1 (R 0))) H := kRow 2 hP rfl (fun j hj => kcy_full _ _ hj)
      have hD : va_D A (wR Y b (sR R 1 (R 0))) := wR_D hD
      refine lv_aload_n hx hb dX8_then_36 rfl (lv_at hl 0 rfl) ?_
      refine lv_iload_n hx hb dX8_then_37 rfl (lv_at hl 1 rfl) ?_
      refine lv_iconst (v := 0) hx hb dX8_then_38 (by decide) ?_
      refine kc_v (krV (As := [.int (nI j), .int 0]) (rest := []) (c_X8_tries l D Y b R (R 0) j 0 hZ hQ0 (by omega)) ⟨hx, hb, hml, hown, hta⟩ (cwX8_148 hta ⟨Nat.le_of_ble_eq_true rfl, Nat.le_of_ble_eq_true rfl⟩) kX0b (fun _ _ _ => trivial) hK hNs hP hD (kJ_all) (q0 := 0) rfl rfl rfl rfl hl.1 rfl (Nat.le_of_ble_eq_true rfl) dX8_then_39 ⟨Nat.le_of_ble_eq_true rfl, Nat.le_of_ble_eq_true rfl⟩) hP hD hS hA (kJ_all) (fun _ => rfl) (fun u H locs hw hP hD hS => ?_)
      subst hw
      have hP : va_P D vwCl (wR Y b (sR R 1 (mDays (R 0) 0 j))) H := hP
      have hD : va_D A (wR Y b (sR R 1 (mDays (R 0) 0 j))) := hD
      refine lv_iload_n hx hb dX8_then_42 rfl (lv_at hl 2 rfl) ?_
      refine lv_if_ne (tgt := 51) hx hb dX8_then_43 (by decide) (fun c7 => ?_) (fun c7 => ?_)
      · refine lv_iload_n hx hb dX8_then_51 rfl (lv_at hl 2 rfl) ?_
        refine lv_iconst (v := 1) hx hb dX8_then_52 (by decide) ?_
        refine lv_icmp_ne (tgt := 61) hx hb dX8_then_53 (by decide) (fun c8 => ?_) (fun c8 => ?_)
        · refine lv_bipush (v := 29) hx hb dX8_then_61 (by decide) ?_
          refine lv_istore_n (lv' := [(3, .int 29), (0, .ref (b 0)), (1, .int (nI j)), (2, .int w)]) hx hb dX8_then_63 rfl hl (by decide) rfl (fun ls hl => ?_)
          refine lv_aload_n hx hb dX8_then_64 rfl (lv_at hl 1 rfl) ?_
          refine gfX8_13 (v := .ref (b 2)) hx hb hta hown hK hP 0 rfl rfl dX8_then_65 ?_
          refine lv_iload_n hx hb dX8_then_68 rfl (lv_at hl 0 rfl) ?_
          refine kiald (f := mDays (R 0) 0 j) hx hb hK hP 2 rfl 29 rfl (by omega) (by omega) dX8_then_69 ?_
          refine lv_aload_n hx hb dX8_then_70 rfl (lv_at hl 1 rfl) ?_
          refine gfX8_7 (v := .ref (b 1)) hx hb hta hown hK hP 0 rfl rfl dX8_then_71 ?_
          refine lv_iload_n hx hb dX8_then_74 rfl (lv_at hl 0 rfl) ?_
          refine kiald (f := R 0) hx hb hK hP 1 rfl 29 rfl (by omega) (by omega) dX8_then_75 ?_
          refine lv_isub hx hb dX8_then_76 ?_
          exact kiret (sR R 1 (mDays (R 0) 0 j)) hQ hx hb hr hlocks hP hS dX8_then_77 (by refine ⟨?_, _, rfl⟩; unfold mThen; rw [nI_clamp (n := j) (by omega), if_pos c2, if_pos c4, if_neg c7, if_neg c8])
        · refine lv_bipush (v := 27) hx hb dX8_then_56 (by decide) ?_
          refine lv_goto (tgt := 63) hx hb dX8_then_58 (by decide) ?_
          refine lv_istore_n (lv' := [(3, .int 27), (0, .ref (b 0)), (1, .int (nI j)), (2, .int w)]) hx hb dX8_then_63 rfl hl (by decide) rfl (fun ls hl => ?_)
          refine lv_aload_n hx hb dX8_then_64 rfl (lv_at hl 1 rfl) ?_
          refine gfX8_13 (v := .ref (b 2)) hx hb hta hown hK hP 0 rfl rfl dX8_then_65 ?_
          refine lv_iload_n hx hb dX8_then_68 rfl (lv_at hl 0 rfl) ?_
          refine kiald (f := mDays (R 0) 0 j) hx hb hK hP 2 rfl 27 rfl (by omega) (by omega) dX8_then_69 ?_
          refine lv_aload_n hx hb dX8_then_70 rfl (lv_at hl 1 rfl) ?_
          refine gfX8_7 (v := .ref (b 1)) hx hb hta hown hK hP 0 rfl rfl dX8_then_71 ?_
          refine lv_iload_n hx hb dX8_then_74 rfl (lv_at hl 0 rfl) ?_
          refine kiald (f := R 0) hx hb hK hP 1 rfl 27 rfl (by omega) (by omega) dX8_then_75 ?_
          refine lv_isub hx hb dX8_then_76 ?_
          exact kiret (sR R 1 (mDays (R 0) 0 j)) hQ hx hb hr hlocks hP hS dX8_then_77 (by refine ⟨?_, _, rfl⟩; unfold mThen; rw [nI_clamp (n := j) (by omega), if_pos c2, if_pos c4, if_neg c7, if_pos c8])
      · refine lv_bipush (v := 28) hx hb dX8_then_46 (by decide) ?_
        refine lv_goto (tgt := 63) hx hb dX8_then_48 (by decide) ?_
        refine lv_istore_n (lv' := [(3, .int 28), (0, .ref (b 0)), (1, .int (nI j)), (2, .int w)]) hx hb dX8_then_63 rfl hl (by decide) rfl (fun ls hl => ?_)
        refine lv_aload_n hx hb dX8_then_64 rfl (lv_at hl 1 rfl) ?_
        refine gfX8_13 (v := .ref (b 2)) hx hb hta hown hK hP 0 rfl rfl dX8_then_65 ?_
        refine lv_iload_n hx hb dX8_then_68 rfl (lv_at hl 0 rfl) ?_
        refine kiald (f := mDays (R 0) 0 j) hx hb hK hP 2 rfl 28 rfl (by omega) (by omega) dX8_then_69 ?_
        refine lv_aload_n hx hb dX8_then_70 rfl (lv_at hl 1 rfl) ?_
        refine gfX8_7 (v := .ref (b 1)) hx hb hta hown hK hP 0 rfl rfl dX8_then_71 ?_
        refine lv_iload_n hx hb dX8_then_74 rfl (lv_at hl 0 rfl) ?_
        refine kiald (f := R 0) hx hb hK hP 1 rfl 28 rfl (by omega) (by omega) dX8_then_75 ?_
        refine lv_isub hx hb dX8_then_76 ?_
        exact kiret (sR R 1 (mDays (R 0) 0 j)) hQ hx hb hr hlocks hP hS dX8_then_77 (by refine ⟨?_, _, rfl⟩; unfold mThen; rw [nI_clamp (n := j) (by omega), if_pos c2, if_pos c4, if_pos c7])
    · refine kTop (kb_f c4) ?_
      refine lv_if_ne (tgt := 23) hx hb dX8_then_17 (by decide) (fun h => False.elim (by revert h; decide)) (fun _ => ?_)
      refine lv_bipush (v := (-2)) hx hb dX8_then_20 (by decide) ?_
      exact kiret (R) hQ hx hb hr hlocks hP hS dX8_then_22 (by refine ⟨?_, ⟨R 1, (sR_id R 1).symm⟩⟩; unfold mThen; rw [if_pos c2, if_neg c4])
  · refine kTop (kb_f c2) ?_
    refine lv_if_eq (tgt := 20) hx hb dX8_then_8 (by decide) (fun _ => ?_) (fun h => False.elim (by revert h; decide))
    refine lv_bipush (v := (-2)) hx hb dX8_then_20 (by decide) ?_
    exact kiret (R) hQ hx hb hr hlocks hP hS dX8_then_22 (by refine ⟨?_, ⟨R 1, (sR_id R 1).symm⟩⟩; unfold mThen; rw [if_neg c2])
