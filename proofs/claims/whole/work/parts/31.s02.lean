set_option maxHeartbeats 4000000 in
set_option maxRecDepth 100000 in
theorem c_X8_mayDo (l : Launch) (D : va_G) (Y : Nat → ClassId) (b : Nat → Nat) (R : kN) (k q1 q2 q3 q4 : Int32) (hZ : mX (R 0)) : kM l yX8_mayDo wX8_mayDo rX8_mayDo D Y (wR Y b R) [.ref (b 0), .int k, .int q1, .int q2, .int q3, .int q4] kX0 (kQi D (fun r (_ : Unit) => r = mMayDo (R 0) k q1 q2 q3 q4) (fun _ => wR Y b R)) := by
  refine kentry (cc := cX8_mayDo) (maxL := 6) (ret := (some .int)) (by decide +kernel) rfl (Nat.le_of_ble_eq_true rfl) ?_
  intro p e s0 m args below meth c A Q ls hQ hx hb hr hlocks hml hown hin hta hA hX0 hK hNs hP hD hS hl
  have hown : s0.vm.findClass RX8 = some m.cls := hown
  have hl : lv_has ls 6 [(0, .ref (b 0)), (1, .int k), (2, .int q1), (3, .int q2), (4, .int q3), (5, .int q4)] := hl
  refine lv_iload_n hx hb dX8_mayDo_0 rfl (lv_at hl 1 rfl) ?_
  by_cases c1 : k = 102
  · refine lv_lookup (off := 43) (tgt := 44) hx hb dX8_mayDo_1 (by decide) (by rw [c1]; decide) (by decide) ?_
    refine lv_aload_n hx hb dX8_mayDo_44 rfl (lv_at hl 0 rfl) ?_
    refine lv_iload_n hx hb dX8_mayDo_45 rfl (lv_at hl 2 rfl) ?_
    refine lv_iload_n hx hb dX8_mayDo_46 rfl (lv_at hl 3 rfl) ?_
    refine lv_iload hx hb dX8_mayDo_47 (lv_at hl 4 rfl) ?_
    refine lv_iload hx hb dX8_mayDo_49 (lv_at hl 5 rfl) ?_
    refine kc_i (krV (As := [.int q1, .int q2, .int q3, .int q4]) (rest := []) (c_X8_mayCome l D Y b R q1 q2 q3 q4 hZ) ⟨hx, hb, hml, hown, hta⟩ (cwX8_117 hta ⟨Nat.le_of_ble_eq_true rfl, Nat.le_of_ble_eq_true rfl⟩) kX0b (fun _ _ _ => trivial) hK hNs hP hD (kJ_all) (q0 := 0) rfl rfl rfl rfl hl.1 rfl (Nat.le_of_ble_eq_true rfl) dX8_mayDo_51 ⟨Nat.le_of_ble_eq_true rfl, Nat.le_of_ble_eq_true rfl⟩) hP hD hS hA (kJ_all) (fun _ => rfl) (fun r2 u H locs hw hP hD hS => ?_)
    subst hw
    have hP : va_P D vwCl (wR Y b R) H := hP
    have hD : va_D A (wR Y b R) := hD
    exact kiret (()) hQ hx hb hr hlocks hP hS dX8_mayDo_54 (by unfold mMayDo; rw [if_pos c1])
  · by_cases c3 : k = 108
    · refine lv_lookup (off := 60) (tgt := 61) hx hb dX8_mayDo_1 (by decide) (by rw [c3]; decide) (by decide) ?_
      refine lv_aload_n hx hb dX8_mayDo_61 rfl (lv_at hl 0 rfl) ?_
      refine lv_iload_n hx hb dX8_mayDo_62 rfl (lv_at hl 2 rfl) ?_
      refine lv_iload_n hx hb dX8_mayDo_63 rfl (lv_at hl 3 rfl) ?_
      refine lv_iload hx hb dX8_mayDo_64 (lv_at hl 4 rfl) ?_
      refine kc_i (krV (As := [.int q1, .int q2, .int q3]) (rest := []) (c_X8_mayLend l D Y b R q1 q2 q3) ⟨hx, hb, hml, hown, hta⟩ (cwX8_110 hta ⟨Nat.le_of_ble_eq_true rfl, Nat.le_of_ble_eq_true rfl⟩) kX0b (fun _ _ _ => trivial) hK hNs hP hD (kJ_all) (q0 := 0) rfl rfl rfl rfl hl.1 rfl (Nat.le_of_ble_eq_true rfl) dX8_mayDo_66 ⟨Nat.le_of_ble_eq_true rfl, Nat.le_of_ble_eq_true rfl⟩) hP hD hS hA (kJ_all) (fun _ => rfl) (fun r4 u H locs hw hP hD hS => ?_)
      subst hw
      have hP : va_P D vwCl (wR Y b R) H := hP
      have hD : va_D A (wR Y b R) := hD
      exact kiret (()) hQ hx hb hr hlocks hP hS dX8_mayDo_69 (by unfold mMayDo; rw [if_neg c1, if_pos c3])
    · by_cases c5 : k = 113
      · refine lv_lookup (off := 54) (tgt := 55) hx hb dX8_mayDo_1 (by decide) (by rw [c5]; decide) (by decide) ?_
        refine lv_iload_n hx hb dX8_mayDo_55 rfl (lv_at hl 2 rfl) ?_
        refine lv_iload_n hx hb dX8_mayDo_56 rfl (lv_at hl 3 rfl) ?_
        refine kc_i (krS (As := [.int q1, .int q2]) (rest := []) (c_X8_mayQuota l D Y q1 q2) ⟨hx, hb, hml, hown, hta⟩ (cwX8_107 hta ⟨Nat.le_of_ble_eq_true rfl, Nat.le_of_ble_eq_true rfl⟩) kX0b (fun _ _ _ => trivial) hK hNs hP hD (kJ_nil) rfl hl.1 rfl (Nat.le_of_ble_eq_true rfl) dX8_mayDo_57 ⟨Nat.le_of_ble_eq_true rfl, Nat.le_of_ble_eq_true rfl⟩) hP hD hS hA (kJ_nil) (fun _ => rfl) (fun r6 u H locs hw hP hD hS => ?_)
        subst hw
        have hP : va_P D vwCl (wR Y b R) H := hP
        have hD : va_D A (wR Y b R) := hD
        exact kiret (()) hQ hx hb hr hlocks hP hS dX8_mayDo_60 (by unfold mMayDo; rw [if_neg c1, if_neg c3, if_pos c5])
      · by_cases c7 : k = 115
        · refine lv_lookup (off := 69) (tgt := 70) hx hb dX8_mayDo_1 (by decide) (by rw [c7]; decide) (by decide) ?_
          refine lv_aload_n hx hb dX8_mayDo_70 rfl (lv_at hl 0 rfl) ?_
          refine lv_iload_n hx hb dX8_mayDo_71 rfl (lv_at hl 2 rfl) ?_
          refine lv_iload_n hx hb dX8_mayDo_72 rfl (lv_at hl 3 rfl) ?_
          refine kc_i (krV (As := [.int q1, .int q2]) (rest := []) (c_X8_mayStop l D Y b R q1 q2 hZ) ⟨hx, hb, hml, hown, hta⟩ (cwX8_127 hta ⟨Nat.le_of_ble_eq_true rfl, Nat.le_of_ble_eq_true rfl⟩) kX0b (fun _ _ _ => trivial) hK hNs hP hD (kJ_all) (q0 := 0) rfl rfl rfl rfl hl.1 rfl (Nat.le_of_ble_eq_true rfl) dX8_mayDo_73 ⟨Nat.le_of_ble_eq_true rfl, Nat.le_of_ble_eq_true rfl⟩) hP hD hS hA (kJ_all) (fun _ => rfl) (fun r8 u H locs hw hP hD hS => ?_)
          subst hw
          have hP : va_P D vwCl (wR Y b R) H := hP
          have hD : va_D A (wR Y b R) := hD
          exact kiret (()) hQ hx hb hr hlocks hP hS dX8_mayDo_76 (by unfold mMayDo; rw [if_neg c1, if_neg c3, if_neg c5, if_pos c7])
        · refine lv_lookup (off := 76) (tgt := 77) hx hb dX8_mayDo_1 (by decide) (by have q0 : ¬ k.toInt = 102 := fun h => c1 (Int32.toInt_inj.mp (h.trans (by decide))); have q1 : ¬ k.toInt = 108 := fun h => c3 (Int32.toInt_inj.mp (h.trans (by decide))); have q2 : ¬ k.toInt = 113 := fun h => c5 (Int32.toInt_inj.mp (h.trans (by decide))); have q3 : ¬ k.toInt = 115 := fun h => c7 (Int32.toInt_inj.mp (h.trans (by decide))); simp [Op.lookupswitch.offset, q0, Ne.symm q0, q1, Ne.symm q1, q2, Ne.symm q2, q3, Ne.symm q3]) (by decide) ?_
          refine lv_aload_n hx hb dX8_mayDo_77 rfl (lv_at hl 0 rfl) ?_
          refine lv_iload_n hx hb dX8_mayDo_78 rfl (lv_at hl 2 rfl) ?_
          refine kc_i (krV (As := [.int q1]) (rest := []) (c_X8_mayPass l D Y b R q1) ⟨hx, hb, hml, hown, hta⟩ (cwX8_133 hta ⟨Nat.le_of_ble_eq_true rfl, Nat.le_of_ble_eq_true rfl⟩) kX0b (fun _ _ _ => trivial) hK hNs hP hD (kJ_all) (q0 := 0) rfl rfl rfl rfl hl.1 rfl (Nat.le_of_ble_eq_true rfl) dX8_mayDo_79 ⟨Nat.le_of_ble_eq_true rfl, Nat.le_of_ble_eq_true rfl⟩) hP hD hS hA (kJ_all) (fun _ => rfl) (fun r9 u H locs hw hP hD hS => ?_)
          subst hw
          have hP : va_P D vwCl (wR Y b R) H := hP
          have hD : va_D A (wR Y b R) := hD
          exact kiret (()) hQ hx hb hr hlocks hP hS dX8_mayDo_82 (by unfold mMayDo; rw [if_neg c1, if_neg c3, if_neg c5, if_neg c7])
