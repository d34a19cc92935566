set_option maxHeartbeats 4000000 in
set_option maxRecDepth 100000 in
theorem c_X4_formOf (l : Launch) (D : va_G) (Y : Nat → ClassId) (base : Nat) (ad av : Nat → Nat) (kd : Int32) : kM l yX4_formOf wX4_formOf rX4_formOf D Y ([]) [.int kd] (kX base ad av) (kQr D (fun u => u = cFx kd) ad (fun _ => [])) := by
  refine kentryE (cc := cX4_formOf) (maxL := 1) (ret := (some (.object "java/lang/String"))) (by decide +kernel) rfl (Nat.le_of_ble_eq_true rfl) ?_
  intro p e s0 m args below meth c A Q ls hA2 hQ hx hb hr hlocks hml hown hin hta hA hX0 hK hNs hP hD hS hl
  have hown : s0.vm.findClass RX4 = some m.cls := hown
  have hl : lv_has ls 1 [(0, .int kd)] := hl
  have hAb := kAb hA2 hX0.1 (kB0)
  have hE := hX0.2.narrow hAb
  refine lv_iload_n hx hb dX4_formOf_0 rfl (lv_at hl 0 rfl) ?_
  by_cases c1 : kd = 100
  · refine lv_lookup (off := 63) (tgt := 64) hx hb dX4_formOf_1 (by decide) (by rw [c1]; decide) (by decide) ?_
    refine va_ldcS (index := 81) (tx := kTx 4) (q := ad 4) hx hb hown (hE.2.1 4 (by decide)) dX4_formOf_64 ?_
    exact karet (4) hQ hx hb hr hlocks hP hS dX4_formOf_66 rfl (by unfold cFx; rw [if_pos c1])
  · by_cases c2 : kd = 102
    · refine lv_lookup (off := 51) (tgt := 52) hx hb dX4_formOf_1 (by decide) (by rw [c2]; decide) (by decide) ?_
      refine va_ldcS (index := 73) (tx := kTx 0) (q := ad 0) hx hb hown (hE.2.1 0 (by decide)) dX4_formOf_52 ?_
      exact karet (0) hQ hx hb hr hlocks hP hS dX4_formOf_54 rfl (by unfold cFx; rw [if_neg c1, if_pos c2])
    · by_cases c3 : kd = 108
      · refine lv_lookup (off := 57) (tgt := 58) hx hb dX4_formOf_1 (by decide) (by rw [c3]; decide) (by decide) ?_
        refine va_ldcS (index := 77) (tx := kTx 2) (q := ad 2) hx hb hown (hE.2.1 2 (by decide)) dX4_formOf_58 ?_
        exact karet (2) hQ hx hb hr hlocks hP hS dX4_formOf_60 rfl (by unfold cFx; rw [if_neg c1, if_neg c2, if_pos c3])
      · by_cases c4 : kd = 113
        · refine lv_lookup (off := 54) (tgt := 55) hx hb dX4_formOf_1 (by decide) (by rw [c4]; decide) (by decide) ?_
          refine va_ldcS (index := 75) (tx := kTx 1) (q := ad 1) hx hb hown (hE.2.1 1 (by decide)) dX4_formOf_55 ?_
          exact karet (1) hQ hx hb hr hlocks hP hS dX4_formOf_57 rfl (by unfold cFx; rw [if_neg c1, if_neg c2, if_neg c3, if_pos c4])
        · by_cases c5 : kd = 115
          · refine lv_lookup (off := 60) (tgt := 61) hx hb dX4_formOf_1 (by decide) (by rw [c5]; decide) (by decide) ?_
            refine va_ldcS (index := 79) (tx := kTx 3) (q := ad 3) hx hb hown (hE.2.1 3 (by decide)) dX4_formOf_61 ?_
            exact karet (3) hQ hx hb hr hlocks hP hS dX4_formOf_63 rfl (by unfold cFx; rw [if_neg c1, if_neg c2, if_neg c3, if_neg c4, if_pos c5])
          · refine lv_lookup (off := 66) (tgt := 67) hx hb dX4_formOf_1 (by decide) (by have q0 : ¬ kd.toInt = 100 := fun h => c1 (Int32.toInt_inj.mp (h.trans (by decide))); have q1 : ¬ kd.toInt = 102 := fun h => c2 (Int32.toInt_inj.mp (h.trans (by decide))); have q2 : ¬ kd.toInt = 108 := fun h => c3 (Int32.toInt_inj.mp (h.trans (by decide))); have q3 : ¬ kd.toInt = 113 := fun h => c4 (Int32.toInt_inj.mp (h.trans (by decide))); have q4 : ¬ kd.toInt = 115 := fun h => c5 (Int32.toInt_inj.mp (h.trans (by decide))); simp [Op.lookupswitch.offset, q0, Ne.symm q0, q1, Ne.symm q1, q2, Ne.symm q2, q3, Ne.symm q3, q4, Ne.symm q4]) (by decide) ?_
            refine va_ldcS (index := 83) (tx := kTx 5) (q := ad 5) hx hb hown (hE.2.1 5 (by decide)) dX4_formOf_67 ?_
            exact karet (5) hQ hx hb hr hlocks hP hS dX4_formOf_69 rfl (by unfold cFx; rw [if_neg c1, if_neg c2, if_neg c3, if_neg c4, if_neg c5])
