set_option maxHeartbeats 4000000 in
set_option maxRecDepth 100000 in
theorem c_X8_isFor (l : Launch) (D : va_G) (Y : Nat → ClassId) (k v : Int32) : kM l yX8_isFor wX8_isFor rX8_isFor D Y ([]) [.int k, .int v] kX0 (kQi D (fun r (_ : Unit) => r = kb (pIn v (sLo k) (sHi k))) (fun _ => [])) := by
  refine kentry (cc := cX8_isFor) (maxL := 2) (ret := (some .boolean)) (by decide +kernel) rfl (Nat.le_of_ble_eq_true rfl) ?_
  intro p e s0 m args below meth c A Q ls hQ hx hb hr hlocks hml hown hin hta hA hX0 hK hNs hP hD hS hl
  have hown : s0.vm.findClass RX8 = some m.cls := hown
  have hl : lv_has ls 2 [(0, .int k), (1, .int v)] := hl
  refine lv_iload_n hx hb dX8_isFor_0 rfl (lv_at hl 0 rfl) ?_
  by_cases c1 : k = 0
  · refine lv_tableIn (off := 39) (tgt := 40) hx hb dX8_isFor_1 (by rw [c1]; decide) (by rw [c1]; decide) (by rw [c1]; rfl) (by decide) ?_
    refine lv_iload_n hx hb dX8_isFor_40 rfl (lv_at hl 1 rfl) ?_
    refine lv_iconst (v := 0) hx hb dX8_isFor_41 (by decide) ?_
    refine lv_bipush (v := 20) hx hb dX8_isFor_42 (by decide) ?_
    refine kc_i (krS (As := [.int v, .int 0, .int 20]) (rest := []) (c_X8_in l D Y v 0 20) ⟨hx, hb, hml, hown, hta⟩ (cwX8_32 hta ⟨Nat.le_of_ble_eq_true rfl, Nat.le_of_ble_eq_true rfl⟩) kX0b (fun _ _ _ => trivial) hK hNs hP hD (kJ_nil) rfl hl.1 rfl (Nat.le_of_ble_eq_true rfl) dX8_isFor_44 ⟨Nat.le_of_ble_eq_true rfl, Nat.le_of_ble_eq_true rfl⟩) hP hD hS hA (kJ_nil) (fun _ => rfl) (fun r2 u H locs hw hP hD hS => ?_)
    subst hw
    have hP : va_P D vwCl ([]) H := hP
    have hD : va_D A ([]) := hD
    exact kzret (()) hQ hx hb hr hlocks hP hS dX8_isFor_47 (by first | exact Or.inl rfl | exact Or.inr rfl | exact kb_01 _) (by have e1 : sLo k = 0 := (by unfold sLo; rw [if_pos c1]); have e2 : sHi k = 20 := (by unfold sHi; rw [if_pos c1]); rw [e1, e2])
  · by_cases c3 : k = 1
    · refine lv_tableIn (off := 47) (tgt := 48) hx hb dX8_isFor_1 (by rw [c3]; decide) (by rw [c3]; decide) (by rw [c3]; rfl) (by decide) ?_
      refine lv_iload_n hx hb dX8_isFor_48 rfl (lv_at hl 1 rfl) ?_
      refine lv_iconst (v := 1) hx hb dX8_isFor_49 (by decide) ?_
      refine lv_bipush (v := 30) hx hb dX8_isFor_50 (by decide) ?_
      refine kc_i (krS (As := [.int v, .int 1, .int 30]) (rest := []) (c_X8_in l D Y v 1 30) ⟨hx, hb, hml, hown, hta⟩ (cwX8_32 hta ⟨Nat.le_of_ble_eq_true rfl, Nat.le_of_ble_eq_true rfl⟩) kX0b (fun _ _ _ => trivial) hK hNs hP hD (kJ_nil) rfl hl.1 rfl (Nat.le_of_ble_eq_true rfl) dX8_isFor_52 ⟨Nat.le_of_ble_eq_true rfl, Nat.le_of_ble_eq_true rfl⟩) hP hD hS hA (kJ_nil) (fun _ => rfl) (fun r4 u H locs hw hP hD hS => ?_)
      subst hw
      have hP : va_P D vwCl ([]) H := hP
      have hD : va_D A ([]) := hD
      exact kzret (()) hQ hx hb hr hlocks hP hS dX8_isFor_55 (by first | exact Or.inl rfl | exact Or.inr rfl | exact kb_01 _) (by have e1 : sLo k = 1 := (by unfold sLo; rw [if_neg c1, if_pos c3]); have e2 : sHi k = 30 := (by unfold sHi; rw [if_neg c1, if_pos c3]); rw [e1, e2])
    · by_cases c5 : k = 2
      · refine lv_tableIn (off := 55) (tgt := 56) hx hb dX8_isFor_1 (by rw [c5]; decide) (by rw [c5]; decide) (by rw [c5]; rfl) (by decide) ?_
        refine lv_iload_n hx hb dX8_isFor_56 rfl (lv_at hl 1 rfl) ?_
        refine lv_iconst (v := 1) hx hb dX8_isFor_57 (by decide) ?_
        refine lv_sipush (v := 200) hx hb dX8_isFor_58 (by decide) ?_
        refine kc_i (krS (As := [.int v, .int 1, .int 200]) (rest := []) (c_X8_in l D Y v 1 200) ⟨hx, hb, hml, hown, hta⟩ (cwX8_32 hta ⟨Nat.le_of_ble_eq_true rfl, Nat.le_of_ble_eq_true rfl⟩) kX0b (fun _ _ _ => trivial) hK hNs hP hD (kJ_nil) rfl hl.1 rfl (Nat.le_of_ble_eq_true rfl) dX8_isFor_61 ⟨Nat.le_of_ble_eq_true rfl, Nat.le_of_ble_eq_true rfl⟩) hP hD hS hA (kJ_nil) (fun _ => rfl) (fun r6 u H locs hw hP hD hS => ?_)
        subst hw
        have hP : va_P D vwCl ([]) H := hP
        have hD : va_D A ([]) := hD
        exact kzret (()) hQ hx hb hr hlocks hP hS dX8_isFor_64 (by first | exact Or.inl rfl | exact Or.inr rfl | exact kb_01 _) (by have e1 : sLo k = 1 := (by unfold sLo; rw [if_neg c1, if_neg c3, if_pos c5]); have e2 : sHi k = 200 := (by unfold sHi; rw [if_neg c1, if_neg c3, if_pos c5]); rw [e1, e2])
      · by_cases c7 : k = 3
        · refine lv_tableIn (off := 64) (tgt := 65) hx hb dX8_isFor_1 (by rw [c7]; decide) (by rw [c7]; decide) (by rw [c7]; rfl) (by decide) ?_
          refine lv_iload_n hx hb dX8_isFor_65 rfl (lv_at hl 1 rfl) ?_
          refine lv_iconst (v := 0) hx hb dX8_isFor_66 (by decide) ?_
          refine lv_sipush (v := 400) hx hb dX8_isFor_67 (by decide) ?_
          refine kc_i (krS (As := [.int v, .int 0, .int 400]) (rest := []) (c_X8_in l D Y v 0 400) ⟨hx, hb, hml, hown, hta⟩ (cwX8_32 hta ⟨Nat.le_of_ble_eq_true rfl, Nat.le_of_ble_eq_true rfl⟩) kX0b (fun _ _ _ => trivial) hK hNs hP hD (kJ_nil) rfl hl.1 rfl (Nat.le_of_ble_eq_true rfl) dX8_isFor_70 ⟨Nat.le_of_ble_eq_true rfl, Nat.le_of_ble_eq_true rfl⟩) hP hD hS hA (kJ_nil) (fun _ => rfl) (fun r8 u H locs hw hP hD hS => ?_)
          subst hw
          have hP : va_P D vwCl ([]) H := hP
          have hD : va_D A ([]) := hD
          exact kzret (()) hQ hx hb hr hlocks hP hS dX8_isFor_73 (by first | exact Or.inl rfl | exact Or.inr rfl | exact kb_01 _) (by have e1 : sLo k = 0 := (by unfold sLo; rw [if_neg c1, if_neg c3, if_neg c5, if_pos c7]); have e2 : sHi k = 400 := (by unfold sHi; rw [if_neg c1, if_neg c3, if_neg c5, if_pos c7]); rw [e1, e2])
        · by_cases c9 : k = 4
          · refine lv_tableIn (off := 73) (tgt := 74) hx hb dX8_isFor_1 (by rw [c9]; decide) (by rw [c9]; decide) (by rw [c9]; rfl) (by decide) ?_
            refine lv_iload_n hx hb dX8_isFor_74 rfl (lv_at hl 1 rfl) ?_
            refine lv_iconst (v := 0) hx hb dX8_isFor_75 (by decide) ?_
            refine lv_bipush (v := 100) hx hb dX8_isFor_76 (by decide) ?_
            refine kc_i (krS (As := [.int v, .int 0, .int 100]) (rest := []) (c_X8_in l D Y v 0 100) ⟨hx, hb, hml, hown, hta⟩ (cwX8_32 hta ⟨Nat.le_of_ble_eq_true rfl, Nat.le_of_ble_eq_true rfl⟩) kX0b (fun _ _ _ => trivial) hK hNs hP hD (kJ_nil) rfl hl.1 rfl (Nat.le_of_ble_eq_true rfl) dX8_isFor_78 ⟨Nat.le_of_ble_eq_true rfl, Nat.le_of_ble_eq_true rfl⟩) hP hD hS hA (kJ_nil) (fun _ => rfl) (fun r10 u H locs hw hP hD hS => ?_)
            subst hw
            have hP : va_P D vwCl ([]) H := hP
            have hD : va_D A ([]) := hD
            exact kzret (()) hQ hx hb hr hlocks hP hS dX8_isFor_81 (by first | exact Or.inl rfl | exact Or.inr rfl | exact kb_01 _) (by have e1 : sLo k = 0 := (by unfold sLo; rw [if_neg c1, if_neg c3, if_neg c5, if_neg c7, if_pos c9]); have e2 : sHi k = 100 := (by unfold sHi; rw [if_neg c1, if_neg c3, if_neg c5, if_neg c7, if_pos c9]); rw [e1, e2])
          · by_cases c11 : k = 5
            · refine lv_tableIn (off := 81) (tgt := 82) hx hb dX8_isFor_1 (by rw [c11]; decide) (by rw [c11]; decide) (by rw [c11]; rfl) (by decide) ?_
              refine lv_iload_n hx hb dX8_isFor_82 rfl (lv_at hl 1 rfl) ?_
              refine lv_iconst (v := 1) hx hb dX8_isFor_83 (by decide) ?_
              refine lv_bipush (v := 20) hx hb dX8_isFor_84 (by decide) ?_
              refine kc_i (krS (As := [.int v, .int 1, .int 20]) (rest := []) (c_X8_in l D Y v 1 20) ⟨hx, hb, hml, hown, hta⟩ (cwX8_32 hta ⟨Nat.le_of_ble_eq_true rfl, Nat.le_of_ble_eq_true rfl⟩) kX0b (fun _ _ _ => trivial) hK hNs hP hD (kJ_nil) rfl hl.1 rfl (Nat.le_of_ble_eq_true rfl) dX8_isFor_86 ⟨Nat.le_of_ble_eq_true rfl, Nat.le_of_ble_eq_true rfl⟩) hP hD hS hA (kJ_nil) (fun _ => rfl) (fun r12 u H locs hw hP hD hS => ?_)
              subst hw
              have hP : va_P D vwCl ([]) H := hP
              have hD : va_D A ([]) := hD
              exact kzret (()) hQ hx hb hr hlocks hP hS dX8_isFor_89 (by first | exact Or.inl rfl | exact Or.inr rfl | exact kb_01 _) (by have e1 : sLo k = 1 := (by unfold sLo; rw [if_neg c1, if_neg c3, if_neg c5, if_neg c7, if_neg c9, if_pos c11]); have e2 : sHi k = 20 := (by unfold sHi; rw [if_neg c1, if_neg c3, if_neg c5, if_neg c7, if_neg c9, if_pos c11]); rw [e1, e2])
            · refine lv_tableOut (tgt := 90) hx hb dX8_isFor_1 (by have := fun z : Int => (fun h : k.toInt = z => h); have q0 : ¬ k.toInt = 0 := fun h => c1 (Int32.toInt_inj.mp (h.trans (by decide))); have q1 : ¬ k.toInt = 1 := fun h => c3 (Int32.toInt_inj.mp (h.trans (by decide))); have q2 : ¬ k.toInt = 2 := fun h => c5 (Int32.toInt_inj.mp (h.trans (by decide))); have q3 : ¬ k.toInt = 3 := fun h => c7 (Int32.toInt_inj.mp (h.trans (by decide))); have q4 : ¬ k.toInt = 4 := fun h => c9 (Int32.toInt_inj.mp (h.trans (by decide))); have q5 : ¬ k.toInt = 5 := fun h => c11 (Int32.toInt_inj.mp (h.trans (by decide))); omega) (by decide) ?_
              refine lv_iload_n hx hb dX8_isFor_90 rfl (lv_at hl 1 rfl) ?_
              refine lv_iconst (v := 0) hx hb dX8_isFor_91 (by decide) ?_
              refine lv_sipush (v := 999) hx hb dX8_isFor_92 (by decide) ?_
              refine kc_i (krS (As := [.int v, .int 0, .int 999]) (rest := []) (c_X8_in l D Y v 0 999) ⟨hx, hb, hml, hown, hta⟩ (cwX8_32 hta ⟨Nat.le_of_ble_eq_true rfl, Nat.le_of_ble_eq_true rfl⟩) kX0b (fun _ _ _ => trivial) hK hNs hP hD (kJ_nil) rfl hl.1 rfl (Nat.le_of_ble_eq_true rfl) dX8_isFor_95 ⟨Nat.le_of_ble_eq_true rfl, Nat.le_of_ble_eq_true rfl⟩) hP hD hS hA (kJ_nil) (fun _ => rfl) (fun r13 u H locs hw hP hD hS => ?_)
              subst hw
              have hP : va_P D vwCl ([]) H := hP
              have hD : va_D A ([]) := hD
              exact kzret (()) hQ hx hb hr hlocks hP hS dX8_isFor_98 (by first | exact Or.inl rfl | exact Or.inr rfl | exact kb_01 _) (by have e1 : sLo k = 0 := (by unfold sLo; rw [if_neg c1, if_neg c3, if_neg c5, if_neg c7, if_neg c9, if_neg c11]); have e2 : sHi k = 999 := (by unfold sHi; rw [if_neg c1, if_neg c3, if_neg c5, if_neg c7, if_neg c9, if_neg c11]); rw [e1, e2])
