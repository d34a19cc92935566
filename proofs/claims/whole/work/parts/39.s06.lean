set_option maxHeartbeats 4000000 in
set_option maxRecDepth 100000 in
theorem c_X4_readPart (l : Launch) (D : va_G) (Y : Nat → ClassId) (d : Nat → Nat) (P : Nat → Int32) (n a : Nat) (kd : Int32) (V : Nat → Int32) (vc : Nat) (ch : Int32) (h80 : n ≤ 80) (ha : a ≤ n) (hv : vc ≤ 4) : kM l yX4_readPart wX4_readPart rX4_readPart D Y (wP Y d P n a kd V vc) [.ref (d 0), .int ch] kX0 (kQi D (fun r u => r = kb ((cPart P n ch a V vc).1 = true) ∧ u = (cPart P n ch a V vc).2) (fun u => wP Y d P n u.1 kd u.2.1 u.2.2)) := by
  refine kentry (cc := cX4_readPart) (maxL := 2) (ret := (some .boolean)) (by decide +kernel) rfl (Nat.le_of_ble_eq_true rfl) ?_
  intro p e s0 m args below meth c A Q ls hQ hx hb hr hlocks hml hown hin hta hA hX0 hK hNs hP hD hS hl
  have hown : s0.vm.findClass RX4 = some m.cls := hown
  have hl : lv_has ls 2 [(0, .ref (d 0)), (1, .int ch)] := hl
  refine lv_iload_n hx hb dX4_readPart_0 rfl (lv_at hl 1 rfl) ?_
  by_cases c1 : ch = 68
  · refine lv_lookup (off := 27) (tgt := 28) hx hb dX4_readPart_1 (by decide) (by rw [c1]; decide) (by decide) ?_
    refine lv_aload_n hx hb dX4_readPart_28 rfl (lv_at hl 0 rfl) ?_
    refine kc_i (krV (As := []) (rest := []) (c_X4_readDigit l D Y d P n a kd V vc h80 ha hv) ⟨hx, hb, hml, hown, hta⟩ (cwX4_85 hta ⟨Nat.le_of_ble_eq_true rfl, Nat.le_of_ble_eq_true rfl⟩) kX0b (fun _ _ _ => trivial) hK hNs hP hD (kJ_all) (q0 := 0) rfl rfl rfl rfl hl.1 rfl (Nat.le_of_ble_eq_true rfl) dX4_readPart_29 ⟨Nat.le_of_ble_eq_true rfl, Nat.le_of_ble_eq_true rfl⟩) hP hD hS hA (kJ_all) (fun _ => rfl) (fun r2 u H locs hw hP hD hS => ?_)
    obtain ⟨rfl, rfl⟩ := hw
    have hP : va_P D vwCl (wP Y d P n ((cDg P n a V vc).2.1) kd ((cDg P n a V vc).2.2.1) ((cDg P n a V vc).2.2.2)) H := hP
    have hD : va_D A (wP Y d P n ((cDg P n a V vc).2.1) kd ((cDg P n a V vc).2.2.1) ((cDg P n a V vc).2.2.2)) := hD
    exact kzret ((((cDg P n a V vc).2.1), ((cDg P n a V vc).2.2.1), ((cDg P n a V vc).2.2.2))) hQ hx hb hr hlocks hP hS dX4_readPart_32 (by first | exact Or.inl rfl | exact Or.inr rfl | exact kb_01 _) (by unfold cPart; rw [if_pos c1]; unfold cDg; by_cases hz : pAt P n a 48 53; (rw [if_pos hz]; exact ⟨(kb_t hz).trans (kb_t rfl).symm, rfl⟩); (rw [if_neg hz]; exact ⟨(kb_f hz).trans (kb_f (fun h => Bool.noConfusion h)).symm, rfl⟩))
  · by_cases c3 : ch = 78
    · refine lv_lookup (off := 32) (tgt := 33) hx hb dX4_readPart_1 (by decide) (by rw [c3]; decide) (by decide) ?_
      refine lv_aload_n hx hb dX4_readPart_33 rfl (lv_at hl 0 rfl) ?_
      refine kc_i (krV (As := []) (rest := []) (c_X4_readNumber l D Y d P n a kd V vc h80 ha hv) ⟨hx, hb, hml, hown, hta⟩ (cwX4_88 hta ⟨Nat.le_of_ble_eq_true rfl, Nat.le_of_ble_eq_true rfl⟩) kX0b (fun _ _ _ => trivial) hK hNs hP hD (kJ_all) (q0 := 0) rfl rfl rfl rfl hl.1 rfl (Nat.le_of_ble_eq_true rfl) dX4_readPart_34 ⟨Nat.le_of_ble_eq_true rfl, Nat.le_of_ble_eq_true rfl⟩) hP hD hS hA (kJ_all) (fun _ => rfl) (fun r4 u H locs hw hP hD hS => ?_)
      obtain ⟨rfl, rfl⟩ := hw
      have hP : va_P D vwCl (wP Y d P n ((cNm P n a V vc).2.1) kd ((cNm P n a V vc).2.2.1) ((cNm P n a V vc).2.2.2)) H := hP
      have hD : va_D A (wP Y d P n ((cNm P n a V vc).2.1) kd ((cNm P n a V vc).2.2.1) ((cNm P n a V vc).2.2.2)) := hD
      exact kzret ((((cNm P n a V vc).2.1), ((cNm P n a V vc).2.2.1), ((cNm P n a V vc).2.2.2))) hQ hx hb hr hlocks hP hS dX4_readPart_37 (by first | exact Or.inl rfl | exact Or.inr rfl | exact kb_01 _) (by unfold cPart; rw [if_neg c1, if_pos c3]; unfold cNm; by_cases hz : pAt P n a 48 57; (rw [if_pos hz]; exact ⟨(kb_t hz).trans (kb_t rfl).symm, rfl⟩); (rw [if_neg hz]; exact ⟨(kb_f hz).trans (kb_f (fun h => Bool.noConfusion h)).symm, rfl⟩))
    · refine lv_lookup (off := 37) (tgt := 38) hx hb dX4_readPart_1 (by decide) (by have q0 : ¬ ch.toInt = 68 := fun h => c1 (Int32.toInt_inj.mp (h.trans (by decide))); have q1 : ¬ ch.toInt = 78 := fun h => c3 (Int32.toInt_inj.mp (h.trans (by decide))); simp [Op.lookupswitch.offset, q0, Ne.symm q0, q1, Ne.symm q1]) (by decide) ?_
      refine lv_aload_n hx hb dX4_readPart_38 rfl (lv_at hl 0 rfl) ?_
      refine lv_iload_n hx hb dX4_readPart_39 rfl (lv_at hl 1 rfl) ?_
      refine kc_i (krV (As := [.int ch]) (rest := []) (c_X4_readSign l D Y d P n a kd V vc ch h80 ha hv) ⟨hx, hb, hml, hown, hta⟩ (cwX4_43 hta ⟨Nat.le_of_ble_eq_true rfl, Nat.le_of_ble_eq_true rfl⟩) kX0b (fun _ _ _ => trivial) hK hNs hP hD (kJ_all) (q0 := 0) rfl rfl rfl rfl hl.1 rfl (Nat.le_of_ble_eq_true rfl) dX4_readPart_40 ⟨Nat.le_of_ble_eq_true rfl, Nat.le_of_ble_eq_true rfl⟩) hP hD hS hA (kJ_all) (fun _ => rfl) (fun r5 u H locs hw hP hD hS => ?_)
      obtain ⟨rfl, rfl⟩ := hw
      have hP : va_P D vwCl (wP Y d P n (pSg P n a ch ch) kd V vc) H := hP
      have hD : va_D A (wP Y d P n (pSg P n a ch ch) kd V vc) := hD
      exact kzret (((pSg P n a ch ch), (V), (vc))) hQ hx hb hr hlocks hP hS dX4_readPart_43 (by first | exact Or.inl rfl | exact Or.inr rfl | exact kb_01 _) (by unfold cPart; rw [if_neg c1, if_neg c3]; refine ⟨?_, rfl⟩; unfold cSn; by_cases hz : pAt P n a ch ch; (rw [kb_t hz]; exact (kb_t (decide_eq_true hz)).symm); (rw [kb_f hz]; exact (kb_f (fun h => hz (of_decide_eq_true h))).symm))
