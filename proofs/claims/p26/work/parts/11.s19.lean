set_option maxHeartbeats 4000000 in
set_option maxRecDepth 100000 in
theorem c_X3_numberOfGrower (l : Launch) (D : va_G) (Y : Nat → ClassId) (a : Nat → Nat) (M : kN) (q w : Int32) (hI : cI M) : kM l yX3_numberOfGrower wX3_numberOfGrower rX3_numberOfGrower D Y (wM Y a M) [.ref (a 0), .int q, .int w] kX0 (kQi D (fun r (_ : Unit) => r = cOfGrower M q w) (fun _ => wM Y a M)) := by
  refine kentry (cc := cX3_numberOfGrower) (maxL := 3) (ret := (some .int)) (by decide +kernel) rfl (Nat.le_of_ble_eq_true rfl) ?_
  intro p e s m args below meth c A Q ls hQ hx hb hr hlocks hml hown hin hta hA hX hK hNs hP hD hS hl
  have hown : s.vm.findClass RX3 = some m.cls := hown
  have hl : lv_has ls 3 [(0, .ref (a 0)), (1, .int q), (2, .int w)] := hl
  refine lv_iload_n hx hb dX3_numberOfGrower_0 rfl (lv_at hl 1 rfl) ?_
  refine kc_i (krSN (As := [.int q]) (rest := []) (c_X7_isGrower l D Y q) ⟨hx, hb, hml, hown, hta⟩ (cwX3_83 hta hNs ⟨Nat.le_of_ble_eq_true rfl, Nat.le_of_ble_eq_true rfl⟩) kX0b (fun _ _ _ => trivial) hK hNs hP hD (kJ_nil) rfl hl.1 rfl (Nat.le_of_ble_eq_true rfl) dX3_numberOfGrower_1 ⟨Nat.le_of_ble_eq_true rfl, Nat.le_of_ble_eq_true rfl⟩) hP hD hS hA (kJ_nil) (fun _ => rfl) (fun r1 u H locs hw hP hD hS => ?_)
  subst hw
  have hP : va_P D vwCl (wM Y a M) H := hP
  have hD : va_D A (wM Y a M) := hD
  by_cases c2 : pIn q 0 5
  · refine kTop (kb_t c2) ?_
    refine lv_if_ne (tgt := 9) hx hb dX3_numberOfGrower_4 (by decide) (fun _ => ?_) (fun h => False.elim (by revert h; decide))
    obtain ⟨k, rfl, hkl, hkh⟩ := pIn_nat c2 (show (0 : Int32) = nI 0 from rfl) (show (5 : Int32) = nI 5 from rfl) (by omega) (by omega)
    refine lv_iload_n hx hb dX3_numberOfGrower_9 rfl (lv_at hl 2 rfl) ?_
    by_cases c3 : w = 0
    · refine lv_tableIn (off := 38) (tgt := 48) hx hb dX3_numberOfGrower_10 (by rw [c3]; decide) (by rw [c3]; decide) (by rw [c3]; rfl) (by decide) ?_
      refine lv_aload_n hx hb dX3_numberOfGrower_48 rfl (lv_at hl 0 rfl) ?_
      refine gfX3_18 (v := .ref (a 2)) hx hb hta hown hK hP 0 rfl rfl dX3_numberOfGrower_49 ?_
      refine gfX3_87 (v := .ref (a 3)) hx hb hta hown hK hP 2 rfl rfl dX3_numberOfGrower_52 ?_
      refine lv_iload_n hx hb dX3_numberOfGrower_55 rfl (lv_at hl 1 rfl) ?_
      refine kiald (f := M 1) hx hb hK hP 3 rfl k rfl (by omega) (by omega) dX3_numberOfGrower_56 ?_
      exact kiret (()) hQ hx hb hr hlocks hP hS dX3_numberOfGrower_57 (by unfold cOfGrower; rw [if_pos c2, if_pos c3] <;> rw [nI_clamp (by omega)])
    · by_cases c4 : w = 1
      · refine lv_tableIn (off := 48) (tgt := 58) hx hb dX3_numberOfGrower_10 (by rw [c4]; decide) (by rw [c4]; decide) (by rw [c4]; rfl) (by decide) ?_
        refine lv_aload_n hx hb dX3_numberOfGrower_58 rfl (lv_at hl 0 rfl) ?_
        refine gfX3_18 (v := .ref (a 2)) hx hb hta hown hK hP 0 rfl rfl dX3_numberOfGrower_59 ?_
        refine gfX3_162 (v := .ref (a 4)) hx hb hta hown hK hP 2 rfl rfl dX3_numberOfGrower_62 ?_
        refine lv_iload_n hx hb dX3_numberOfGrower_65 rfl (lv_at hl 1 rfl) ?_
        refine kiald (f := M 2) hx hb hK hP 4 rfl k rfl (by omega) (by omega) dX3_numberOfGrower_66 ?_
        exact kiret (()) hQ hx hb hr hlocks hP hS dX3_numberOfGrower_67 (by unfold cOfGrower; rw [if_pos c2, if_neg c3, if_pos c4] <;> rw [nI_clamp (by omega)])
      · by_cases c5 : w = 2
        · refine lv_tableIn (off := 58) (tgt := 68) hx hb dX3_numberOfGrower_10 (by rw [c5]; decide) (by rw [c5]; decide) (by rw [c5]; rfl) (by decide) ?_
          refine lv_aload_n hx hb dX3_numberOfGrower_68 rfl (lv_at hl 0 rfl) ?_
          refine gfX3_18 (v := .ref (a 2)) hx hb hta hown hK hP 0 rfl rfl dX3_numberOfGrower_69 ?_
          refine gfX3_194 (v := .ref (a 5)) hx hb hta hown hK hP 2 rfl rfl dX3_numberOfGrower_72 ?_
          refine lv_iload_n hx hb dX3_numberOfGrower_75 rfl (lv_at hl 1 rfl) ?_
          refine kiald (f := M 3) hx hb hK hP 5 rfl k rfl (by omega) (by omega) dX3_numberOfGrower_76 ?_
          exact kiret (()) hQ hx hb hr hlocks hP hS dX3_numberOfGrower_77 (by unfold cOfGrower; rw [if_pos c2, if_neg c3, if_neg c4, if_pos c5] <;> rw [nI_clamp (by omega)])
        · by_cases c6 : w = 3
          · refine lv_tableIn (off := 68) (tgt := 78) hx hb dX3_numberOfGrower_10 (by rw [c6]; decide) (by rw [c6]; decide) (by rw [c6]; rfl) (by decide) ?_
            refine lv_aload_n hx hb dX3_numberOfGrower_78 rfl (lv_at hl 0 rfl) ?_
            refine gfX3_18 (v := .ref (a 2)) hx hb hta hown hK hP 0 rfl rfl dX3_numberOfGrower_79 ?_
            refine gfX3_116 (v := .ref (a 6)) hx hb hta hown hK hP 2 rfl rfl dX3_numberOfGrower_82 ?_
            refine lv_iload_n hx hb dX3_numberOfGrower_85 rfl (lv_at hl 1 rfl) ?_
            refine kiald (f := M 4) hx hb hK hP 6 rfl k rfl (by omega) (by omega) dX3_numberOfGrower_86 ?_
            exact kiret (()) hQ hx hb hr hlocks hP hS dX3_numberOfGrower_87 (by unfold cOfGrower; rw [if_pos c2, if_neg c3, if_neg c4, if_neg c5, if_pos c6] <;> rw [nI_clamp (by omega)])
          · by_cases c7 : w = 4
            · refine lv_tableIn (off := 78) (tgt := 88) hx hb dX3_numberOfGrower_10 (by rw [c7]; decide) (by rw [c7]; decide) (by rw [c7]; rfl) (by decide) ?_
              refine lv_aload_n hx hb dX3_numberOfGrower_88 rfl (lv_at hl 0 rfl) ?_
              refine gfX3_18 (v := .ref (a 2)) hx hb hta hown hK hP 0 rfl rfl dX3_numberOfGrower_89 ?_
              refine gfX3_191 (v := .ref (a 7)) hx hb hta hown hK hP 2 rfl rfl dX3_numberOfGrower_92 ?_
              refine lv_iload_n hx hb dX3_numberOfGrower_95 rfl (lv_at hl 1 rfl) ?_
              refine kiald (f := M 5) hx hb hK hP 7 rfl k rfl (by omega) (by omega) dX3_numberOfGrower_96 ?_
              exact kiret (()) hQ hx hb hr hlocks hP hS dX3_numberOfGrower_97 (by unfold cOfGrower; rw [if_pos c2, if_neg c3, if_neg c4, if_neg c5, if_neg c6, if_pos c7] <;> rw [nI_clamp (by omega)])
            · by_cases c8 : w = 5
              · refine lv_tableIn (off := 88) (tgt := 98) hx hb dX3_numberOfGrower_10 (by rw [c8]; decide) (by rw [c8]; decide) (by rw [c8]; rfl) (by decide) ?_
                refine lv_aload_n hx hb dX3_numberOfGrower_98 rfl (lv_at hl 0 rfl) ?_
                refine gfX3_25 (v := .ref (a 8)) hx hb hta hown hK hP 0 rfl rfl dX3_numberOfGrower_99 ?_
                refine lv_iload_n hx hb dX3_numberOfGrower_102 rfl (lv_at hl 1 rfl) ?_
                refine lv_aload_n hx hb dX3_numberOfGrower_103 rfl (lv_at hl 0 rfl) ?_
                refine gfX3_60 (v := .int (M 19 0)) hx hb hta hown hK hP 0 rfl rfl dX3_numberOfGrower_104 ?_
                refine kc_i (krV (As := [.int (nI k), .int (M 19 0)]) (rest := []) (c_X0_burntCaneOf l D Y a M (nI k) (M 19 0) hI) ⟨hx, hb, hml, hown, hta⟩ (cwX3_203 hta ⟨Nat.le_of_ble_eq_true rfl, Nat.le_of_ble_eq_true rfl⟩) kX0b (fun _ _ _ => trivial) hK hNs hP hD (kJ_all) (q0 := 8) rfl rfl rfl rfl hl.1 rfl (Nat.le_of_ble_eq_true rfl) dX3_numberOfGrower_107 ⟨Nat.le_of_ble_eq_true rfl, Nat.le_of_ble_eq_true rfl⟩) hP hD hS hA (kJ_all) (fun _ => rfl) (fun r9 u H locs hw hP hD hS => ?_)
                subst hw
                have hP : va_P D vwCl (wM Y a M) H := hP
                have hD : va_D A (wM Y a M) := hD
                exact kiret (()) hQ hx hb hr hlocks hP hS dX3_numberOfGrower_110 (by unfold cOfGrower; rw [if_pos c2, if_neg c3, if_neg c4, if_neg c5, if_neg c6, if_neg c7, if_pos c8])
              · refine lv_tableOut (tgt := 111) hx hb dX3_numberOfGrower_10 (by have := fun z : Int => (fun h : w.toInt = z => h); have q0 : ¬ w.toInt = 0 := fun h => c3 (Int32.toInt_inj.mp (h.trans (by decide))); have q1 : ¬ w.toInt = 1 := fun h => c4 (Int32.toInt_inj.mp (h.trans (by decide))); have q2 : ¬ w.toInt = 2 := fun h => c5 (Int32.toInt_inj.mp (h.trans (by decide))); have q3 : ¬ w.toInt = 3 := fun h => c6 (Int32.toInt_inj.mp (h.trans (by decide))); have q4 : ¬ w.toInt = 4 := fun h => c7 (Int32.toInt_inj.mp (h.trans (by decide))); have q5 : ¬ w.toInt = 5 := fun h => c8 (Int32.toInt_inj.mp (h.trans (by decide))); omega) (by decide) ?_
                refine lv_bipush (v := (-2)) hx hb dX3_numberOfGrower_111 (by decide) ?_
                exact kiret (()) hQ hx hb hr hlocks hP hS dX3_numberOfGrower_113 (by unfold cOfGrower; rw [if_pos c2, if_neg c3, if_neg c4, if_neg c5, if_neg c6, if_neg c7, if_neg c8])
  · refine kTop (kb_f c2) ?_
    refine lv_if_ne (tgt := 9) hx hb dX3_numberOfGrower_4 (by decide) (fun h => False.elim (by revert h; decide)) (fun _ => ?_)
    refine lv_iconst (v := (-1)) hx hb dX3_numberOfGrower_7 (by decide) ?_
    exact kiret (()) hQ hx hb hr hlocks hP hS dX3_numberOfGrower_8 (by unfold cOfGrower; rw [if_neg c2])
