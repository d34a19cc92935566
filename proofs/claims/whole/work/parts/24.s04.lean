set_option maxHeartbeats 4000000 in
set_option maxRecDepth 100000 in
theorem c_X8_count (l : Launch) (D : va_G) (Y : Nat → ClassId) (b : Nat → Nat) (R : kN) (w : Int32) (hZ : mX (R 0)) : kM l yX8_count wX8_count rX8_count D Y (wR Y b R) [.ref (b 0), .int w] kX0 (kQi D (fun r (_ : Unit) => r = mCount R w) (fun _ => wR Y b R)) := by
  refine kentry (cc := cX8_count) (maxL := 2) (ret := (some .int)) (by decide +kernel) rfl (Nat.le_of_ble_eq_true rfl) ?_
  intro p e s0 m args below meth c A Q ls hQ hx hb hr hlocks hml hown hin hta hA hX0 hK hNs hP hD hS hl
  have hown : s0.vm.findClass RX8 = some m.cls := hown
  have hl : lv_has ls 2 [(0, .ref (b 0)), (1, .int w)] := hl
  refine lv_iload_n hx hb dX8_count_0 rfl (lv_at hl 1 rfl) ?_
  refine lv_iconst (v := 0) hx hb dX8_count_1 (by decide) ?_
  refine lv_bipush (v := 19) hx hb dX8_count_2 (by decide) ?_
  refine kc_i (krS (As := [.int w, .int 0, .int 19]) (rest := []) (c_X8_in l D Y w 0 19) ⟨hx, hb, hml, hown, hta⟩ (cwX8_32 hta ⟨Nat.le_of_ble_eq_true rfl, Nat.le_of_ble_eq_true rfl⟩) kX0b (fun _ _ _ => trivial) hK hNs hP hD (kJ_nil) rfl hl.1 rfl (Nat.le_of_ble_eq_true rfl) dX8_count_4 ⟨Nat.le_of_ble_eq_true rfl, Nat.le_of_ble_eq_true rfl⟩) hP hD hS hA (kJ_nil) (fun _ => rfl) (fun r1 u H locs hw hP hD hS => ?_)
  subst hw
  have hP : va_P D vwCl (wR Y b R) H := hP
  have hD : va_D A (wR Y b R) := hD
  by_cases c2 : pIn w 0 19
  · refine kTop (kb_t c2) ?_
    refine lv_if_ne (tgt := 13) hx hb dX8_count_7 (by decide) (fun _ => ?_) (fun h => False.elim (by revert h; decide))
    obtain ⟨wn, rfl, hwnl, hwnh⟩ := pIn_nat c2 (show (0 : Int32) = nI 0 from rfl) (show (19 : Int32) = nI 19 from rfl) (by omega) (by omega)
    refine lv_iload_n hx hb dX8_count_13 rfl (lv_at hl 1 rfl) ?_
    refine lv_iconst (v := 5) hx hb dX8_count_14 (by decide) ?_
    refine lv_icmp_ge (tgt := 56) hx hb dX8_count_15 (by decide) (fun c3 => ?_) (fun c3 => ?_)
    · have c3n : 5 ≤ wn := (nI_leI (a := 5) (b := wn) (by omega) (by omega)).mp c3
      refine lv_iload_n hx hb dX8_count_56 rfl (lv_at hl 1 rfl) ?_
      refine lv_bipush (v := 11) hx hb dX8_count_57 (by decide) ?_
      refine lv_icmp_ge (tgt := 76) hx hb dX8_count_59 (by decide) (fun c4 => ?_) (fun c4 => ?_)
      · have c4n : 11 ≤ wn := (nI_leI (a := 11) (b := wn) (by omega) (by omega)).mp c4
        refine lv_iload_n hx hb dX8_count_76 rfl (lv_at hl 1 rfl) ?_
        refine lv_bipush (v := 18) hx hb dX8_count_77 (by decide) ?_
        refine lv_icmp_ge (tgt := 96) hx hb dX8_count_79 (by decide) (fun c5 => ?_) (fun c5 => ?_)
        · have c5n : 18 ≤ wn := (nI_leI (a := 18) (b := wn) (by omega) (by omega)).mp c5
          refine lv_iload_n hx hb dX8_count_96 rfl (lv_at hl 1 rfl) ?_
          refine lv_bipush (v := 18) hx hb dX8_count_97 (by decide) ?_
          refine lv_icmp_ne (tgt := 109) hx hb dX8_count_99 (by decide) (fun c6 => ?_) (fun c6 => ?_)
          · have c6n : ¬ wn = 18 := fun h => c6 ((nI_eq (a := wn) (b := 18) (by omega) (by omega)).mpr h)
            refine lv_aload_n hx hb dX8_count_109 rfl (lv_at hl 0 rfl) ?_
            refine gfX8_36 (v := .int (R 7 0)) hx hb hta hown hK hP 0 rfl rfl dX8_count_110 ?_
            exact kiret (()) hQ hx hb hr hlocks hP hS dX8_count_113 (by unfold mCount; rw [nI_clamp (n := wn) (by omega), if_pos c2, if_pos c3, if_pos c4, if_pos c5, if_neg c6])
          · have c6n : wn = 18 := (nI_eq (a := wn) (b := 18) (by omega) (by omega)).mp c6
            refine lv_aload_n hx hb dX8_count_102 rfl (lv_at hl 0 rfl) ?_
            refine gfX8_143 (v := .int (R 7 1)) hx hb hta hown hK hP 0 rfl rfl dX8_count_103 ?_
            refine lv_goto (tgt := 113) hx hb dX8_count_106 (by decide) ?_
            exact kiret (()) hQ hx hb hr hlocks hP hS dX8_count_113 (by unfold mCount; rw [nI_clamp (n := wn) (by omega), if_pos c2, if_pos c3, if_pos c4, if_pos c5, if_pos c6])
        · have c5n : ¬ 18 ≤ wn := fun h => c5 ((nI_leI (a := 18) (b := wn) (by omega) (by omega)).mpr h)
          refine lv_aload_n hx hb dX8_count_82 rfl (lv_at hl 0 rfl) ?_
          refine gfX8_7 (v := .ref (b 1)) hx hb hta hown hK hP 0 rfl rfl dX8_count_83 ?_
          refine lv_iconst (v := 3) hx hb dX8_count_86 (by decide) ?_
          refine lv_iload_n hx hb dX8_count_87 rfl (lv_at hl 1 rfl) ?_
          refine lv_iadd hx hb dX8_count_88 ?_
          refine kTop (nI_add 3 wn) ?_
          refine lv_bipush (v := 11) hx hb dX8_count_89 (by decide) ?_
          refine lv_isub hx hb dX8_count_91 ?_
          refine kTop (y := nI (3 + wn - 11)) (pk_sub (a := 3 + wn) (b := 11) (by omega)) ?_
          refine kiald (f := R 0) hx hb hK hP 1 rfl (3 + wn - 11) rfl (by omega) (by omega) dX8_count_92 ?_
          refine lv_goto (tgt := 113) hx hb dX8_count_93 (by decide) ?_
          exact kiret (()) hQ hx hb hr hlocks hP hS dX8_count_113 (by unfold mCount; rw [nI_clamp (n := wn) (by omega), if_pos c2, if_pos c3, if_pos c4, if_neg c5])
      · have c4n : ¬ 11 ≤ wn := fun h => c4 ((nI_leI (a := 11) (b := wn) (by omega) (by omega)).mpr h)
        refine lv_aload_n hx hb dX8_count_62 rfl (lv_at hl 0 rfl) ?_
        refine gfX8_7 (v := .ref (b 1)) hx hb hta hown hK hP 0 rfl rfl dX8_count_63 ?_
        refine lv_bipush (v := 26) hx hb dX8_count_66 (by decide) ?_
        refine lv_iload_n hx hb dX8_count_68 rfl (lv_at hl 1 rfl) ?_
        refine lv_iadd hx hb dX8_count_69 ?_
        refine kTop (nI_add 26 wn) ?_
        refine lv_iconst (v := 5) hx hb dX8_count_70 (by decide) ?_
        refine lv_isub hx hb dX8_count_71 ?_
        refine kTop (y := nI (26 + wn - 5)) (pk_sub (a := 26 + wn) (b := 5) (by omega)) ?_
        refine kiald (f := R 0) hx hb hK hP 1 rfl (26 + wn - 5) rfl (by omega) (by omega) dX8_count_72 ?_
        refine lv_goto (tgt := 113) hx hb dX8_count_73 (by decide) ?_
        exact kiret (()) hQ hx hb hr hlocks hP hS dX8_count_113 (by unfold mCount; rw [nI_clamp (n := wn) (by omega), if_pos c2, if_pos c3, if_neg c4])
    · have c3n : ¬ 5 ≤ wn := fun h => c3 ((nI_leI (a := 5) (b := wn) (by omega) (by omega)).mpr h)
      refine lv_iload_n hx hb dX8_count_18 rfl (lv_at hl 1 rfl) ?_
      refine lv_iconst (v := 3) hx hb dX8_count_19 (by decide) ?_
      refine lv_icmp_ge (tgt := 32) hx hb dX8_count_20 (by decide) (fun c7 => ?_) (fun c7 => ?_)
      · have c7n : 3 ≤ wn := (nI_leI (a := 3) (b := wn) (by omega) (by omega)).mp c7
        refine lv_iload_n hx hb dX8_count_32 rfl (lv_at hl 1 rfl) ?_
        refine lv_iconst (v := 3) hx hb dX8_count_33 (by decide) ?_
        refine lv_icmp_ne (tgt := 47) hx hb dX8_count_34 (by decide) (fun c8 => ?_) (fun c8 => ?_)
        · have c8n : ¬ wn = 3 := fun h => c8 ((nI_eq (a := wn) (b := 3) (by omega) (by omega)).mpr h)
          refine lv_aload_n hx hb dX8_count_47 rfl (lv_at hl 0 rfl) ?_
          refine gfX8_7 (v := .ref (b 1)) hx hb hta hown hK hP 0 rfl rfl dX8_count_48 ?_
          refine lv_sipush (v := 296) hx hb dX8_count_51 (by decide) ?_
          refine kiald (f := R 0) hx hb hK hP 1 rfl 296 rfl (by omega) (by omega) dX8_count_54 ?_
          exact kiret (()) hQ hx hb hr hlocks hP hS dX8_count_55 (by unfold mCount; rw [nI_clamp (n := wn) (by omega), if_pos c2, if_neg c3, if_pos c7, if_neg c8])
        · have c8n : wn = 3 := (nI_eq (a := wn) (b := 3) (by omega) (by omega)).mp c8
          refine lv_aload_n hx hb dX8_count_37 rfl (lv_at hl 0 rfl) ?_
          refine gfX8_7 (v := .ref (b 1)) hx hb hta hown hK hP 0 rfl rfl dX8_count_38 ?_
          refine kc_i (krS (As := [.ref (b 1)]) (rest := []) (c_X8_inYard l D Y (b 1) (R 0) hZ) ⟨hx, hb, hml, hown, hta⟩ (cwX8_59 hta ⟨Nat.le_of_ble_eq_true rfl, Nat.le_of_ble_eq_true rfl⟩) kX0b (fun _ _ _ => trivial) hK hNs hP hD (kJ_sub [1] rfl rfl) rfl hl.1 rfl (Nat.le_of_ble_eq_true rfl) dX8_count_41 ⟨Nat.le_of_ble_eq_true rfl, Nat.le_of_ble_eq_true rfl⟩) hP hD hS hA (kJ_sub [1] rfl rfl) (fun _ => rfl) (fun r9 u H locs hw hP hD hS => ?_)
          subst hw
          have hP : va_P D vwCl (wR Y b R) H := hP
          have hD : va_D A (wR Y b R) := hD
          refine lv_goto (tgt := 55) hx hb dX8_count_44 (by decide) ?_
          exact kiret (()) hQ hx hb hr hlocks hP hS dX8_count_55 (by unfold mCount; rw [nI_clamp (n := wn) (by omega), if_pos c2, if_neg c3, if_pos c7, if_pos c8])
      · have c7n : ¬ 3 ≤ wn := fun h => c7 ((nI_leI (a := 3) (b := wn) (by omega) (by omega)).mpr h)
        refine lv_aload_n hx hb dX8_count_23 rfl (lv_at hl 0 rfl) ?_
        refine gfX8_7 (v := .ref (b 1)) hx hb hta hown hK hP 0 rfl rfl dX8_count_24 ?_
        refine lv_iload_n hx hb dX8_count_27 rfl (lv_at hl 1 rfl) ?_
        refine kiald (f := R 0) hx hb hK hP 1 rfl wn rfl (by omega) (by omega) dX8_count_28 ?_
        refine lv_goto (tgt := 55) hx hb dX8_count_29 (by decide) ?_
        exact kiret (()) hQ hx hb hr hlocks hP hS dX8_count_55 (by unfold mCount; rw [nI_clamp (n := wn) (by omega), if_pos c2, if_neg c3, if_neg c7])
  · refine kTop (kb_f c2) ?_
    refine lv_if_ne (tgt := 13) hx hb dX8_count_7 (by decide) (fun h => False.elim (by revert h; decide)) (fun _ => ?_)
    refine lv_bipush (v := (-2)) hx hb dX8_count_10 (by decide) ?_
    exact kiret (()) hQ hx hb hr hlocks hP hS dX8_count_12 (by unfold mCount; rw [if_neg c2])
