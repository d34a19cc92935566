set_option maxHeartbeats 4000000 in
set_option maxRecDepth 100000 in
theorem c_X8_does (l : Launch) (D : va_G) (Y : Nat → ClassId) (b : Nat → Nat) (R : kN) (s : kS) (k : Nat) (hZ : mX s) (hQ0 : mQ s) (hk : k < 28) : kM l yX8_does wX8_does rX8_does D Y (wR Y b (sR R 0 (s))) [.ref (b 0), .int (nI k)] kX0 (kQi D (fun r u => r = kb (mMay (R 6) s k = 0) ∧ u = mDoes (R 6) s k) (fun u => wR Y b (sR R 0 u))) := by
  refine kentry (cc := cX8_does) (maxL := 7) (ret := (some .boolean)) (by decide +kernel) rfl (Nat.le_of_ble_eq_true rfl) ?_
  intro p e s0 m args below meth c A Q ls hQ hx hb hr hlocks hml hown hin hta hA hX0 hK hNs hP hD hS hl
  have hown : s0.vm.findClass RX8 = some m.cls := hown
  have hl : lv_has ls 7 [(0, .ref (b 0)), (1, .int (nI k))] := hl
  refine lv_aload_n hx hb dX8_does_0 rfl (lv_at hl 0 rfl) ?_
  refine gfX8_29 (v := .ref (b 7)) hx hb hta hown hK hP 0 rfl rfl dX8_does_1 ?_
  refine lv_iconst (v := 5) hx hb dX8_does_4 (by decide) ?_
  refine lv_iload_n hx hb dX8_does_5 rfl (lv_at hl 1 rfl) ?_
  refine lv_imul hx hb dX8_does_6 ?_
  refine kTop (pk_mul 5 k) ?_
  refine kiald (f := R 6) hx hb hK hP 7 rfl (5 * k) rfl (by omega) (by omega) dX8_does_7 ?_
  refine lv_istore_n (lv' := [(2, .int (R 6 (5 * k))), (0, .ref (b 0)), (1, .int (nI k))]) hx hb dX8_does_8 rfl hl (by decide) rfl (fun ls hl => ?_)
  refine lv_aload_n hx hb dX8_does_9 rfl (lv_at hl 1 rfl) ?_
  refine gfX8_29 (v := .ref (b 7)) hx hb hta hown hK hP 0 rfl rfl dX8_does_10 ?_
  refine lv_iconst (v := 5) hx hb dX8_does_13 (by decide) ?_
  refine lv_iload_n hx hb dX8_does_14 rfl (lv_at hl 2 rfl) ?_
  refine lv_imul hx hb dX8_does_15 ?_
  refine kTop (pk_mul 5 k) ?_
  refine lv_iconst (v := 1) hx hb dX8_does_16 (by decide) ?_
  refine lv_iadd hx hb dX8_does_17 ?_
  refine kTop (nI_add (5 * k) 1) ?_
  refine kiald (f := R 6) hx hb hK hP 7 rfl (5 * k + 1) rfl (by omega) (by omega) dX8_does_18 ?_
  refine lv_istore_n (lv' := [(3, .int (R 6 (5 * k + 1))), (2, .int (R 6 (5 * k))), (0, .ref (b 0)), (1, .int (nI k))]) hx hb dX8_does_19 rfl hl (by decide) rfl (fun ls hl => ?_)
  refine lv_aload_n hx hb dX8_does_20 rfl (lv_at hl 2 rfl) ?_
  refine gfX8_29 (v := .ref (b 7)) hx hb hta hown hK hP 0 rfl rfl dX8_does_21 ?_
  refine lv_iconst (v := 5) hx hb dX8_does_24 (by decide) ?_
  refine lv_iload_n hx hb dX8_does_25 rfl (lv_at hl 3 rfl) ?_
  refine lv_imul hx hb dX8_does_26 ?_
  refine kTop (pk_mul 5 k) ?_
  refine lv_iconst (v := 2) hx hb dX8_does_27 (by decide) ?_
  refine lv_iadd hx hb dX8_does_28 ?_
  refine kTop (nI_add (5 * k) 2) ?_
  refine kiald (f := R 6) hx hb hK hP 7 rfl (5 * k + 2) rfl (by omega) (by omega) dX8_does_29 ?_
  refine lv_istore (lv' := [(4, .int (R 6 (5 * k + 2))), (3, .int (R 6 (5 * k + 1))), (2, .int (R 6 (5 * k))), (0, .ref (b 0)), (1, .int (nI k))]) hx hb dX8_does_30 hl (by decide) rfl (fun ls hl => ?_)
  refine lv_aload_n hx hb dX8_does_32 rfl (lv_at hl 3 rfl) ?_
  refine gfX8_29 (v := .ref (b 7)) hx hb hta hown hK hP 0 rfl rfl dX8_does_33 ?_
  refine lv_iconst (v := 5) hx hb dX8_does_36 (by decide) ?_
  refine lv_iload_n hx hb dX8_does_37 rfl (lv_at hl 4 rfl) ?_
  refine lv_imul hx hb dX8_does_38 ?_
  refine kTop (pk_mul 5 k) ?_
  refine lv_iconst (v := 3) hx hb dX8_does_39 (by decide) ?_
  refine lv_iadd hx hb dX8_does_40 ?_
  refine kTop (nI_add (5 * k) 3) ?_
  refine kiald (f := R 6) hx hb hK hP 7 rfl (5 * k + 3) rfl (by omega) (by omega) dX8_does_41 ?_
  refine lv_istore (lv' := [(5, .int (R 6 (5 * k + 3))), (4, .int (R 6 (5 * k + 2))), (3, .int (R 6 (5 * k + 1))), (2, .int (R 6 (5 * k))), (0, .ref (b 0)), (1, .int (nI k))]) hx hb dX8_does_42 hl (by decide) rfl (fun ls hl => ?_)
  refine lv_aload_n hx hb dX8_does_44 rfl (lv_at hl 4 rfl) ?_
  refine gfX8_29 (v := .ref (b 7)) hx hb hta hown hK hP 0 rfl rfl dX8_does_45 ?_
  refine lv_iconst (v := 5) hx hb dX8_does_48 (by decide) ?_
  refine lv_iload_n hx hb dX8_does_49 rfl (lv_at hl 5 rfl) ?_
  refine lv_imul hx hb dX8_does_50 ?_
  refine kTop (pk_mul 5 k) ?_
  refine lv_iconst (v := 4) hx hb dX8_does_51 (by decide) ?_
  refine lv_iadd hx hb dX8_does_52 ?_
  refine kTop (nI_add (5 * k) 4) ?_
  refine kiald (f := R 6) hx hb hK hP 7 rfl (5 * k + 4) rfl (by omega) (by omega) dX8_does_53 ?_
  refine lv_istore (lv' := [(6, .int (R 6 (5 * k + 4))), (5, .int (R 6 (5 * k + 3))), (4, .int (R 6 (5 * k + 2))), (3, .int (R 6 (5 * k + 1))), (2, .int (R 6 (5 * k))), (0, .ref (b 0)), (1, .int (nI k))]) hx hb dX8_does_54 hl (by decide) rfl (fun ls hl => ?_)
  refine lv_aload_n hx hb dX8_does_56 rfl (lv_at hl 5 rfl) ?_
  refine lv_iload_n hx hb dX8_does_57 rfl (lv_at hl 4 rfl) ?_
  refine lv_iload_n hx hb dX8_does_58 rfl (lv_at hl 3 rfl) ?_
  refine lv_iload hx hb dX8_does_59 (lv_at hl 2 rfl) ?_
  refine lv_iload hx hb dX8_does_61 (lv_at hl 1 rfl) ?_
  refine lv_iload hx hb dX8_does_63 (lv_at hl 0 rfl) ?_
  refine kc_i (krV (As := [.int (R 6 (5 * k)), .int (R 6 (5 * k + 1)), .int (R 6 (5 * k + 2)), .int (R 6 (5 * k + 3)), .int (R 6 (5 * k + 4))]) (rest := []) (c_X8_mayDo l D Y b (sR R 0 (s)) (R 6 (5 * k)) (R 6 (5 * k + 1)) (R 6 (5 * k + 2)) (R 6 (5 * k + 3)) (R 6 (5 * k + 4)) hZ) ⟨hx, hb, hml, hown, hta⟩ (cwX8_188 hta ⟨Nat.le_of_ble_eq_true rfl, Nat.le_of_ble_eq_true rfl⟩) kX0b (fun _ _ _ => trivial) hK hNs hP hD (kJ_all) (q0 := 0) rfl rfl rfl rfl hl.1 rfl (Nat.le_of_ble_eq_true rfl) dX8_does_65 ⟨Nat.le_of_ble_eq_true rfl, Nat.le_of_ble_eq_true rfl⟩) hP hD hS hA (kJ_all) (fun _ => rfl) (fun r1 u H locs hw hP hD hS => ?_)
  subst hw
  have hP : va_P D vwCl (wR Y b (sR R 0 (s))) H := hP
  have hD : va_D A (wR Y b (sR R 0 (s))) := hD
  refine lv_if_eq (tgt := 73) hx hb dX8_does_68 (by decide) (fun c2 => ?_) (fun c2 => ?_)
  · refine lv_iload_n hx hb dX8_does_73 rfl (lv_at hl 4 rfl) ?_
    by_cases c3 : R 6 (5 * k) = 102
    · refine lv_lookup (off := 42) (tgt := 116) hx hb dX8_does_74 (by decide) (by rw [c3]; decide) (by decide) ?_
      have hm : mMayDo s (R 6 (5 * k)) (R 6 (5 * k + 1)) (R 6 (5 * k + 2)) (R 6 (5 * k + 3)) (R 6 (5 * k + 4)) = 0 := c2
      unfold mMayDo at hm; rw [if_pos c3] at hm
      have h1 := (mMayCome_0 hm).2.2.2.2
      have h30 := hZ.f30
      refine lv_aload_n hx hb dX8_does_116 rfl (lv_at hl 5 rfl) ?_
      refine lv_iload_n hx hb dX8_does_117 rfl (lv_at hl 3 rfl) ?_
      refine lv_iload hx hb dX8_does_118 (lv_at hl 2 rfl) ?_
      refine lv_iload hx hb dX8_does_120 (lv_at hl 1 rfl) ?_
      refine lv_iload hx hb dX8_does_122 (lv_at hl 0 rfl) ?_
      refine kc_i (krV (As := [.int (R 6 (5 * k + 1)), .int (R 6 (5 * k + 2)), .int (R 6 (5 * k + 3)), .int (R 6 (5 * k + 4))]) (rest := []) (c_X8_comes l D Y b R s (R 6 (5 * k + 1)) (R 6 (5 * k + 2)) (R 6 (5 * k + 3)) (R 6 (5 * k + 4)) hZ (by omega)) ⟨hx, hb, hml, hown, hta⟩ (cwX8_121 hta ⟨Nat.le_of_ble_eq_true rfl, Nat.le_of_ble_eq_true rfl⟩) kX0b (fun _ _ _ => trivial) hK hNs hP hD (kJ_all) (q0 := 0) rfl rfl rfl rfl hl.1 rfl (Nat.le_of_ble_eq_true rfl) dX8_does_124 ⟨Nat.le_of_ble_eq_true rfl, Nat.le_of_ble_eq_true rfl⟩) hP hD hS hA (kJ_all) (fun _ => rfl) (fun r4 u H locs hw hP hD hS => ?_)
      obtain ⟨rfl, rfl⟩ := hw
      have hP : va_P D vwCl (wR Y b (sR R 0 (mComes s (R 6 (5 * k + 1)) (R 6 (5 * k + 2)) (R 6 (5 * k + 3)) (R 6 (5 * k + 4))))) H := hP
      have hD : va_D A (wR Y b (sR R 0 (mComes s (R 6 (5 * k + 1)) (R 6 (5 * k + 2)) (R 6 (5 * k + 3)) (R 6 (5 * k + 4))))) := hD
      refine lv_pop hx hb dX8_does_127 rfl ?_
      refine lv_goto (tgt := 178) hx hb dX8_does_128 (by decide) ?_
      refine lv_iconst (v := 1) hx hb dX8_does_178 (by decide) ?_
      exact kzret (mComes s (R 6 (5 * k + 1)) (R 6 (5 * k + 2)) (R 6 (5 * k + 3)) (R 6 (5 * k + 4))) hQ hx hb hr hlocks hP hS dX8_does_179 (by first | exact Or.inl rfl | exact Or.inr rfl | exact kb_01 _) (by refine ⟨(kb_t c2).symm, ?_⟩; refine Eq.trans ?_ (if_pos c2).symm; unfold mDo mAct; rw [if_pos c3])
    · by_cases c5 : R 6 (5 * k) = 108
      · refine lv_lookup (off := 71) (tgt := 145) hx hb dX8_does_74 (by decide) (by rw [c5]; decide) (by decide) ?_
        have hm : mMayDo s (R 6 (5 * k)) (R 6 (5 * k + 1)) (R 6 (5 * k + 2)) (R 6 (5 * k + 3)) (R 6 (5 * k + 4)) = 0 := c2
        unfold mMayDo at hm; rw [if_neg c3, if_pos c5] at hm
        obtain ⟨j, hj, hjl, hjh⟩ := pIn_nat (mMayLend_0 hm).1 (show (0 : Int32) = nI 0 from rfl) (show (5 : Int32) = nI 5 from rfl) (by omega) (by omega)
        rw [hj] at hl
        obtain ⟨i, hi, hil, hih⟩ := pIn_nat (mMayLend_0 hm).2 (show (0 : Int32) = nI 0 from rfl) (show (5 : Int32) = nI 5 from rfl) (by omega) (by omega)
        rw [hi] at hl
        refine lv_aload_n hx hb dX8_does_145 rfl (lv_at hl 5 rfl) ?_
        refine lv_iload_n hx hb dX8_does_146 rfl (lv_at hl 3 rfl) ?_
        refine lv_iload hx hb dX8_does_147 (lv_at hl 2 rfl) ?_
        refine lv_iload hx hb dX8_does_149 (lv_at hl 1 rfl) ?_
        refine kc_i (krV (As := [.int (nI j), .int (nI i), .int (R 6 (5 * k + 3))]) (rest := []) (c_X8_lends l D Y b (sR R 0 (s)) j i (R 6 (5 * k + 3)) (by omega) (by omega)) ⟨hx, hb, hml, hown, hta⟩ (cwX8_114 hta ⟨Nat.le_of_ble_eq_true rfl, Nat.le_of_ble_eq_true rfl⟩) kX0b (fun _ _ _ => trivial) hK hNs hP hD (kJ_all) (q0 := 0) rfl rfl rfl rfl hl.1 rfl (Nat.le_of_ble_eq_true rfl) dX8_does_151 ⟨Nat.le_of_ble_eq_true rfl, Nat.le_of_ble_eq_true rfl⟩) hP hD hS hA (kJ_all) (fun _ => rfl) (fun r6 u H locs hw hP hD hS => ?_)
        obtain ⟨rfl, rfl⟩ := hw
        have hP : va_P D vwCl (wR Y b (mLendTo (sR R 0 (s)) j i (R 6 (5 * k + 3)))) H := hP
        have hD : va_D A (wR Y b (mLendTo (sR R 0 (s)) j i (R 6 (5 * k + 3)))) := hD
        rw [mLendTo_row0] at hP hD
        have hP : va_P D vwCl (wR Y b (sR R 0 (mLendRow s j i (R 6 (5 * k + 3))))) H := hP
        have hD : va_D A (wR Y b (sR R 0 (mLendRow s j i (R 6 (5 * k + 3))))) := hD
        refine lv_pop hx hb dX8_does_154 rfl ?_
        refine lv_goto (tgt := 178) hx hb dX8_does_155 (by decide) ?_
        refine lv_iconst (v := 1) hx hb dX8_does_178 (by decide) ?_
        exact kzret (mLendRow s j i (R 6 (5 * k + 3))) hQ hx hb hr hlocks hP hS dX8_does_179 (by first | exact Or.inl rfl | exact Or.inr rfl | exact kb_01 _) (by refine ⟨(kb_t c2).symm, ?_⟩; refine Eq.trans ?_ (if_pos c2).symm; unfold mDo mAct; rw [if_neg c3, if_pos c5]; rw [hj, hi, nI_clamp (n := j) (by omega), nI_clamp (n := i) (by omega)])
      · by_cases c7 : R 6 (5 * k) = 113
        · refine lv_lookup (off := 57) (tgt := 131) hx hb dX8_does_74 (by decide) (by rw [c7]; decide) (by decide) ?_
          have hm : mMayDo s (R 6 (5 * k)) (R 6 (5 * k + 1)) (R 6 (5 * k + 2)) (R 6 (5 * k + 3)) (R 6 (5 * k + 4)) = 0 := c2
          unfold mMayDo at hm; rw [if_neg c3, if_neg c5, if_pos c7] at hm
          obtain ⟨j, hj, hjl, hjh⟩ := pIn_nat (mMayQuota_0 hm).1 (show (0 : Int32) = nI 0 from rfl) (show (5 : Int32) = nI 5 from rfl) (by omega) (by omega)
          rw [hj] at hl
          refine lv_aload_n hx hb dX8_does_131 rfl (lv_at hl 5 rfl) ?_
          refine lv_bipush (v := 10) hx hb dX8_does_132 (by decide) ?_
          refine lv_iload_n hx hb dX8_does_134 rfl (lv_at hl 3 rfl) ?_
          refine lv_iadd hx hb dX8_does_135 ?_
          refine kTop (nI_add 10 j) ?_
          refine lv_iload hx hb dX8_does_136 (lv_at hl 2 rfl) ?_
          refine kc_i (krV (As := [.int (nI (10 + j)), .int (R 6 (5 * k + 2))]) (rest := []) (c_X8_changes l D Y b (sR R 0 (s)) (10 + j) (R 6 (5 * k + 2)) (by omega)) ⟨hx, hb, hml, hown, hta⟩ (cwX8_100 hta ⟨Nat.le_of_ble_eq_true rfl, Nat.le_of_ble_eq_true rfl⟩) kX0b (fun _ _ _ => trivial) hK hNs hP hD (kJ_all) (q0 := 0) rfl rfl rfl rfl hl.1 rfl (Nat.le_of_ble_eq_true rfl) dX8_does_138 ⟨Nat.le_of_ble_eq_true rfl, Nat.le_of_ble_eq_true rfl⟩) hP hD hS hA (kJ_all) (fun _ => rfl) (fun r8 u H locs hw hP hD hS => ?_)
          obtain ⟨rfl, rfl⟩ := hw
          have hP : va_P D vwCl (wR Y b (sM (sR R 0 (s)) 0 (10 + j) (R 6 (5 * k + 2)))) H := hP
          have hD : va_D A (wR Y b (sM (sR R 0 (s)) 0 (10 + j) (R 6 (5 * k + 2)))) := hD
          rw [sM_row0] at hP hD
          have hP : va_P D vwCl (wR Y b (sR R 0 (upd s (10 + j) (R 6 (5 * k + 2))))) H := hP
          have hD : va_D A (wR Y b (sR R 0 (upd s (10 + j) (R 6 (5 * k + 2))))) := hD
          refine lv_pop hx hb dX8_does_141 rfl ?_
          refine lv_goto (tgt := 178) hx hb dX8_does_142 (by decide) ?_
          refine lv_iconst (v := 1) hx hb dX8_does_178 (by decide) ?_
          exact kzret (upd s (10 + j) (R 6 (5 * k + 2))) hQ hx hb hr hlocks hP hS dX8_does_179 (by first | exact Or.inl rfl | exact Or.inr rfl | exact kb_01 _) (by refine ⟨(kb_t c2).symm, ?_⟩; refine Eq.trans ?_ (if_pos c2).symm; unfold mDo mAct; rw [if_neg c3, if_neg c5, if_pos c7]; rw [hj, nI_clamp (n := j) (by omega)])
        · by_cases c9 : R 6 (5 * k) = 115
          · refine lv_lookup (off := 84) (tgt := 158) hx hb dX8_does_74 (by decide) (by rw [c9]; decide) (by decide) ?_
            have hm : mMayDo s (R 6 (5 * k)) (R 6 (5 * k + 1)) (R 6 (5 * k + 2)) (R 6 (5 * k + 3)) (R 6 (5 * k + 4)) = 0 := c2
            unfold mMayDo at hm; rw [if_neg c3, if_neg c5, if_neg c7, if_pos c9] at hm
            have h1 := (mMayStop_0 hm).2.2
            have h5 := hZ.s5
            refine lv_aload_n hx hb dX8_does_158 rfl (lv_at hl 5 rfl) ?_
            refine lv_iload_n hx hb dX8_does_159 rfl (lv_at hl 3 rfl) ?_
            refine lv_iload hx hb dX8_does_160 (lv_at hl 2 rfl) ?_
            refine kc_i (krV (As := [.int (R 6 (5 * k + 1)), .int (R 6 (5 * k + 2))]) (rest := []) (c_X8_stops l D Y b R s (R 6 (5 * k + 1)) (R 6 (5 * k + 2)) hZ (by omega)) ⟨hx, hb, hml, hown, hta⟩ (cwX8_130 hta ⟨Nat.le_of_ble_eq_true rfl, Nat.le_of_ble_eq_true rfl⟩) kX0b (fun _ _ _ => trivial) hK hNs hP hD (kJ_all) (q0 := 0) rfl rfl rfl rfl hl.1 rfl (Nat.le_of_ble_eq_true rfl) dX8_does_162 ⟨Nat.le_of_ble_eq_true rfl, Nat.le_of_ble_eq_true rfl⟩) hP hD hS hA (kJ_all) (fun _ => rfl) (fun r10 u H locs hw hP hD hS => ?_)
            obtain ⟨rfl, rfl⟩ := hw
            have hP : va_P D vwCl (wR Y b (sR R 0 (mStops s (R 6 (5 * k + 1)) (R 6 (5 * k + 2))))) H := hP
            have hD : va_D A (wR Y b (sR R 0 (mStops s (R 6 (5 * k + 1)) (R 6 (5 * k + 2))))) := hD
            refine lv_pop hx hb dX8_does_165 rfl ?_
            refine lv_goto (tgt := 178) hx hb dX8_does_166 (by decide) ?_
            refine lv_iconst (v := 1) hx hb dX8_does_178 (by decide) ?_
            exact kzret (mStops s (R 6 (5 * k + 1)) (R 6 (5 * k + 2))) hQ hx hb hr hlocks hP hS dX8_does_179 (by first | exact Or.inl rfl | exact Or.inr rfl | exact kb_01 _) (by refine ⟨(kb_t c2).symm, ?_⟩; refine Eq.trans ?_ (if_pos c2).symm; unfold mDo mAct; rw [if_neg c3, if_neg c5, if_neg c7, if_pos c9])
          · refine lv_lookup (off := 95) (tgt := 169) hx hb dX8_does_74 (by decide) (by have q0 : ¬ (R 6 (5 * k)).toInt = 102 := fun h => c3 (Int32.toInt_inj.mp (h.trans (by decide))); have q1 : ¬ (R 6 (5 * k)).toInt = 108 := fun h => c5 (Int32.toInt_inj.mp (h.trans (by decide))); have q2 : ¬ (R 6 (5 * k)).toInt = 113 := fun h => c7 (Int32.toInt_inj.mp (h.trans (by decide))); have q3 : ¬ (R 6 (5 * k)).toInt = 115 := fun h => c9 (Int32.toInt_inj.mp (h.trans (by decide))); simp [Op.lookupswitch.offset, q0, Ne.symm q0, q1, Ne.symm q1, q2, Ne.symm q2, q3, Ne.symm q3]) (by decide) ?_
            have hm : mMayDo s (R 6 (5 * k)) (R 6 (5 * k + 1)) (R 6 (5 * k + 2)) (R 6 (5 * k + 3)) (R 6 (5 * k + 4)) = 0 := c2
            unfold mMayDo at hm; rw [if_neg c3, if_neg c5, if_neg c7, if_neg c9] at hm
            obtain ⟨j, hj, hjl, hjh⟩ := pIn_nat (mMayPass_0 hm) (show (1 : Int32) = nI 1 from rfl) (show (99 : Int32) = nI 99 from rfl) (by omega) (by omega)
            rw [hj] at hl
            refine lv_aload_n hx hb dX8_does_169 rfl (lv_at hl 5 rfl) ?_
            refine gfX8_7 (v := .ref (b 1)) hx hb hta hown hK hP 0 rfl rfl dX8_does_170 ?_
            refine lv_iload_n hx hb dX8_does_173 rfl (lv_at hl 3 rfl) ?_
            refine lv_iconst (v := 0) hx hb dX8_does_174 (by decide) ?_
            refine kc_v (krS (As := [.ref (b 1), .int (nI j), .int 0]) (rest := []) (c_X8_days l D Y (b 1) s j 0 hZ hQ0 (by omega)) ⟨hx, hb, hml, hown, hta⟩ (cwX8_137 hta ⟨Nat.le_of_ble_eq_true rfl, Nat.le_of_ble_eq_true rfl⟩) kX0b (fun _ _ _ => trivial) hK hNs hP hD (kJ_sub [1] rfl rfl) rfl hl.1 rfl (Nat.le_of_ble_eq_true rfl) dX8_does_175 ⟨Nat.le_of_ble_eq_true rfl, Nat.le_of_ble_eq_true rfl⟩) hP hD hS hA (kJ_sub [1] rfl rfl) (fun _ => rfl) (fun u H locs hw hP hD hS => ?_)
            subst hw
            have hP : va_P D vwCl (wR Y b (sR R 0 (mDays s 0 j))) H := hP
            have hD : va_D A (wR Y b (sR R 0 (mDays s 0 j))) := hD
            refine lv_iconst (v := 1) hx hb dX8_does_178 (by decide) ?_
            exact kzret (mDays s 0 j) hQ hx hb hr hlocks hP hS dX8_does_179 (by first | exact Or.inl rfl | exact Or.inr rfl | exact kb_01 _) (by refine ⟨(kb_t c2).symm, ?_⟩; refine Eq.trans ?_ (if_pos c2).symm; unfold mDo mAct; rw [if_neg c3, if_neg c5, if_neg c7, if_neg c9]; rw [hj, nI_clamp (n := j) (by omega)])
  · refine lv_iconst (v := 0) hx hb dX8_does_71 (by decide) ?_
    exact kzret (s) hQ hx hb hr hlocks hP hS dX8_does_72 (by first | exact Or.inl rfl | exact Or.inr rfl | exact kb_01 _) (⟨(kb_f c2).symm, (if_neg c2).symm⟩)
