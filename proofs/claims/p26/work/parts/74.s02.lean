set_option maxHeartbeats 4000000 in
set_option maxRecDepth 100000 in
theorem c_L_act (l : Launch) (D : va_G) (Y : Nat → ClassId) (w a b d : Nat → Nat) (M N : kN) (F : kFm) (o z : Nat) (P : Nat → Int32) (n t : Nat) (kd : Int32) (V : Nat → Int32) (vc : Nat) (base : Nat) (ad av : Nat → Nat) (sb L : Nat) (xs : Nat → Int32) (k : Nat) (hk : k < 900) (hL : L ≤ 260) (h : pRe M F o z) (hB : ∀ c ∈ (wC Y w a b d M N F o z P n t kd V vc).map (·.1), base ≤ c) : kM l yL_act wL_act rL_act D Y (wC Y w a b d M N F o z P n t kd V vc) [.ref (w 0), .ref sb, .int (nI k)] (kZ base ad av sb L xs) (kQin D (fun r (u : kN × kFm × Nat × Nat) => pRe u.1 u.2.1 u.2.2.1 u.2.2.2 ∧ (r < 0 → u.1 = M ∧ u.2.2.2 = z)) (fun u => wC Y w a b d u.1 N u.2.1 u.2.2.1 u.2.2.2 P n t kd V vc)) := by
  refine kentryE (cc := cL_act) (maxL := 7) (ret := (some .int)) (by decide +kernel) rfl (Nat.le_of_ble_eq_true rfl) ?_
  intro p e s0 m args below meth c A Q ls hA2 hQ hx hb hr hlocks hml hown hin hta hA hX0 hK hNs hP hD hS hl
  have hown : s0.vm.findClass RL = some m.cls := hown
  have hl : lv_has ls 7 [(0, .ref (w 0)), (1, .ref sb), (2, .int (nI k))] := hl
  have hAb := kAb hA2 hX0.1 (hB)
  have hbA : ¬ A sb := fun q => absurd (hAb sb q) (by have := hX0.2.2.2; omega)
  have hbl : sb < s0.heap.size := Nat.lt_of_lt_of_le hX0.2.2.2 hX0.1
  have hX := hX0.2.2.1
  have hI := h.1.I
  have ho := h.2.1.2
  have hz := h.2.1.1
  refine lv_aload_n hx hb dL_act_0 rfl (lv_at hl 1 rfl) ?_
  refine lv_iload_n hx hb dL_act_1 rfl (lv_at hl 2 rfl) ?_
  refine lv_iconst (v := 1) hx hb dL_act_2 (by decide) ?_
  refine lv_iadd hx hb dL_act_3 ?_
  refine kTop (nI_add k 1) ?_
  refine kc_i (krS (As := [.ref sb, .int (nI (k + 1))]) (rest := []) (c_L_cell l D Y base ad av sb L xs (k + 1) (by omega) hL) ⟨hx, hb, hml, hown, hta⟩ (cwL_40 hta ⟨Nat.le_of_ble_eq_true rfl, Nat.le_of_ble_eq_true rfl⟩) kZb (kZ_go hX0 hS hAb) hK hNs hP hD (kJ_nil) rfl hl.1 rfl (Nat.le_of_ble_eq_true rfl) dL_act_4 ⟨Nat.le_of_ble_eq_true rfl, Nat.le_of_ble_eq_true rfl⟩) hP hD hS hA (kJ_nil) (fun _ => rfl) (fun r1 u H locs hw hP hD hS => ?_)
  clear hw
  have hP : va_P D vwCl (wC Y w a b d M N F o z P n t kd V vc) H := hP
  have hD : va_D A (wC Y w a b d M N F o z P n t kd V vc) := hD
  refine lv_istore_n (lv' := [(3, .int r1), (0, .ref (w 0)), (1, .ref sb), (2, .int (nI k))]) hx hb dL_act_7 rfl hl (by decide) rfl (fun ls hl => ?_)
  refine lv_aload_n hx hb dL_act_8 rfl (lv_at hl 2 rfl) ?_
  refine lv_iload_n hx hb dL_act_9 rfl (lv_at hl 3 rfl) ?_
  refine lv_iconst (v := 2) hx hb dL_act_10 (by decide) ?_
  refine lv_iadd hx hb dL_act_11 ?_
  refine kTop (nI_add k 2) ?_
  refine kc_i (krS (As := [.ref sb, .int (nI (k + 2))]) (rest := []) (c_L_cell l D Y base ad av sb L xs (k + 2) (by omega) hL) ⟨hx, hb, hml, hown, hta⟩ (cwL_40 hta ⟨Nat.le_of_ble_eq_true rfl, Nat.le_of_ble_eq_true rfl⟩) kZb (kZ_go hX0 hS hAb) hK hNs hP hD (kJ_nil) rfl hl.1 rfl (Nat.le_of_ble_eq_true rfl) dL_act_12 ⟨Nat.le_of_ble_eq_true rfl, Nat.le_of_ble_eq_true rfl⟩) hP hD hS hA (kJ_nil) (fun _ => rfl) (fun r2 u H locs hw hP hD hS => ?_)
  clear hw
  have hP : va_P D vwCl (wC Y w a b d M N F o z P n t kd V vc) H := hP
  have hD : va_D A (wC Y w a b d M N F o z P n t kd V vc) := hD
  refine lv_istore (lv' := [(4, .int r2), (3, .int r1), (0, .ref (w 0)), (1, .ref sb), (2, .int (nI k))]) hx hb dL_act_15 hl (by decide) rfl (fun ls hl => ?_)
  refine lv_aload_n hx hb dL_act_17 rfl (lv_at hl 3 rfl) ?_
  refine lv_iload_n hx hb dL_act_18 rfl (lv_at hl 4 rfl) ?_
  refine lv_iconst (v := 3) hx hb dL_act_19 (by decide) ?_
  refine lv_iadd hx hb dL_act_20 ?_
  refine kTop (nI_add k 3) ?_
  refine kc_i (krS (As := [.ref sb, .int (nI (k + 3))]) (rest := []) (c_L_cell l D Y base ad av sb L xs (k + 3) (by omega) hL) ⟨hx, hb, hml, hown, hta⟩ (cwL_40 hta ⟨Nat.le_of_ble_eq_true rfl, Nat.le_of_ble_eq_true rfl⟩) kZb (kZ_go hX0 hS hAb) hK hNs hP hD (kJ_nil) rfl hl.1 rfl (Nat.le_of_ble_eq_true rfl) dL_act_21 ⟨Nat.le_of_ble_eq_true rfl, Nat.le_of_ble_eq_true rfl⟩) hP hD hS hA (kJ_nil) (fun _ => rfl) (fun r3 u H locs hw hP hD hS => ?_)
  clear hw
  have hP : va_P D vwCl (wC Y w a b d M N F o z P n t kd V vc) H := hP
  have hD : va_D A (wC Y w a b d M N F o z P n t kd V vc) := hD
  refine lv_istore (lv' := [(5, .int r3), (4, .int r2), (3, .int r1), (0, .ref (w 0)), (1, .ref sb), (2, .int (nI k))]) hx hb dL_act_24 hl (by decide) rfl (fun ls hl => ?_)
  refine lv_aload_n hx hb dL_act_26 rfl (lv_at hl 3 rfl) ?_
  refine lv_iconst (v := 0) hx hb dL_act_27 (by decide) ?_
  refine kc_i (krV (As := [.int 0]) (rest := []) (c_X7_count l D Y w a b d M N F o z P n t kd V vc 0 hI) ⟨hx, hb, hml, hown, hta⟩ (cwL_9 hta ⟨Nat.le_of_ble_eq_true rfl, Nat.le_of_ble_eq_true rfl⟩) kX0b (fun _ _ _ => trivial) hK hNs hP hD (kJ_all) (q0 := 0) rfl rfl rfl rfl hl.1 rfl (Nat.le_of_ble_eq_true rfl) dL_act_28 ⟨Nat.le_of_ble_eq_true rfl, Nat.le_of_ble_eq_true rfl⟩) hP hD hS hA (kJ_all) (fun _ => rfl) (fun r4 u H locs hw hP hD hS => ?_)
  have hw := hw.trans (ct_0 M n z)
  subst hw
  have hP : va_P D vwCl (wC Y w a b d M N F o z P n t kd V vc) H := hP
  have hD : va_D A (wC Y w a b d M N F o z P n t kd V vc) := hD
  refine lv_istore (lv' := [(6, .int (M 19 0)), (5, .int r3), (4, .int r2), (3, .int r1), (0, .ref (w 0)), (1, .ref sb), (2, .int (nI k))]) hx hb dL_act_31 hl (by decide) rfl (fun ls hl => ?_)
  refine lv_aload_n hx hb dL_act_33 rfl (lv_at hl 5 rfl) ?_
  refine lv_iload_n hx hb dL_act_34 rfl (lv_at hl 6 rfl) ?_
  refine kc_i (krS (As := [.ref sb, .int (nI k)]) (rest := []) (c_L_cell l D Y base ad av sb L xs k (by omega) hL) ⟨hx, hb, hml, hown, hta⟩ (cwL_40 hta ⟨Nat.le_of_ble_eq_true rfl, Nat.le_of_ble_eq_true rfl⟩) kZb (kZ_go hX0 hS hAb) hK hNs hP hD (kJ_nil) rfl hl.1 rfl (Nat.le_of_ble_eq_true rfl) dL_act_35 ⟨Nat.le_of_ble_eq_true rfl, Nat.le_of_ble_eq_true rfl⟩) hP hD hS hA (kJ_nil) (fun _ => rfl) (fun r5 u H locs hw hP hD hS => ?_)
  clear hw
  have hP : va_P D vwCl (wC Y w a b d M N F o z P n t kd V vc) H := hP
  have hD : va_D A (wC Y w a b d M N F o z P n t kd V vc) := hD
  refine lv_bipush (v := 18) hx hb dL_act_38 (by decide) ?_
  refine kc_i (krS (As := [.int r5, .int 18]) (rest := []) (c_L_low l D Y r5 18 (by decide)) ⟨hx, hb, hml, hown, hta⟩ (cwL_46 hta ⟨Nat.le_of_ble_eq_true rfl, Nat.le_of_ble_eq_true rfl⟩) kX0b (fun _ _ _ => trivial) hK hNs hP hD (kJ_nil) rfl hl.1 rfl (Nat.le_of_ble_eq_true rfl) dL_act_40 ⟨Nat.le_of_ble_eq_true rfl, Nat.le_of_ble_eq_true rfl⟩) hP hD hS hA (kJ_nil) (fun _ => rfl) (fun r6 u H locs hw hP hD hS => ?_)
  clear hw
  have hP : va_P D vwCl (wC Y w a b d M N F o z P n t kd V vc) H := hP
  have hD : va_D A (wC Y w a b d M N F o z P n t kd V vc) := hD
  by_cases c7 : r6 = 0
  · refine lv_tableIn (off := 73) (tgt := 116) hx hb dL_act_43 (by rw [c7]; decide) (by rw [c7]; decide) (by rw [c7]; rfl) (by decide) ?_
    refine lv_aload_n hx hb dL_act_116 rfl (lv_at hl 4 rfl) ?_
    refine lv_iload_n hx hb dL_act_117 rfl (lv_at hl 3 rfl) ?_
    refine lv_bipush (v := 6) hx hb dL_act_118 (by decide) ?_
    refine kc_i (krS (As := [.int r1, .int 6]) (rest := [.ref (w 0)]) (c_L_low l D Y r1 6 (by decide)) ⟨hx, hb, hml, hown, hta⟩ (cwL_46 hta ⟨Nat.le_of_ble_eq_true rfl, Nat.le_of_ble_eq_true rfl⟩) kX0b (fun _ _ _ => trivial) hK hNs hP hD (kJ_nil) rfl hl.1 rfl (Nat.le_of_ble_eq_true rfl) dL_act_120 ⟨Nat.le_of_ble_eq_true rfl, Nat.le_of_ble_eq_true rfl⟩) hP hD hS hA (kJ_nil) (fun _ => rfl) (fun r8 u H locs hw hP hD hS => ?_)
    clear hw
    have hP : va_P D vwCl (wC Y w a b d M N F o z P n t kd V vc) H := hP
    have hD : va_D A (wC Y w a b d M N F o z P n t kd V vc) := hD
    refine lv_iconst (v := 1) hx hb dL_act_123 (by decide) ?_
    refine lv_iload hx hb dL_act_124 (lv_at hl 2 rfl) ?_
    refine lv_bipush (v := 90) hx hb dL_act_126 (by decide) ?_
    refine kc_i (krS (As := [.int r2, .int 90]) (rest := [.int 1, .int r8, .ref (w 0)]) (c_L_low l D Y r2 90 (by decide)) ⟨hx, hb, hml, hown, hta⟩ (cwL_46 hta ⟨Nat.le_of_ble_eq_true rfl, Nat.le_of_ble_eq_true rfl⟩) kX0b (fun _ _ _ => trivial) hK hNs hP hD (kJ_nil) rfl hl.1 rfl (Nat.le_of_ble_eq_true rfl) dL_act_128 ⟨Nat.le_of_ble_eq_true rfl, Nat.le_of_ble_eq_true rfl⟩) hP hD hS hA (kJ_nil) (fun _ => rfl) (fun r9 u H locs hw hP hD hS => ?_)
    clear hw
    have hP : va_P D vwCl (wC Y w a b d M N F o z P n t kd V vc) H := hP
    have hD : va_D A (wC Y w a b d M N F o z P n t kd V vc) := hD
    refine lv_iadd hx hb dL_act_131 ?_
    refine lv_iconst (v := 1) hx hb dL_act_132 (by decide) ?_
    refine lv_iload hx hb dL_act_133 (lv_at hl 1 rfl) ?_
    refine lv_bipush (v := 100) hx hb dL_act_135 (by decide) ?_
    refine kc_i (krS (As := [.int r3, .int 100]) (rest := [.int 1, .int (1 + r9), .int r8, .ref (w 0)]) (c_L_low l D Y r3 100 (by decide)) ⟨hx, hb, hml, hown, hta⟩ (cwL_46 hta ⟨Nat.le_of_ble_eq_true rfl, Nat.le_of_ble_eq_true rfl⟩) kX0b (fun _ _ _ => trivial) hK hNs hP hD (kJ_nil) rfl hl.1 rfl (Nat.le_of_ble_eq_true rfl) dL_act_137 ⟨Nat.le_of_ble_eq_true rfl, Nat.le_of_ble_eq_true rfl⟩) hP hD hS hA (kJ_nil) (fun _ => rfl) (fun r10 u H locs hw hP hD hS => ?_)
    clear hw
    have hP : va_P D vwCl (wC Y w a b d M N F o z P n t kd V vc) H := hP
    have hD : va_D A (wC Y w a b d M N F o z P n t kd V vc) := hD
    refine lv_iadd hx hb dL_act_140 ?_
    refine lv_iload hx hb dL_act_141 (lv_at hl 0 rfl) ?_
    refine lv_iload_n hx hb dL_act_143 rfl (lv_at hl 3 rfl) ?_
    refine lv_iconst (v := 5) hx hb dL_act_144 (by decide) ?_
    refine kc_i (krS (As := [.int r1, .int 5]) (rest := [.int (M 19 0), .int (1 + r10), .int (1 + r9), .int r8, .ref (w 0)]) (c_L_low l D Y r1 5 (by decide)) ⟨hx, hb, hml, hown, hta⟩ (cwL_46 hta ⟨Nat.le_of_ble_eq_true rfl, Nat.le_of_ble_eq_true rfl⟩) kX0b (fun _ _ _ => trivial) hK hNs hP hD (kJ_nil) rfl hl.1 rfl (Nat.le_of_ble_eq_true rfl) dL_act_145 ⟨Nat.le_of_ble_eq_true rfl, Nat.le_of_ble_eq_true rfl⟩) hP hD hS hA (kJ_nil) (fun _ => rfl) (fun r11 u H locs hw hP hD hS => ?_)
    clear hw
    have hP : va_P D vwCl (wC Y w a b d M N F o z P n t kd V vc) H := hP
    have hD : va_D A (wC Y w a b d M N F o z P n t kd V vc) := hD
    refine lv_iadd hx hb dL_act_148 ?_
    refine kc_in (krV (As := [.int r8, .int (1 + r9), .int (1 + r10), .int ((M 19 0) + r11)]) (rest := []) (c_X7_field l D Y w a b d M N F o z P n t kd V vc r8 (1 + r9) (1 + r10) ((M 19 0) + r11) hI ho hz) ⟨hx, hb, hml, hown, hta⟩ (cwL_49 hta ⟨Nat.le_of_ble_eq_true rfl, Nat.le_of_ble_eq_true rfl⟩) kX0b (fun _ _ _ => trivial) hK hNs hP hD (kJ_all) (q0 := 0) rfl rfl rfl rfl hl.1 rfl (Nat.le_of_ble_eq_true rfl) dL_act_149 ⟨Nat.le_of_ble_eq_true rfl, Nat.le_of_ble_eq_true rfl⟩) hP hD hS hA (kJn_all) (fun r13 u12 H locs hw hP hD hS => ?_)
    have hr2 := h.rec (pO_field h.1 r8 (1 + r9) (1 + r10) ((M 19 0) + r11)) hw
    have hP : va_P D vwCl (wC Y w a b d u12.1 N u12.2.1 u12.2.2.1 u12.2.2.2 P n t kd V vc) H := hP
    have hD : va_D A (wC Y w a b d u12.1 N u12.2.1 u12.2.2.1 u12.2.2.2 P n t kd V vc) := hD
    refine W.widen (k := 24) (n := 1518) (by first | exact Nat.le_refl _ | exact Nat.le_of_ble_eq_true rfl | omega) (by first | exact Nat.le_refl _ | exact Nat.le_of_ble_eq_true rfl | omega) ?_
    exact kiretn (u12) hQ hx hb hr hlocks hP hD hS dL_act_152 hr2
  · by_cases c14 : r6 = 1
    · refine lv_tableIn (off := 73) (tgt := 116) hx hb dL_act_43 (by rw [c14]; decide) (by rw [c14]; decide) (by rw [c14]; rfl) (by decide) ?_
      refine lv_aload_n hx hb dL_act_116 rfl (lv_at hl 4 rfl) ?_
      refine lv_iload_n hx hb dL_act_117 rfl (lv_at hl 3 rfl) ?_
      refine lv_bipush (v := 6) hx hb dL_act_118 (by decide) ?_
      refine kc_i (krS (As := [.int r1, .int 6]) (rest := [.ref (w 0)]) (c_L_low l D Y r1 6 (by decide)) ⟨hx, hb, hml, hown, hta⟩ (cwL_46 hta ⟨Nat.le_of_ble_eq_true rfl, Nat.le_of_ble_eq_true rfl⟩) kX0b (fun _ _ _ => trivial) hK hNs hP hD (kJ_nil) rfl hl.1 rfl (Nat.le_of_ble_eq_true rfl) dL_act_120 ⟨Nat.le_of_ble_eq_true rfl, Nat.le_of_ble_eq_true rfl⟩) hP hD hS hA (kJ_nil) (fun _ => rfl) (fun r15 u H locs hw hP hD hS => ?_)
      clear hw
      have hP : va_P D vwCl (wC Y w a b d M N F o z P n t kd V vc) H := hP
      have hD : va_D A (wC Y w a b d M N F o z P n t kd V vc) := hD
      refine lv_iconst (v := 1) hx hb dL_act_123 (by decide) ?_
      refine lv_iload hx hb dL_act_124 (lv_at hl 2 rfl) ?_
      refine lv_bipush (v := 90) hx hb dL_act_126 (by decide) ?_
      refine kc_i (krS (As := [.int r2, .int 90]) (rest := [.int 1, .int r15, .ref (w 0)]) (c_L_low l D Y r2 90 (by decide)) ⟨hx, hb, hml, hown, hta⟩ (cwL_46 hta ⟨Nat.le_of_ble_eq_true rfl, Nat.le_of_ble_eq_true rfl⟩) kX0b (fun _ _ _ => trivial) hK hNs hP hD (kJ_nil) rfl hl.1 rfl (Nat.le_of_ble_eq_true rfl) dL_act_128 ⟨Nat.le_of_ble_eq_true rfl, Nat.le_of_ble_eq_true rfl⟩) hP hD hS hA (kJ_nil) (fun _ => rfl) (fun r16 u H locs hw hP hD hS => ?_)
      clear hw
      have hP : va_P D vwCl (wC Y w a b d M N F o z P n t kd V vc) H := hP
      have hD : va_D A (wC Y w a b d M N F o z P n t kd V vc) := hD
      refine lv_iadd hx hb dL_act_131 ?_
      refine lv_iconst (v := 1) hx hb dL_act_132 (by decide) ?_
      refine lv_iload hx hb dL_act_133 (lv_at hl 1 rfl) ?_
      refine lv_bipush (v := 100) hx hb dL_act_135 (by decide) ?_
      refine kc_i (krS (As := [.int r3, .int 100]) (rest := [.int 1, .int (1 + r16), .int r15, .ref (w 0)]) (c_L_low l D Y r3 100 (by decide)) ⟨hx, hb, hml, hown, hta⟩ (cwL_46 hta ⟨Nat.le_of_ble_eq_true rfl, Nat.le_of_ble_eq_true rfl⟩) kX0b (fun _ _ _ => trivial) hK hNs hP hD (kJ_nil) rfl hl.1 rfl (Nat.le_of_ble_eq_true rfl) dL_act_137 ⟨Nat.le_of_ble_eq_true rfl, Nat.le_of_ble_eq_true rfl⟩) hP hD hS hA (kJ_nil) (fun _ => rfl) (fun r17 u H locs hw hP hD hS => ?_)
      clear hw
      have hP : va_P D vwCl (wC Y w a b d M N F o z P n t kd V vc) H := hP
      have hD : va_D A (wC Y w a b d M N F o z P n t kd V vc) := hD
      refine lv_iadd hx hb dL_act_140 ?_
      refine lv_iload hx hb dL_act_141 (lv_at hl 0 rfl) ?_
      refine lv_iload_n hx hb dL_act_143 rfl (lv_at hl 3 rfl) ?_
      refine lv_iconst (v := 5) hx hb dL_act_144 (by decide) ?_
      refine kc_i (krS (As := [.int r1, .int 5]) (rest := [.int (M 19 0), .int (1 + r17), .int (1 + r16), .int r15, .ref (w 0)]) (c_L_low l D Y r1 5 (by decide)) ⟨hx, hb, hml, hown, hta⟩ (cwL_46 hta ⟨Nat.le_of_ble_eq_true rfl, Nat.le_of_ble_eq_true rfl⟩) kX0b (fun _ _ _ => trivial) hK hNs hP hD (kJ_nil) rfl hl.1 rfl (Nat.le_of_ble_eq_true rfl) dL_act_145 ⟨Nat.le_of_ble_eq_true rfl, Nat.le_of_ble_eq_true rfl⟩) hP hD hS hA (kJ_nil) (fun _ => rfl) (fun r18 u H locs hw hP hD hS => ?_)
      clear hw
      have hP : va_P D vwCl (wC Y w a b d M N F o z P n t kd V vc) H := hP
      have hD : va_D A (wC Y w a b d M N F o z P n t kd V vc) := hD
      refine lv_iadd hx hb dL_act_148 ?_
      refine kc_in (krV (As := [.int r15, .int (1 + r16), .int (1 + r17), .int ((M 19 0) + r18)]) (rest := []) (c_X7_field l D Y w a b d M N F o z P n t kd V vc r15 (1 + r16) (1 + r17) ((M 19 0) + r18) hI ho hz) ⟨hx, hb, hml, hown, hta⟩ (cwL_49 hta ⟨Nat.le_of_ble_eq_true rfl, Nat.le_of_ble_eq_true rfl⟩) kX0b (fun _ _ _ => trivial) hK hNs hP hD (kJ_all) (q0 := 0) rfl rfl rfl rfl hl.1 rfl (Nat.le_of_ble_eq_true rfl) dL_act_149 ⟨Nat.le_of_ble_eq_true rfl, Nat.le_of_ble_eq_true rfl⟩) hP hD hS hA (kJn_all) (fun r20 u19 H locs hw hP hD hS => ?_)
      have hr2 := h.rec (pO_field h.1 r15 (1 + r16) (1 + r17) ((M 19 0) + r18)) hw
      have hP : va_P D vwCl (wC Y w a b d u19.1 N u19.2.1 u19.2.2.1 u19.2.2.2 P n t kd V vc) H := hP
      have hD : va_D A (wC Y w a b d u19.1 N u19.2.1 u19.2.2.1 u19.2.2.2 P n t kd V vc) := hD
      refine W.widen (k := 24) (n := 1518) (by first | exact Nat.le_refl _ | exact Nat.le_of_ble_eq_true rfl | omega) (by first | exact Nat.le_refl _ | exact Nat.le_of_ble_eq_true rfl | omega) ?_
      exact kiretn (u19) hQ hx hb hr hlocks hP hD hS dL_act_152 hr2
    · by_cases c21 : r6 = 2
      · refine lv_tableIn (off := 73) (tgt := 116) hx hb dL_act_43 (by rw [c21]; decide) (by rw [c21]; decide) (by rw [c21]; rfl) (by decide) ?_
        refine lv_aload_n hx hb dL_act_116 rfl (lv_at hl 4 rfl) ?_
        refine lv_iload_n hx hb dL_act_117 rfl (lv_at hl 3 rfl) ?_
        refine lv_bipush (v := 6) hx hb dL_act_118 (by decide) ?_
        refine kc_i (krS (As := [.int r1, .int 6]) (rest := [.ref (w 0)]) (c_L_low l D Y r1 6 (by decide)) ⟨hx, hb, hml, hown, hta⟩ (cwL_46 hta ⟨Nat.le_of_ble_eq_true rfl, Nat.le_of_ble_eq_true rfl⟩) kX0b (fun _ _ _ => trivial) hK hNs hP hD (kJ_nil) rfl hl.1 rfl (Nat.le_of_ble_eq_true rfl) dL_act_120 ⟨Nat.le_of_ble_eq_true rfl, Nat.le_of_ble_eq_true rfl⟩) hP hD hS hA (kJ_nil) (fun _ => rfl) (fun r22 u H locs hw hP hD hS => ?_)
        clear hw
        have hP : va_P D vwCl (wC Y w a b d M N F o z P n t kd V vc) H := hP
        have hD : va_D A (wC Y w a b d M N F o z P n t kd V vc) := hD
        refine lv_iconst (v := 1) hx hb dL_act_123 (by decide) ?_
        refine lv_iload hx hb dL_act_124 (lv_at hl 2 rfl) ?_
        refine lv_bipush (v := 90) hx hb dL_act_126 (by decide) ?_
        refine kc_i (krS (As := [.int r2, .int 90]) (rest := [.int 1, .int r22, .ref (w 0)]) (c_L_low l D Y r2 90 (by decide)) ⟨hx, hb, hml, hown, hta⟩ (cwL_46 hta ⟨Nat.le_of_ble_eq_true rfl, Nat.le_of_ble_eq_true rfl⟩) kX0b (fun _ _ _ => trivial) hK hNs hP hD (kJ_nil) rfl hl.1 rfl (Nat.le_of_ble_eq_true rfl) dL_act_128 ⟨Nat.le_of_ble_eq_true rfl, Nat.le_of_ble_eq_true rfl⟩) hP hD hS hA (kJ_nil) (fun _ => rfl) (fun r23 u H locs hw hP hD hS => ?_)
        clear hw
        have hP : va_P D vwCl (wC Y w a b d M N F o z P n t kd V vc) H := hP
        have hD : va_D A (wC Y w a b d M N F o z P n t kd V vc) := hD
        refine lv_iadd hx hb dL_act_131 ?_
        refine lv_iconst (v := 1) hx hb dL_act_132 (by decide) ?_
        refine lv_iload hx hb dL_act_133 (lv_at hl 1 rfl) ?_
        refine lv_bipush (v := 100) hx hb dL_act_135 (by decide) ?_
        refine kc_i (krS (As := [.int r3, .int 100]) (rest := [.int 1, .int (1 + r23), .int r22, .ref (w 0)]) (c_L_low l D Y r3 100 (by decide)) ⟨hx, hb, hml, hown, hta⟩ (cwL_46 hta ⟨Nat.le_of_ble_eq_true rfl, Nat.le_of_ble_eq_true rfl⟩) kX0b (fun _ _ _ => trivial) hK hNs hP hD (kJ_nil) rfl hl.1 rfl (Nat.le_of_ble_eq_true rfl) dL_act_137 ⟨Nat.le_of_ble_eq_true rfl, Nat.le_of_ble_eq_true rfl⟩) hP hD hS hA (kJ_nil) (fun _ => rfl) (fun r24 u H locs hw hP hD hS => ?_)
        clear hw
        have hP : va_P D vwCl (wC Y w a b d M N F o z P n t kd V vc) H := hP
        have hD : va_D A (wC Y w a b d M N F o z P n t kd V vc) := hD
        refine lv_iadd hx hb dL_act_140 ?_
        refine lv_iload hx hb dL_act_141 (lv_at hl 0 rfl) ?_
        refine lv_iload_n hx hb dL_act_143 rfl (lv_at hl 3 rfl) ?_
        refine lv_iconst (v := 5) hx hb dL_act_144 (by decide) ?_
        refine kc_i (krS (As := [.int r1, .int 5]) (rest := [.int (M 19 0), .int (1 + r24), .int (1 + r23), .int r22, .ref (w 0)]) (c_L_low l D Y r1 5 (by decide)) ⟨hx, hb, hml, hown, hta⟩ (cwL_46 hta ⟨Nat.le_of_ble_eq_true rfl, Nat.le_of_ble_eq_true rfl⟩) kX0b (fun _ _ _ => trivial) hK hNs hP hD (kJ_nil) rfl hl.1 rfl (Nat.le_of_ble_eq_true rfl) dL_act_145 ⟨Nat.le_of_ble_eq_true rfl, Nat.le_of_ble_eq_true rfl⟩) hP hD hS hA (kJ_nil) (fun _ => rfl) (fun r25 u H locs hw hP hD hS => ?_)
        clear hw
        have hP : va_P D vwCl (wC Y w a b d M N F o z P n t kd V vc) H := hP
        have hD : va_D A (wC Y w a b d M N F o z P n t kd V vc) := hD
        refine lv_iadd hx hb dL_act_148 ?_
        refine kc_in (krV (As := [.int r22, .int (1 + r23), .int (1 + r24), .int ((M 19 0) + r25)]) (rest := []) (c_X7_field l D Y w a b d M N F o z P n t kd V vc r22 (1 + r23) (1 + r24) ((M 19 0) + r25) hI ho hz) ⟨hx, hb, hml, hown, hta⟩ (cwL_49 hta ⟨Nat.le_of_ble_eq_true rfl, Nat.le_of_ble_eq_true rfl⟩) kX0b (fun _ _ _ => trivial) hK hNs hP hD (kJ_all) (q0 := 0) rfl rfl rfl rfl hl.1 rfl (Nat.le_of_ble_eq_true rfl) dL_act_149 ⟨Nat.le_of_ble_eq_true rfl, Nat.le_of_ble_eq_true rfl⟩) hP hD hS hA (kJn_all) (fun r27 u26 H locs hw hP hD hS => ?_)
        have hr2 := h.rec (pO_field h.1 r22 (1 + r23) (1 + r24) ((M 19 0) + r25)) hw
        have hP : va_P D vwCl (wC Y w a b d u26.1 N u26.2.1 u26.2.2.1 u26.2.2.2 P n t kd V vc) H := hP
        have hD : va_D A (wC Y w a b d u26.1 N u26.2.1 u26.2.2.1 u26.2.2.2 P n t kd V vc) := hD
        refine W.widen (k := 24) (n := 1518) (by first | exact Nat.le_refl _ | exact Nat.le_of_ble_eq_true rfl | omega) (by first | exact Nat.le_refl _ | exact Nat.le_of_ble_eq_true rfl | omega) ?_
        exact kiretn (u26) hQ hx hb hr hlocks hP hD hS dL_act_152 hr2
      · by_cases c28 : r6 = 3
        · refine lv_tableIn (off := 73) (tgt := 116) hx hb dL_act_43 (by rw [c28]; decide) (by rw [c28]; decide) (by rw [c28]; rfl) (by decide) ?_
          refine lv_aload_n hx hb dL_act_116 rfl (lv_at hl 4 rfl) ?_
          refine lv_iload_n hx hb dL_act_117 rfl (lv_at hl 3 rfl) ?_
          refine lv_bipush (v := 6) hx hb dL_act_118 (by decide) ?_
          refine kc_i (krS (As := [.int r1, .int 6]) (rest := [.ref (w 0)]) (c_L_low l D Y r1 6 (by decide)) ⟨hx, hb, hml, hown, hta⟩ (cwL_46 hta ⟨Nat.le_of_ble_eq_true rfl, Nat.le_of_ble_eq_true rfl⟩) kX0b (fun _ _ _ => trivial) hK hNs hP hD (kJ_nil) rfl hl.1 rfl (Nat.le_of_ble_eq_true rfl) dL_act_120 ⟨Nat.le_of_ble_eq_true rfl, Nat.le_of_ble_eq_true rfl⟩) hP hD hS hA (kJ_nil) (fun _ => rfl) (fun r29 u H locs hw hP hD hS => ?_)
          clear hw
          have hP : va_P D vwCl (wC Y w a b d M N F o z P n t kd V vc) H := hP
          have hD : va_D A (wC Y w a b d M N F o z P n t kd V vc) := hD
          refine lv_iconst (v := 1) hx hb dL_act_123 (by decide) ?_
          refine lv_iload hx hb dL_act_124 (lv_at hl 2 rfl) ?_
          refine lv_bipush (v := 90) hx hb dL_act_126 (by decide) ?_
          refine kc_i (krS (As := [.int r2, .int 90]) (rest := [.int 1, .int r29, .ref (w 0)]) (c_L_low l D Y r2 90 (by decide)) ⟨hx, hb, hml, hown, hta⟩ (cwL_46 hta ⟨Nat.le_of_ble_eq_true rfl, Nat.le_of_ble_eq_true rfl⟩) kX0b (fun _ _ _ => trivial) hK hNs hP hD (kJ_nil) rfl hl.1 rfl (Nat.le_of_ble_eq_true rfl) dL_act_128 ⟨Nat.le_of_ble_eq_true rfl, Nat.le_of_ble_eq_true rfl⟩) hP hD hS hA (kJ_nil) (fun _ => rfl) (fun r30 u H locs hw hP hD hS => ?_)
          clear hw
          have hP : va_P D vwCl (wC Y w a b d M N F o z P n t kd V vc) H := hP
          have hD : va_D A (wC Y w a b d M N F o z P n t kd V vc) := hD
          refine lv_iadd hx hb dL_act_131 ?_
          refine lv_iconst (v := 1) hx hb dL_act_132 (by decide) ?_
          refine lv_iload hx hb dL_act_133 (lv_at hl 1 rfl) ?_
          refine lv_bipush (v := 100) hx hb dL_act_135 (by decide) ?_
          refine kc_i (krS (As := [.int r3, .int 100]) (rest := [.int 1, .int (1 + r30), .int r29, .ref (w 0)]) (c_L_low l D Y r3 100 (by decide)) ⟨hx, hb, hml, hown, hta⟩ (cwL_46 hta ⟨Nat.le_of_ble_eq_true rfl, Nat.le_of_ble_eq_true rfl⟩) kX0b (fun _ _ _ => trivial) hK hNs hP hD (kJ_nil) rfl hl.1 rfl (Nat.le_of_ble_eq_true rfl) dL_act_137 ⟨Nat.le_of_ble_eq_true rfl, Nat.le_of_ble_eq_true rfl⟩) hP hD hS hA (kJ_nil) (fun _ => rfl) (fun r31 u H locs hw hP hD hS => ?_)
          clear hw
          have hP : va_P D vwCl (wC Y w a b d M N F o z P n t kd V vc) H := hP
          have hD : va_D A (wC Y w a b d M N F o z P n t kd V vc) := hD
          refine lv_iadd hx hb dL_act_140 ?_
          refine lv_iload hx hb dL_act_141 (lv_at hl 0 rfl) ?_
          refine lv_iload_n hx hb dL_act_143 rfl (lv_at hl 3 rfl) ?_
          refine lv_iconst (v := 5) hx hb dL_act_144 (by decide) ?_
          refine kc_i (krS (As := [.int r1, .int 5]) (rest := [.int (M 19 0), .int (1 + r31), .int (1 + r30), .int r29, .ref (w 0)]) (c_L_low l D Y r1 5 (by decide)) ⟨hx, hb, hml, hown, hta⟩ (cwL_46 hta ⟨Nat.le_of_ble_eq_true rfl, Nat.le_of_ble_eq_true rfl⟩) kX0b (fun _ _ _ => trivial) hK hNs hP hD (kJ_nil) rfl hl.1 rfl (Nat.le_of_ble_eq_true rfl) dL_act_145 ⟨Nat.le_of_ble_eq_true rfl, Nat.le_of_ble_eq_true rfl⟩) hP hD hS hA (kJ_nil) (fun _ => rfl) (fun r32 u H locs hw hP hD hS => ?_)
          clear hw
          have hP : va_P D vwCl (wC Y w a b d M N F o z P n t kd V vc) H := hP
          have hD : va_D A (wC Y w a b d M N F o z P n t kd V vc) := hD
          refine lv_iadd hx hb dL_act_148 ?_
          refine kc_in (krV (As := [.int r29, .int (1 + r30), .int (1 + r31), .int ((M 19 0) + r32)]) (rest := []) (c_X7_field l D Y w a b d M N F o z P n t kd V vc r29 (1 + r30) (1 + r31) ((M 19 0) + r32) hI ho hz) ⟨hx, hb, hml, hown, hta⟩ (cwL_49 hta ⟨Nat.le_of_ble_eq_true rfl, Nat.le_of_ble_eq_true rfl⟩) kX0b (fun _ _ _ => trivial) hK hNs hP hD (kJ_all) (q0 := 0) rfl rfl rfl rfl hl.1 rfl (Nat.le_of_ble_eq_true rfl) dL_act_149 ⟨Nat.le_of_ble_eq_true rfl, Nat.le_of_ble_eq_true rfl⟩) hP hD hS hA (kJn_all) (fun r34 u33 H locs hw hP hD hS => ?_)
          have hr2 := h.rec (pO_field h.1 r29 (1 + r30) (1 + r31) ((M 19 0) + r32)) hw
          have hP : va_P D vwCl (wC Y w a b d u33.1 N u33.2.1 u33.2.2.1 u33.2.2.2 P n t kd V vc) H := hP
          have hD : va_D A (wC Y w a b d u33.1 N u33.2.1 u33.2.2.1 u33.2.2.2 P n t kd V vc) := hD
          refine W.widen (k := 24) (n := 1518) (by first | exact Nat.le_refl _ | exact Nat.le_of_ble_eq_true rfl | omega) (by first | exact Nat.le_refl _ | exact Nat.le_of_ble_eq_true rfl | omega) ?_
          exact kiretn (u33) hQ hx hb hr hlocks hP hD hS dL_act_152 hr2
        · by_cases c35 : r6 = 4
          · refine lv_tableIn (off := 73) (tgt := 116) hx hb dL_act_43 (by rw [c35]; decide) (by rw [c35]; decide) (by rw [c35]; rfl) (by decide) ?_
            refine lv_aload_n hx hb dL_act_116 rfl (lv_at hl 4 rfl) ?_
            refine lv_iload_n hx hb dL_act_117 rfl (lv_at hl 3 rfl) ?_
            refine lv_bipush (v := 6) hx hb dL_act_118 (by decide) ?_
            refine kc_i (krS (As := [.int r1, .int 6]) (rest := [.ref (w 0)]) (c_L_low l D Y r1 6 (by decide)) ⟨hx, hb, hml, hown, hta⟩ (cwL_46 hta ⟨Nat.le_of_ble_eq_true rfl, Nat.le_of_ble_eq_true rfl⟩) kX0b (fun _ _ _ => trivial) hK hNs hP hD (kJ_nil) rfl hl.1 rfl (Nat.le_of_ble_eq_true rfl) dL_act_120 ⟨Nat.le_of_ble_eq_true rfl, Nat.le_of_ble_eq_true rfl⟩) hP hD hS hA (kJ_nil) (fun _ => rfl) (fun r36 u H locs hw hP hD hS => ?_)
            clear hw
            have hP : va_P D vwCl (wC Y w a b d M N F o z P n t kd V vc) H := hP
            have hD : va_D A (wC Y w a b d M N F o z P n t kd V vc) := hD
            refine lv_iconst (v := 1) hx hb dL_act_123 (by decide) ?_
            refine lv_iload hx hb dL_act_124 (lv_at hl 2 rfl) ?_
            refine lv_bipush (v := 90) hx hb dL_act_126 (by decide) ?_
            refine kc_i (krS (As := [.int r2, .int 90]) (rest := [.int 1, .int r36, .ref (w 0)]) (c_L_low l D Y r2 90 (by decide)) ⟨hx, hb, hml, hown, hta⟩ (cwL_46 hta ⟨Nat.le_of_ble_eq_true rfl, Nat.le_of_ble_eq_true rfl⟩) kX0b (fun _ _ _ => trivial) hK hNs hP hD (kJ_nil) rfl hl.1 rfl (Nat.le_of_ble_eq_true rfl) dL_act_128 ⟨Nat.le_of_ble_eq_true rfl, Nat.le_of_ble_eq_true rfl⟩) hP hD hS hA (kJ_nil) (fun _ => rfl) (fun r37 u H locs hw hP hD hS => ?_)
            clear hw
            have hP : va_P D vwCl (wC Y w a b d M N F o z P n t kd V vc) H := hP
            have hD : va_D A (wC Y w a b d M N F o z P n t kd V vc) := hD
            refine lv_iadd hx hb dL_act_131 ?_
            refine lv_iconst (v := 1) hx hb dL_act_132 (by decide) ?_
            refine lv_iload hx hb dL_act_133 (lv_at hl 1 rfl) ?_
            refine lv_bipush (v := 100) hx hb dL_act_135 (by decide) ?_
            refine kc_i (krS (As := [.int r3, .int 100]) (rest := [.int 1, .int (1 + r37), .int r36, .ref (w 0)]) (c_L_low l D Y r3 100 (by decide)) ⟨hx, hb, hml, hown, hta⟩ (cwL_46 hta ⟨Nat.le_of_ble_eq_true rfl, Nat.le_of_ble_eq_true rfl⟩) kX0b (fun _ _ _ => trivial) hK hNs hP hD (kJ_nil) rfl hl.1 rfl (Nat.le_of_ble_eq_true rfl) dL_act_137 ⟨Nat.le_of_ble_eq_true rfl, Nat.le_of_ble_eq_true rfl⟩) hP hD hS hA (kJ_nil) (fun _ => rfl) (fun r38 u H locs hw hP hD hS => ?_)
            clear hw
            have hP : va_P D vwCl (wC Y w a b d M N F o z P n t kd V vc) H := hP
            have hD : va_D A (wC Y w a b d M N F o z P n t kd V vc) := hD
            refine lv_iadd hx hb dL_act_140 ?_
            refine lv_iload hx hb dL_act_141 (lv_at hl 0 rfl) ?_
            refine lv_iload_n hx hb dL_act_143 rfl (lv_at hl 3 rfl) ?_
            refine lv_iconst (v := 5) hx hb dL_act_144 (by decide) ?_
            refine kc_i (krS (As := [.int r1, .int 5]) (rest := [.int (M 19 0), .int (1 + r38), .int (1 + r37), .int r36, .ref (w 0)]) (c_L_low l D Y r1 5 (by decide)) ⟨hx, hb, hml, hown, hta⟩ (cwL_46 hta ⟨Nat.le_of_ble_eq_true rfl, Nat.le_of_ble_eq_true rfl⟩) kX0b (fun _ _ _ => trivial) hK hNs hP hD (kJ_nil) rfl hl.1 rfl (Nat.le_of_ble_eq_true rfl) dL_act_145 ⟨Nat.le_of_ble_eq_true rfl, Nat.le_of_ble_eq_true rfl⟩) hP hD hS hA (kJ_nil) (fun _ => rfl) (fun r39 u H locs hw hP hD hS => ?_)
            clear hw
            have hP : va_P D vwCl (wC Y w a b d M N F o z P n t kd V vc) H := hP
            have hD : va_D A (wC Y w a b d M N F o z P n t kd V vc) := hD
            refine lv_iadd hx hb dL_act_148 ?_
            refine kc_in (krV (As := [.int r36, .int (1 + r37), .int (1 + r38), .int ((M 19 0) + r39)]) (rest := []) (c_X7_field l D Y w a b d M N F o z P n t kd V vc r36 (1 + r37) (1 + r38) ((M 19 0) + r39) hI ho hz) ⟨hx, hb, hml, hown, hta⟩ (cwL_49 hta ⟨Nat.le_of_ble_eq_true rfl, Nat.le_of_ble_eq_true rfl⟩) kX0b (fun _ _ _ => trivial) hK hNs hP hD (kJ_all) (q0 := 0) rfl rfl rfl rfl hl.1 rfl (Nat.le_of_ble_eq_true rfl) dL_act_149 ⟨Nat.le_of_ble_eq_true rfl, Nat.le_of_ble_eq_true rfl⟩) hP hD hS hA (kJn_all) (fun r41 u40 H locs hw hP hD hS => ?_)
            have hr2 := h.rec (pO_field h.1 r36 (1 + r37) (1 + r38) ((M 19 0) + r39)) hw
            have hP : va_P D vwCl (wC Y w a b d u40.1 N u40.2.1 u40.2.2.1 u40.2.2.2 P n t kd V vc) H := hP
            have hD : va_D A (wC Y w a b d u40.1 N u40.2.1 u40.2.2.1 u40.2.2.2 P n t kd V vc) := hD
            refine W.widen (k := 24) (n := 1518) (by first | exact Nat.le_refl _ | exact Nat.le_of_ble_eq_true rfl | omega) (by first | exact Nat.le_refl _ | exact Nat.le_of_ble_eq_true rfl | omega) ?_
            exact kiretn (u40) hQ hx hb hr hlocks hP hD hS dL_act_152 hr2
          · by_cases c42 : r6 = 5
            · refine lv_tableIn (off := 110) (tgt := 153) hx hb dL_act_43 (by rw [c42]; decide) (by rw [c42]; decide) (by rw [c42]; rfl) (by decide) ?_
              refine lv_aload_n hx hb dL_act_153 rfl (lv_at hl 4 rfl) ?_
              refine lv_iload_n hx hb dL_act_154 rfl (lv_at hl 3 rfl) ?_
              refine lv_bipush (v := 6) hx hb dL_act_155 (by decide) ?_
              refine kc_i (krS (As := [.int r1, .int 6]) (rest := [.ref (w 0)]) (c_L_low l D Y r1 6 (by decide)) ⟨hx, hb, hml, hown, hta⟩ (cwL_46 hta ⟨Nat.le_of_ble_eq_true rfl, Nat.le_of_ble_eq_true rfl⟩) kX0b (fun _ _ _ => trivial) hK hNs hP hD (kJ_nil) rfl hl.1 rfl (Nat.le_of_ble_eq_true rfl) dL_act_157 ⟨Nat.le_of_ble_eq_true rfl, Nat.le_of_ble_eq_true rfl⟩) hP hD hS hA (kJ_nil) (fun _ => rfl) (fun r43 u H locs hw hP hD hS => ?_)
              clear hw
              have hP : va_P D vwCl (wC Y w a b d M N F o z P n t kd V vc) H := hP
              have hD : va_D A (wC Y w a b d M N F o z P n t kd V vc) := hD
              refine lv_iload hx hb dL_act_160 (lv_at hl 2 rfl) ?_
              refine lv_sipush (v := 300) hx hb dL_act_162 (by decide) ?_
              refine kc_i (krS (As := [.int r2, .int 300]) (rest := [.int r43, .ref (w 0)]) (c_L_low l D Y r2 300 (by decide)) ⟨hx, hb, hml, hown, hta⟩ (cwL_46 hta ⟨Nat.le_of_ble_eq_true rfl, Nat.le_of_ble_eq_true rfl⟩) kX0b (fun _ _ _ => trivial) hK hNs hP hD (kJ_nil) rfl hl.1 rfl (Nat.le_of_ble_eq_true rfl) dL_act_165 ⟨Nat.le_of_ble_eq_true rfl, Nat.le_of_ble_eq_true rfl⟩) hP hD hS hA (kJ_nil) (fun _ => rfl) (fun r44 u H locs hw hP hD hS => ?_)
              clear hw
              have hP : va_P D vwCl (wC Y w a b d M N F o z P n t kd V vc) H := hP
              have hD : va_D A (wC Y w a b d M N F o z P n t kd V vc) := hD
              refine kc_in (krV (As := [.int r43, .int r44]) (rest := []) (c_X7_quota l D Y w a b d M N F o z P n t kd V vc r43 r44 hI ho hz) ⟨hx, hb, hml, hown, hta⟩ (cwL_53 hta ⟨Nat.le_of_ble_eq_true rfl, Nat.le_of_ble_eq_true rfl⟩) kX0b (fun _ _ _ => trivial) hK hNs hP hD (kJ_all) (q0 := 0) rfl rfl rfl rfl hl.1 rfl (Nat.le_of_ble_eq_true rfl) dL_act_168 ⟨Nat.le_of_ble_eq_true rfl, Nat.le_of_ble_eq_true rfl⟩) hP hD hS hA (kJn_all) (fun r46 u45 H locs hw hP hD hS => ?_)
              have hr2 := h.rec (pO_quota h.1 r43 r44) hw
              have hP : va_P D vwCl (wC Y w a b d u45.1 N u45.2.1 u45.2.2.1 u45.2.2.2 P n t kd V vc) H := hP
              have hD : va_D A (wC Y w a b d u45.1 N u45.2.1 u45.2.2.1 u45.2.2.2 P n t kd V vc) := hD
              refine W.widen (k := 24) (n := 1518) (by first | exact Nat.le_refl _ | exact Nat.le_of_ble_eq_true rfl | omega) (by first | exact Nat.le_refl _ | exact Nat.le_of_ble_eq_true rfl | omega) ?_
              exact kiretn (u45) hQ hx hb hr hlocks hP hD hS dL_act_171 hr2
            · by_cases c47 : r6 = 6
              · refine lv_tableIn (off := 129) (tgt := 172) hx hb dL_act_43 (by rw [c47]; decide) (by rw [c47]; decide) (by rw [c47]; rfl) (by decide) ?_
                refine lv_aload_n hx hb dL_act_172 rfl (lv_at hl 4 rfl) ?_
                refine lv_iload_n hx hb dL_act_173 rfl (lv_at hl 3 rfl) ?_
                refine lv_bipush (v := 6) hx hb dL_act_174 (by decide) ?_
                refine kc_i (krS (As := [.int r1, .int 6]) (rest := [.ref (w 0)]) (c_L_low l D Y r1 6 (by decide)) ⟨hx, hb, hml, hown, hta⟩ (cwL_46 hta ⟨Nat.le_of_ble_eq_true rfl, Nat.le_of_ble_eq_true rfl⟩) kX0b (fun _ _ _ => trivial) hK hNs hP hD (kJ_nil) rfl hl.1 rfl (Nat.le_of_ble_eq_true rfl) dL_act_176 ⟨Nat.le_of_ble_eq_true rfl, Nat.le_of_ble_eq_true rfl⟩) hP hD hS hA (kJ_nil) (fun _ => rfl) (fun r48 u H locs hw hP hD hS => ?_)
                clear hw
                have hP : va_P D vwCl (wC Y w a b d M N F o z P n t kd V vc) H := hP
                have hD : va_D A (wC Y w a b d M N F o z P n t kd V vc) := hD
                refine lv_iload hx hb dL_act_179 (lv_at hl 2 rfl) ?_
                refine lv_bipush (v := 6) hx hb dL_act_181 (by decide) ?_
                refine kc_i (krS (As := [.int r2, .int 6]) (rest := [.int r48, .ref (w 0)]) (c_L_low l D Y r2 6 (by decide)) ⟨hx, hb, hml, hown, hta⟩ (cwL_46 hta ⟨Nat.le_of_ble_eq_true rfl, Nat.le_of_ble_eq_true rfl⟩) kX0b (fun _ _ _ => trivial) hK hNs hP hD (kJ_nil) rfl hl.1 rfl (Nat.le_of_ble_eq_true rfl) dL_act_183 ⟨Nat.le_of_ble_eq_true rfl, Nat.le_of_ble_eq_true rfl⟩) hP hD hS hA (kJ_nil) (fun _ => rfl) (fun r49 u H locs hw hP hD hS => ?_)
                clear hw
                have hP : va_P D vwCl (wC Y w a b d M N F o z P n t kd V vc) H := hP
                have hD : va_D A (wC Y w a b d M N F o z P n t kd V vc) := hD
                refine lv_iload hx hb dL_act_186 (lv_at hl 1 rfl) ?_
                refine lv_bipush (v := 60) hx hb dL_act_188 (by decide) ?_
                refine kc_i (krS (As := [.int r3, .int 60]) (rest := [.int r49, .int r48, .ref (w 0)]) (c_L_low l D Y r3 60 (by decide)) ⟨hx, hb, hml, hown, hta⟩ (cwL_46 hta ⟨Nat.le_of_ble_eq_true rfl, Nat.le_of_ble_eq_true rfl⟩) kX0b (fun _ _ _ => trivial) hK hNs hP hD (kJ_nil) rfl hl.1 rfl (Nat.le_of_ble_eq_true rfl) dL_act_190 ⟨Nat.le_of_ble_eq_true rfl, Nat.le_of_ble_eq_true rfl⟩) hP hD hS hA (kJ_nil) (fun _ => rfl) (fun r50 u H locs hw hP hD hS => ?_)
                clear hw
                have hP : va_P D vwCl (wC Y w a b d M N F o z P n t kd V vc) H := hP
                have hD : va_D A (wC Y w a b d M N F o z P n t kd V vc) := hD
                refine kc_in (krV (As := [.int r48, .int r49, .int r50]) (rest := []) (c_X7_lend l D Y w a b d M N F o z P n t kd V vc r48 r49 r50 hI ho hz) ⟨hx, hb, hml, hown, hta⟩ (cwL_56 hta ⟨Nat.le_of_ble_eq_true rfl, Nat.le_of_ble_eq_true rfl⟩) kX0b (fun _ _ _ => trivial) hK hNs hP hD (kJ_all) (q0 := 0) rfl rfl rfl rfl hl.1 rfl (Nat.le_of_ble_eq_true rfl) dL_act_193 ⟨Nat.le_of_ble_eq_true rfl, Nat.le_of_ble_eq_true rfl⟩) hP hD hS hA (kJn_all) (fun r52 u51 H locs hw hP hD hS => ?_)
                have hr2 := h.rec (pO_lend h.1 r48 r49 r50) hw
                have hP : va_P D vwCl (wC Y w a b d u51.1 N u51.2.1 u51.2.2.1 u51.2.2.2 P n t kd V vc) H := hP
                have hD : va_D A (wC Y w a b d u51.1 N u51.2.1 u51.2.2.1 u51.2.2.2 P n t kd V vc) := hD
                refine W.widen (k := 24) (n := 1518) (by first | exact Nat.le_refl _ | exact Nat.le_of_ble_eq_true rfl | omega) (by first | exact Nat.le_refl _ | exact Nat.le_of_ble_eq_true rfl | omega) ?_
                exact kiretn (u51) hQ hx hb hr hlocks hP hD hS dL_act_196 hr2
              · by_cases c53 : r6 = 7
                · refine lv_tableIn (off := 154) (tgt := 197) hx hb dL_act_43 (by rw [c53]; decide) (by rw [c53]; decide) (by rw [c53]; rfl) (by decide) ?_
                  refine lv_aload_n hx hb dL_act_197 rfl (lv_at hl 4 rfl) ?_
                  refine lv_iload hx hb dL_act_198 (lv_at hl 0 rfl) ?_
                  refine lv_iload_n hx hb dL_act_200 rfl (lv_at hl 3 rfl) ?_
                  refine lv_iconst (v := 4) hx hb dL_act_201 (by decide) ?_
                  refine kc_i (krS (As := [.int r1, .int 4]) (rest := [.int (M 19 0), .ref (w 0)]) (c_L_low l D Y r1 4 (by decide)) ⟨hx, hb, hml, hown, hta⟩ (cwL_46 hta ⟨Nat.le_of_ble_eq_true rfl, Nat.le_of_ble_eq_true rfl⟩) kX0b (fun _ _ _ => trivial) hK hNs hP hD (kJ_nil) rfl hl.1 rfl (Nat.le_of_ble_eq_true rfl) dL_act_202 ⟨Nat.le_of_ble_eq_true rfl, Nat.le_of_ble_eq_true rfl⟩) hP hD hS hA (kJ_nil) (fun _ => rfl) (fun r54 u H locs hw hP hD hS => ?_)
                  clear hw
                  have hP : va_P D vwCl (wC Y w a b d M N F o z P n t kd V vc) H := hP
                  have hD : va_D A (wC Y w a b d M N F o z P n t kd V vc) := hD
                  refine lv_iadd hx hb dL_act_205 ?_
                  refine lv_iload hx hb dL_act_206 (lv_at hl 0 rfl) ?_
                  refine lv_iload hx hb dL_act_208 (lv_at hl 2 rfl) ?_
                  refine lv_bipush (v := 6) hx hb dL_act_210 (by decide) ?_
                  refine kc_i (krS (As := [.int r2, .int 6]) (rest := [.int (M 19 0), .int ((M 19 0) + r54), .ref (w 0)]) (c_L_low l D Y r2 6 (by decide)) ⟨hx, hb, hml, hown, hta⟩ (cwL_46 hta ⟨Nat.le_of_ble_eq_true rfl, Nat.le_of_ble_eq_true rfl⟩) kX0b (fun _ _ _ => trivial) hK hNs hP hD (kJ_nil) rfl hl.1 rfl (Nat.le_of_ble_eq_true rfl) dL_act_212 ⟨Nat.le_of_ble_eq_true rfl, Nat.le_of_ble_eq_true rfl⟩) hP hD hS hA (kJ_nil) (fun _ => rfl) (fun r55 u H locs hw hP hD hS => ?_)
                  clear hw
                  have hP : va_P D vwCl (wC Y w a b d M N F o z P n t kd V vc) H := hP
                  have hD : va_D A (wC Y w a b d M N F o z P n t kd V vc) := hD
                  refine lv_iadd hx hb dL_act_215 ?_
                  refine kc_in (krV (As := [.int ((M 19 0) + r54), .int ((M 19 0) + r55)]) (rest := []) (c_X7_stop l D Y w a b d M N F o z P n t kd V vc ((M 19 0) + r54) ((M 19 0) + r55) hI ho hz) ⟨hx, hb, hml, hown, hta⟩ (cwL_60 hta ⟨Nat.le_of_ble_eq_true rfl, Nat.le_of_ble_eq_true rfl⟩) kX0b (fun _ _ _ => trivial) hK hNs hP hD (kJ_all) (q0 := 0) rfl rfl rfl rfl hl.1 rfl (Nat.le_of_ble_eq_true rfl) dL_act_216 ⟨Nat.le_of_ble_eq_true rfl, Nat.le_of_ble_eq_true rfl⟩) hP hD hS hA (kJn_all) (fun r57 u56 H locs hw hP hD hS => ?_)
                  have hr2 := h.rec (pO_stop h.1 ((M 19 0) + r54) ((M 19 0) + r55)) hw
                  have hP : va_P D vwCl (wC Y w a b d u56.1 N u56.2.1 u56.2.2.1 u56.2.2.2 P n t kd V vc) H := hP
                  have hD : va_D A (wC Y w a b d u56.1 N u56.2.1 u56.2.2.1 u56.2.2.2 P n t kd V vc) := hD
                  refine W.widen (k := 24) (n := 1518) (by first | exact Nat.le_refl _ | exact Nat.le_of_ble_eq_true rfl | omega) (by first | exact Nat.le_refl _ | exact Nat.le_of_ble_eq_true rfl | omega) ?_
                  exact kiretn (u56) hQ hx hb hr hlocks hP hD hS dL_act_219 hr2
                · by_cases c58 : r6 = 8
                  · refine lv_tableIn (off := 177) (tgt := 220) hx hb dL_act_43 (by rw [c58]; decide) (by rw [c58]; decide) (by rw [c58]; rfl) (by decide) ?_
                    refine lv_aload_n hx hb dL_act_220 rfl (lv_at hl 4 rfl) ?_
                    refine lv_iload_n hx hb dL_act_221 rfl (lv_at hl 3 rfl) ?_
                    refine lv_iconst (v := 3) hx hb dL_act_222 (by decide) ?_
                    refine kc_i (krS (As := [.int r1, .int 3]) (rest := [.ref (w 0)]) (c_L_low l D Y r1 3 (by decide)) ⟨hx, hb, hml, hown, hta⟩ (cwL_46 hta ⟨Nat.le_of_ble_eq_true rfl, Nat.le_of_ble_eq_true rfl⟩) kX0b (fun _ _ _ => trivial) hK hNs hP hD (kJ_nil) rfl hl.1 rfl (Nat.le_of_ble_eq_true rfl) dL_act_223 ⟨Nat.le_of_ble_eq_true rfl, Nat.le_of_ble_eq_true rfl⟩) hP hD hS hA (kJ_nil) (fun _ => rfl) (fun r59 u H locs hw hP hD hS => ?_)
                    clear hw
                    have hP : va_P D vwCl (wC Y w a b d M N F o z P n t kd V vc) H := hP
                    have hD : va_D A (wC Y w a b d M N F o z P n t kd V vc) := hD
                    refine kc_in (krV (As := [.int r59]) (rest := []) (c_X7_dropStop l D Y w a b d M N F o z P n t kd V vc r59 hI ho hz) ⟨hx, hb, hml, hown, hta⟩ (cwL_63 hta ⟨Nat.le_of_ble_eq_true rfl, Nat.le_of_ble_eq_true rfl⟩) kX0b (fun _ _ _ => trivial) hK hNs hP hD (kJ_all) (q0 := 0) rfl rfl rfl rfl hl.1 rfl (Nat.le_of_ble_eq_true rfl) dL_act_226 ⟨Nat.le_of_ble_eq_true rfl, Nat.le_of_ble_eq_true rfl⟩) hP hD hS hA (kJn_all) (fun r61 u60 H locs hw hP hD hS => ?_)
                    have hr2 := h.rec (pO_dropStop h.1 r59) hw
                    have hP : va_P D vwCl (wC Y w a b d u60.1 N u60.2.1 u60.2.2.1 u60.2.2.2 P n t kd V vc) H := hP
                    have hD : va_D A (wC Y w a b d u60.1 N u60.2.1 u60.2.2.1 u60.2.2.2 P n t kd V vc) := hD
                    refine W.widen (k := 24) (n := 1518) (by first | exact Nat.le_refl _ | exact Nat.le_of_ble_eq_true rfl | omega) (by first | exact Nat.le_refl _ | exact Nat.le_of_ble_eq_true rfl | omega) ?_
                    exact kiretn (u60) hQ hx hb hr hlocks hP hD hS dL_act_229 hr2
                  · by_cases c62 : r6 = 9
                    · refine lv_tableIn (off := 187) (tgt := 230) hx hb dL_act_43 (by rw [c62]; decide) (by rw [c62]; decide) (by rw [c62]; rfl) (by decide) ?_
                      refine lv_aload_n hx hb dL_act_230 rfl (lv_at hl 4 rfl) ?_
                      refine lv_iconst (v := 0) hx hb dL_act_231 (by decide) ?_
                      refine lv_iload hx hb dL_act_232 (lv_at hl 2 rfl) ?_
                      refine lv_bipush (v := 21) hx hb dL_act_234 (by decide) ?_
                      refine kc_i (krS (As := [.int r2, .int 21]) (rest := [.int 0, .ref (w 0)]) (c_L_low l D Y r2 21 (by decide)) ⟨hx, hb, hml, hown, hta⟩ (cwL_46 hta ⟨Nat.le_of_ble_eq_true rfl, Nat.le_of_ble_eq_true rfl⟩) kX0b (fun _ _ _ => trivial) hK hNs hP hD (kJ_nil) rfl hl.1 rfl (Nat.le_of_ble_eq_true rfl) dL_act_236 ⟨Nat.le_of_ble_eq_true rfl, Nat.le_of_ble_eq_true rfl⟩) hP hD hS hA (kJ_nil) (fun _ => rfl) (fun r63 u H locs hw hP hD hS => ?_)
                      clear hw
                      have hP : va_P D vwCl (wC Y w a b d M N F o z P n t kd V vc) H := hP
                      have hD : va_D A (wC Y w a b d M N F o z P n t kd V vc) := hD
                      refine kc_in (krV (As := [.int 0, .int r63]) (rest := []) (c_X7_set l D Y w a b d M N F o z P n t kd V vc base ad av 0 r63 hI ho hz hB) ⟨hx, hb, hml, hown, hta⟩ (cwL_66 hta ⟨Nat.le_of_ble_eq_true rfl, Nat.le_of_ble_eq_true rfl⟩) kXb_E (fun U hU hw => kZ_E (kZ_go hX0 hS hAb U hU hw)) hK hNs hP hD (kJ_all) (q0 := 0) rfl rfl rfl rfl hl.1 rfl (Nat.le_of_ble_eq_true rfl) dL_act_239 ⟨Nat.le_of_ble_eq_true rfl, Nat.le_of_ble_eq_true rfl⟩) hP hD hS hA (kJn_all) (fun r65 u64 H locs hw hP hD hS => ?_)
                      have hr2 := h.rec (pO_set h.1 0 r63) hw
                      have hP : va_P D vwCl (wC Y w a b d u64.1 N u64.2.1 u64.2.2.1 u64.2.2.2 P n t kd V vc) H := hP
                      have hD : va_D A (wC Y w a b d u64.1 N u64.2.1 u64.2.2.1 u64.2.2.2 P n t kd V vc) := hD
                      refine W.widen (k := 24) (n := 1518) (by first | exact Nat.le_refl _ | exact Nat.le_of_ble_eq_true rfl | omega) (by first | exact Nat.le_refl _ | exact Nat.le_of_ble_eq_true rfl | omega) ?_
                      exact kiretn (u64) hQ hx hb hr hlocks hP hD hS dL_act_242 hr2
                    · by_cases c66 : r6 = 10
                      · refine lv_tableIn (off := 200) (tgt := 243) hx hb dL_act_43 (by rw [c66]; decide) (by rw [c66]; decide) (by rw [c66]; rfl) (by decide) ?_
                        refine lv_aload_n hx hb dL_act_243 rfl (lv_at hl 4 rfl) ?_
                        refine lv_iconst (v := 1) hx hb dL_act_244 (by decide) ?_
                        refine lv_iload_n hx hb dL_act_245 rfl (lv_at hl 3 rfl) ?_
                        refine lv_iconst (v := 2) hx hb dL_act_246 (by decide) ?_
                        refine kc_i (krS (As := [.int r1, .int 2]) (rest := [.int 1, .ref (w 0)]) (c_L_low l D Y r1 2 (by decide)) ⟨hx, hb, hml, hown, hta⟩ (cwL_46 hta ⟨Nat.le_of_ble_eq_true rfl, Nat.le_of_ble_eq_true rfl⟩) kX0b (fun _ _ _ => trivial) hK hNs hP hD (kJ_nil) rfl hl.1 rfl (Nat.le_of_ble_eq_true rfl) dL_act_247 ⟨Nat.le_of_ble_eq_true rfl, Nat.le_of_ble_eq_true rfl⟩) hP hD hS hA (kJ_nil) (fun _ => rfl) (fun r67 u H locs hw hP hD hS => ?_)
                        clear hw
                        have hP : va_P D vwCl (wC Y w a b d M N F o z P n t kd V vc) H := hP
                        have hD : va_D A (wC Y w a b d M N F o z P n t kd V vc) := hD
                        refine lv_iadd hx hb dL_act_250 ?_
                        refine lv_iconst (v := 1) hx hb dL_act_251 (by decide) ?_
                        refine lv_iload hx hb dL_act_252 (lv_at hl 2 rfl) ?_
                        refine lv_bipush (v := 30) hx hb dL_act_254 (by decide) ?_
                        refine kc_i (krS (As := [.int r2, .int 30]) (rest := [.int 1, .int (1 + r67), .ref (w 0)]) (c_L_low l D Y r2 30 (by decide)) ⟨hx, hb, hml, hown, hta⟩ (cwL_46 hta ⟨Nat.le_of_ble_eq_true rfl, Nat.le_of_ble_eq_true rfl⟩) kX0b (fun _ _ _ => trivial) hK hNs hP hD (kJ_nil) rfl hl.1 rfl (Nat.le_of_ble_eq_true rfl) dL_act_256 ⟨Nat.le_of_ble_eq_true rfl, Nat.le_of_ble_eq_true rfl⟩) hP hD hS hA (kJ_nil) (fun _ => rfl) (fun r68 u H locs hw hP hD hS => ?_)
                        clear hw
                        have hP : va_P D vwCl (wC Y w a b d M N F o z P n t kd V vc) H := hP
                        have hD : va_D A (wC Y w a b d M N F o z P n t kd V vc) := hD
                        refine lv_iadd hx hb dL_act_259 ?_
                        refine kc_in (krV (As := [.int (1 + r67), .int (1 + r68)]) (rest := []) (c_X7_set l D Y w a b d M N F o z P n t kd V vc base ad av (1 + r67) (1 + r68) hI ho hz hB) ⟨hx, hb, hml, hown, hta⟩ (cwL_66 hta ⟨Nat.le_of_ble_eq_true rfl, Nat.le_of_ble_eq_true rfl⟩) kXb_E (fun U hU hw => kZ_E (kZ_go hX0 hS hAb U hU hw)) hK hNs hP hD (kJ_all) (q0 := 0) rfl rfl rfl rfl hl.1 rfl (Nat.le_of_ble_eq_true rfl) dL_act_260 ⟨Nat.le_of_ble_eq_true rfl, Nat.le_of_ble_eq_true rfl⟩) hP hD hS hA (kJn_all) (fun r70 u69 H locs hw hP hD hS => ?_)
                        have hr2 := h.rec (pO_set h.1 (1 + r67) (1 + r68)) hw
                        have hP : va_P D vwCl (wC Y w a b d u69.1 N u69.2.1 u69.2.2.1 u69.2.2.2 P n t kd V vc) H := hP
                        have hD : va_D A (wC Y w a b d u69.1 N u69.2.1 u69.2.2.1 u69.2.2.2 P n t kd V vc) := hD
                        refine W.widen (k := 24) (n := 1518) (by first | exact Nat.le_refl _ | exact Nat.le_of_ble_eq_true rfl | omega) (by first | exact Nat.le_refl _ | exact Nat.le_of_ble_eq_true rfl | omega) ?_
                        exact kiretn (u69) hQ hx hb hr hlocks hP hD hS dL_act_263 hr2
                      · by_cases c71 : r6 = 11
                        · refine lv_tableIn (off := 221) (tgt := 264) hx hb dL_act_43 (by rw [c71]; decide) (by rw [c71]; decide) (by rw [c71]; rfl) (by decide) ?_
                          refine lv_aload_n hx hb dL_act_264 rfl (lv_at hl 4 rfl) ?_
                          refine lv_iconst (v := 3) hx hb dL_act_265 (by decide) ?_
                          refine lv_iload hx hb dL_act_266 (lv_at hl 2 rfl) ?_
                          refine lv_sipush (v := 200) hx hb dL_act_268 (by decide) ?_
                          refine kc_i (krS (As := [.int r2, .int 200]) (rest := [.int 3, .ref (w 0)]) (c_L_low l D Y r2 200 (by decide)) ⟨hx, hb, hml, hown, hta⟩ (cwL_46 hta ⟨Nat.le_of_ble_eq_true rfl, Nat.le_of_ble_eq_true rfl⟩) kX0b (fun _ _ _ => trivial) hK hNs hP hD (kJ_nil) rfl hl.1 rfl (Nat.le_of_ble_eq_true rfl) dL_act_271 ⟨Nat.le_of_ble_eq_true rfl, Nat.le_of_ble_eq_true rfl⟩) hP hD hS hA (kJ_nil) (fun _ => rfl) (fun r72 u H locs hw hP hD hS => ?_)
                          clear hw
                          have hP : va_P D vwCl (wC Y w a b d M N F o z P n t kd V vc) H := hP
                          have hD : va_D A (wC Y w a b d M N F o z P n t kd V vc) := hD
                          refine kc_in (krV (As := [.int 3, .int r72]) (rest := []) (c_X7_set l D Y w a b d M N F o z P n t kd V vc base ad av 3 r72 hI ho hz hB) ⟨hx, hb, hml, hown, hta⟩ (cwL_66 hta ⟨Nat.le_of_ble_eq_true rfl, Nat.le_of_ble_eq_true rfl⟩) kXb_E (fun U hU hw => kZ_E (kZ_go hX0 hS hAb U hU hw)) hK hNs hP hD (kJ_all) (q0 := 0) rfl rfl rfl rfl hl.1 rfl (Nat.le_of_ble_eq_true rfl) dL_act_274 ⟨Nat.le_of_ble_eq_true rfl, Nat.le_of_ble_eq_true rfl⟩) hP hD hS hA (kJn_all) (fun r74 u73 H locs hw hP hD hS => ?_)
                          have hr2 := h.rec (pO_set h.1 3 r72) hw
                          have hP : va_P D vwCl (wC Y w a b d u73.1 N u73.2.1 u73.2.2.1 u73.2.2.2 P n t kd V vc) H := hP
                          have hD : va_D A (wC Y w a b d u73.1 N u73.2.1 u73.2.2.1 u73.2.2.2 P n t kd V vc) := hD
                          refine W.widen (k := 24) (n := 1518) (by first | exact Nat.le_refl _ | exact Nat.le_of_ble_eq_true rfl | omega) (by first | exact Nat.le_refl _ | exact Nat.le_of_ble_eq_true rfl | omega) ?_
                          exact kiretn (u73) hQ hx hb hr hlocks hP hD hS dL_act_277 hr2
                        · by_cases c75 : r6 = 12
                          · refine lv_tableIn (off := 235) (tgt := 278) hx hb dL_act_43 (by rw [c75]; decide) (by rw [c75]; decide) (by rw [c75]; rfl) (by decide) ?_
                            refine lv_aload_n hx hb dL_act_278 rfl (lv_at hl 4 rfl) ?_
                            refine lv_iconst (v := 4) hx hb dL_act_279 (by decide) ?_
                            refine lv_iconst (v := 2) hx hb dL_act_280 (by decide) ?_
                            refine lv_iload_n hx hb dL_act_281 rfl (lv_at hl 3 rfl) ?_
                            refine lv_iconst (v := 2) hx hb dL_act_282 (by decide) ?_
                            refine kc_i (krS (As := [.int r1, .int 2]) (rest := [.int 2, .int 4, .ref (w 0)]) (c_L_low l D Y r1 2 (by decide)) ⟨hx, hb, hml, hown, hta⟩ (cwL_46 hta ⟨Nat.le_of_ble_eq_true rfl, Nat.le_of_ble_eq_true rfl⟩) kX0b (fun _ _ _ => trivial) hK hNs hP hD (kJ_nil) rfl hl.1 rfl (Nat.le_of_ble_eq_true rfl) dL_act_283 ⟨Nat.le_of_ble_eq_true rfl, Nat.le_of_ble_eq_true rfl⟩) hP hD hS hA (kJ_nil) (fun _ => rfl) (fun r76 u H locs hw hP hD hS => ?_)
                            clear hw
                            have hP : va_P D vwCl (wC Y w a b d M N F o z P n t kd V vc) H := hP
                            have hD : va_D A (wC Y w a b d M N F o z P n t kd V vc) := hD
                            refine lv_imul hx hb dL_act_286 ?_
                            refine lv_iadd hx hb dL_act_287 ?_
                            refine lv_iload hx hb dL_act_288 (lv_at hl 2 rfl) ?_
                            refine lv_bipush (v := 40) hx hb dL_act_290 (by decide) ?_
                            refine kc_i (krS (As := [.int r2, .int 40]) (rest := [.int (4 + (2 * r76)), .ref (w 0)]) (c_L_low l D Y r2 40 (by decide)) ⟨hx, hb, hml, hown, hta⟩ (cwL_46 hta ⟨Nat.le_of_ble_eq_true rfl, Nat.le_of_ble_eq_true rfl⟩) kX0b (fun _ _ _ => trivial) hK hNs hP hD (kJ_nil) rfl hl.1 rfl (Nat.le_of_ble_eq_true rfl) dL_act_292 ⟨Nat.le_of_ble_eq_true rfl, Nat.le_of_ble_eq_true rfl⟩) hP hD hS hA (kJ_nil) (fun _ => rfl) (fun r77 u H locs hw hP hD hS => ?_)
                            clear hw
                            have hP : va_P D vwCl (wC Y w a b d M N F o z P n t kd V vc) H := hP
                            have hD : va_D A (wC Y w a b d M N F o z P n t kd V vc) := hD
                            refine kc_in (krV (As := [.int (4 + (2 * r76)), .int r77]) (rest := []) (c_X7_set l D Y w a b d M N F o z P n t kd V vc base ad av (4 + (2 * r76)) r77 hI ho hz hB) ⟨hx, hb, hml, hown, hta⟩ (cwL_66 hta ⟨Nat.le_of_ble_eq_true rfl, Nat.le_of_ble_eq_true rfl⟩) kXb_E (fun U hU hw => kZ_E (kZ_go hX0 hS hAb U hU hw)) hK hNs hP hD (kJ_all) (q0 := 0) rfl rfl rfl rfl hl.1 rfl (Nat.le_of_ble_eq_true rfl) dL_act_295 ⟨Nat.le_of_ble_eq_true rfl, Nat.le_of_ble_eq_true rfl⟩) hP hD hS hA (kJn_all) (fun r79 u78 H locs hw hP hD hS => ?_)
                            have hr2 := h.rec (pO_set h.1 (4 + (2 * r76)) r77) hw
                            have hP : va_P D vwCl (wC Y w a b d u78.1 N u78.2.1 u78.2.2.1 u78.2.2.2 P n t kd V vc) H := hP
                            have hD : va_D A (wC Y w a b d u78.1 N u78.2.1 u78.2.2.1 u78.2.2.2 P n t kd V vc) := hD
                            refine W.widen (k := 24) (n := 1518) (by first | exact Nat.le_refl _ | exact Nat.le_of_ble_eq_true rfl | omega) (by first | exact Nat.le_refl _ | exact Nat.le_of_ble_eq_true rfl | omega) ?_
                            exact kiretn (u78) hQ hx hb hr hlocks hP hD hS dL_act_298 hr2
                          · by_cases c80 : r6 = 13
                            · refine lv_tableIn (off := 256) (tgt := 299) hx hb dL_act_43 (by rw [c80]; decide) (by rw [c80]; decide) (by rw [c80]; rfl) (by decide) ?_
                              refine lv_aload_n hx hb dL_act_299 rfl (lv_at hl 4 rfl) ?_
                              refine lv_iconst (v := 5) hx hb dL_act_300 (by decide) ?_
                              refine lv_iconst (v := 1) hx hb dL_act_301 (by decide) ?_
                              refine lv_iload hx hb dL_act_302 (lv_at hl 2 rfl) ?_
                              refine lv_bipush (v := 8) hx hb dL_act_304 (by decide) ?_
                              refine kc_i (krS (As := [.int r2, .int 8]) (rest := [.int 1, .int 5, .ref (w 0)]) (c_L_low l D Y r2 8 (by decide)) ⟨hx, hb, hml, hown, hta⟩ (cwL_46 hta ⟨Nat.le_of_ble_eq_true rfl, Nat.le_of_ble_eq_true rfl⟩) kX0b (fun _ _ _ => trivial) hK hNs hP hD (kJ_nil) rfl hl.1 rfl (Nat.le_of_ble_eq_true rfl) dL_act_306 ⟨Nat.le_of_ble_eq_true rfl, Nat.le_of_ble_eq_true rfl⟩) hP hD hS hA (kJ_nil) (fun _ => rfl) (fun r81 u H locs hw hP hD hS => ?_)
                              clear hw
                              have hP : va_P D vwCl (wC Y w a b d M N F o z P n t kd V vc) H := hP
                              have hD : va_D A (wC Y w a b d M N F o z P n t kd V vc) := hD
                              refine lv_iadd hx hb dL_act_309 ?_
                              refine kc_in (krV (As := [.int 5, .int (1 + r81)]) (rest := []) (c_X7_set l D Y w a b d M N F o z P n t kd V vc base ad av 5 (1 + r81) hI ho hz hB) ⟨hx, hb, hml, hown, hta⟩ (cwL_66 hta ⟨Nat.le_of_ble_eq_true rfl, Nat.le_of_ble_eq_true rfl⟩) kXb_E (fun U hU hw => kZ_E (kZ_go hX0 hS hAb U hU hw)) hK hNs hP hD (kJ_all) (q0 := 0) rfl rfl rfl rfl hl.1 rfl (Nat.le_of_ble_eq_true rfl) dL_act_310 ⟨Nat.le_of_ble_eq_true rfl, Nat.le_of_ble_eq_true rfl⟩) hP hD hS hA (kJn_all) (fun r83 u82 H locs hw hP hD hS => ?_)
                              have hr2 := h.rec (pO_set h.1 5 (1 + r81)) hw
                              have hP : va_P D vwCl (wC Y w a b d u82.1 N u82.2.1 u82.2.2.1 u82.2.2.2 P n t kd V vc) H := hP
                              have hD : va_D A (wC Y w a b d u82.1 N u82.2.1 u82.2.2.1 u82.2.2.2 P n t kd V vc) := hD
                              refine W.widen (k := 24) (n := 1518) (by first | exact Nat.le_refl _ | exact Nat.le_of_ble_eq_true rfl | omega) (by first | exact Nat.le_refl _ | exact Nat.le_of_ble_eq_true rfl | omega) ?_
                              exact kiretn (u82) hQ hx hb hr hlocks hP hD hS dL_act_313 hr2
                            · by_cases c84 : r6 = 14
                              · refine lv_tableIn (off := 271) (tgt := 314) hx hb dL_act_43 (by rw [c84]; decide) (by rw [c84]; decide) (by rw [c84]; rfl) (by decide) ?_
                                refine lv_aload_n hx hb dL_act_314 rfl (lv_at hl 4 rfl) ?_
                                refine kc_i (krV (As := []) (rest := []) (c_X7_undo l D Y w a b d M N F o z P n t kd V vc ho hz h.U) ⟨hx, hb, hml, hown, hta⟩ (cwL_69 hta ⟨Nat.le_of_ble_eq_true rfl, Nat.le_of_ble_eq_true rfl⟩) kX0b (fun _ _ _ => trivial) hK hNs hP hD (kJ_all) (q0 := 0) rfl rfl rfl rfl hl.1 rfl (Nat.le_of_ble_eq_true rfl) dL_act_315 ⟨Nat.le_of_ble_eq_true rfl, Nat.le_of_ble_eq_true rfl⟩) hP hD hS hA (kJ_all) (fun _ => rfl) (fun r86 u85 H locs hw hP hD hS => ?_)
                                have hr2 := h.undo hw
                                have hP : va_P D vwCl (wC Y w a b d u85.1 N F o u85.2 P n t kd V vc) H := hP
                                have hD : va_D A (wC Y w a b d u85.1 N F o u85.2 P n t kd V vc) := hD
                                refine W.widen (k := 24) (n := 1518) (by first | exact Nat.le_refl _ | exact Nat.le_of_ble_eq_true rfl | omega) (by first | exact Nat.le_refl _ | exact Nat.le_of_ble_eq_true rfl | omega) ?_
                                exact kiretn ((u85.1, F, o, u85.2)) hQ hx hb hr hlocks hP hD hS dL_act_318 hr2
                              · refine lv_tableOut (tgt := 319) hx hb dL_act_43 (by have := fun z : Int => (fun h : r6.toInt = z => h); have q0 : ¬ r6.toInt = 0 := fun h => c7 (Int32.toInt_inj.mp (h.trans (by decide))); have q1 : ¬ r6.toInt = 1 := fun h => c14 (Int32.toInt_inj.mp (h.trans (by decide))); have q2 : ¬ r6.toInt = 2 := fun h => c21 (Int32.toInt_inj.mp (h.trans (by decide))); have q3 : ¬ r6.toInt = 3 := fun h => c28 (Int32.toInt_inj.mp (h.trans (by decide))); have q4 : ¬ r6.toInt = 4 := fun h => c35 (Int32.toInt_inj.mp (h.trans (by decide))); have q5 : ¬ r6.toInt = 5 := fun h => c42 (Int32.toInt_inj.mp (h.trans (by decide))); have q6 : ¬ r6.toInt = 6 := fun h => c47 (Int32.toInt_inj.mp (h.trans (by decide))); have q7 : ¬ r6.toInt = 7 := fun h => c53 (Int32.toInt_inj.mp (h.trans (by decide))); have q8 : ¬ r6.toInt = 8 := fun h => c58 (Int32.toInt_inj.mp (h.trans (by decide))); have q9 : ¬ r6.toInt = 9 := fun h => c62 (Int32.toInt_inj.mp (h.trans (by decide))); have q10 : ¬ r6.toInt = 10 := fun h => c66 (Int32.toInt_inj.mp (h.trans (by decide))); have q11 : ¬ r6.toInt = 11 := fun h => c71 (Int32.toInt_inj.mp (h.trans (by decide))); have q12 : ¬ r6.toInt = 12 := fun h => c75 (Int32.toInt_inj.mp (h.trans (by decide))); have q13 : ¬ r6.toInt = 13 := fun h => c80 (Int32.toInt_inj.mp (h.trans (by decide))); have q14 : ¬ r6.toInt = 14 := fun h => c84 (Int32.toInt_inj.mp (h.trans (by decide))); omega) (by decide) ?_
                                refine lv_aload_n hx hb dL_act_319 rfl (lv_at hl 4 rfl) ?_
                                refine lv_iconst (v := 1) hx hb dL_act_320 (by decide) ?_
                                refine lv_iload hx hb dL_act_321 (lv_at hl 2 rfl) ?_
                                refine lv_iconst (v := 4) hx hb dL_act_323 (by decide) ?_
                                refine kc_i (krS (As := [.int r2, .int 4]) (rest := [.int 1, .ref (w 0)]) (c_L_low l D Y r2 4 (by decide)) ⟨hx, hb, hml, hown, hta⟩ (cwL_46 hta ⟨Nat.le_of_ble_eq_true rfl, Nat.le_of_ble_eq_true rfl⟩) kX0b (fun _ _ _ => trivial) hK hNs hP hD (kJ_nil) rfl hl.1 rfl (Nat.le_of_ble_eq_true rfl) dL_act_324 ⟨Nat.le_of_ble_eq_true rfl, Nat.le_of_ble_eq_true rfl⟩) hP hD hS hA (kJ_nil) (fun _ => rfl) (fun r87 u H locs hw hP hD hS => ?_)
                                clear hw
                                have hP : va_P D vwCl (wC Y w a b d M N F o z P n t kd V vc) H := hP
                                have hD : va_D A (wC Y w a b d M N F o z P n t kd V vc) := hD
                                refine lv_iadd hx hb dL_act_327 ?_
                                refine kc_in (krV (As := [.int (1 + r87)]) (rest := []) (c_X7_pass l D Y w a b d M N F o z P n t kd V vc (1 + r87) hI ho hz) ⟨hx, hb, hml, hown, hta⟩ (cwL_72 hta ⟨Nat.le_of_ble_eq_true rfl, Nat.le_of_ble_eq_true rfl⟩) kX0b (fun _ _ _ => trivial) hK hNs hP hD (kJ_all) (q0 := 0) rfl rfl rfl rfl hl.1 rfl (Nat.le_of_ble_eq_true rfl) dL_act_328 ⟨Nat.le_of_ble_eq_true rfl, Nat.le_of_ble_eq_true rfl⟩) hP hD hS hA (kJn_all) (fun r89 u88 H locs hw hP hD hS => ?_)
                                have hr2 := h.rec (pO_pass h.1 (1 + r87)) hw
                                have hP : va_P D vwCl (wC Y w a b d u88.1 N u88.2.1 u88.2.2.1 u88.2.2.2 P n t kd V vc) H := hP
                                have hD : va_D A (wC Y w a b d u88.1 N u88.2.1 u88.2.2.1 u88.2.2.2 P n t kd V vc) := hD
                                refine W.widen (k := 24) (n := 1518) (by first | exact Nat.le_refl _ | exact Nat.le_of_ble_eq_true rfl | omega) (by first | exact Nat.le_refl _ | exact Nat.le_of_ble_eq_true rfl | omega) ?_
                                exact kiretn (u88) hQ hx hb hr hlocks hP hD hS dL_act_331 hr2
