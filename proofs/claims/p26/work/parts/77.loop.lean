set_option maxHeartbeats 4000000 in
set_option maxRecDepth 100000 in
theorem law_loop {p : Program} {l : Launch} {e : Env} {s0 : State} {m : MethodId} {below : List Frame} {meth : Method} {c : Code} {sb L : Nat} {xs : Nat → Int32} {D : va_G} {Y : Nat → ClassId} {ad av w a b d : Nat → Nat} (X0 : lwH p s0 m meth c sb L xs D Y ad av) (hlocks : meth.locks = false) (hL : L ≤ 260) {T : Nat} (hT : T ≤ 40) : ∀ (zf k : Nat), T - k < zf → k ≤ T → ∀ (M N : kN) (F : kFm) (o z : Nat) (P : Nat → Int32) (n t : Nat) (kd : Int32) (V : Nat → Int32) (vc : Nat), pRe M F o z → ∀ (H : Heap) (locs : List Loc), va_P D vwCl (wC Y w a b d M N F o z P n t kd V vc) H → va_D (fun q => s0.heap.size ≤ q) (wC Y w a b d M N F o z P n t kd V vc) → va_S (fun q => s0.heap.size ≤ q) s0.heap H locs → ∀ ls : Array Slot, lv_has ls 10 [(4, .int (nI k)), (3, .int (nI T)), (2, .int 1), (1, .ref (w 0)), (0, .ref sb)] → W p l e room_1 s0 m #[Value.ref sb] below meth c H locs (55 + 24 * k) (3143 + 1518 * k) (lw_Z below #[Value.ref sb] s0) (F0 m 32 ls []) := by
  intro zf
  induction zf with
  | zero => intro k hmu; exact absurd hmu (Nat.not_lt_zero _)
  | succ zf ih =>
    intro k hmu hk M N F o z P n t kd V vc hre H locs hP hD hS ls hl
    obtain ⟨hx, hb, hr, hml, hown, hta, hX, hbl, hK, hNs, hE⟩ := id X0
    have hA : ∀ q : Nat, s0.heap.size ≤ q → (fun q : Nat => s0.heap.size ≤ q) q := fun _ h => h
    have hX0 : kZ s0.heap.size ad av sb L xs s0.heap.size s0 := ⟨Nat.le_refl _, hE, hX, hbl⟩
    have hI := hre.1.I
    have h30 := hI.f30
    have hB : ∀ c ∈ (wC Y w a b d M N F o z P n t kd V vc).map (·.1), s0.heap.size ≤ c := lw_B hD
    have hC0 : 55 + 24 * k ≤ 600000 := by omega
    have hS0 : 3143 + 1518 * k ≤ 7302250 := by omega
    have hC : 55 + 24 * k + 24 ≤ 600000 := by omega
    have hS1 : 3143 + 1518 * k + 1518 ≤ 7302250 := by omega
    have hC1 := hC
    have hS2 := hS1
    refine lv_iload hx hb dL_law_32 (lv_at hl 0 rfl) ?_
    refine lv_iload_n hx hb dL_law_34 rfl (lv_at hl 1 rfl) ?_
    refine lv_icmp_ge (tgt := 147) hx hb dL_law_35 (by decide) (fun c1 => ?_) (fun c1 => ?_)
    · have c1n : T ≤ k := (nI_leI (a := T) (b := k) (by omega) (by omega)).mp c1
      refine lv_iload_n hx hb dL_law_147 rfl (lv_at hl 2 rfl) ?_
      refine lv_if_eq (tgt := 162) hx hb dL_law_148 (by decide) (fun h => False.elim (by revert h; decide)) (fun _ => ?_)
      refine lv_aload_n hx hb dL_law_151 rfl (lv_at hl 3 rfl) ?_
      refine kc_i (krS (As := [.ref (w 0)]) (rest := []) (c_L_looks l D Y w a b d M N F o z P n t kd V vc hre.1) ⟨hx, hb, hml, hown, hta⟩ (cwL_84 hta ⟨Nat.le_of_ble_eq_true rfl, Nat.le_of_ble_eq_true rfl⟩) kX0b (fun _ _ _ => trivial) hK hNs hP hD (kJ_all) rfl hl.1 rfl (Nat.le_of_ble_eq_true rfl) dL_law_152 ⟨hC0, hS0⟩) hP hD hS hA (kJ_all) (fun _ => rfl) (fun r3 v2 H locs hw hP hD hS => ?_)
      subst hw
      have hP : va_P D vwCl (wC Y w a b d M v2 F o z P n t kd V vc) H := hP
      have hD : va_D (fun q => s0.heap.size ≤ q) (wC Y w a b d M v2 F o z P n t kd V vc) := hD
      refine lv_if_eq (tgt := 162) hx hb dL_law_155 (by decide) (fun h => False.elim (by revert h; decide)) (fun _ => ?_)
      refine lv_iconst (v := 1) hx hb dL_law_158 (by decide) ?_
      refine lv_goto (tgt := 163) hx hb dL_law_159 (by decide) ?_
      refine W.widen (k := 600000) (n := 7302250) (by omega) (by omega) ?_
      refine va_forget (fun q hq => hS.2.2 q hq) ?_
      exact lw_ret hx hb hr hlocks dL_law_163
    · have c1n : ¬ T ≤ k := fun h => c1 ((nI_leI (a := T) (b := k) (by omega) (by omega)).mpr h)
      refine lv_iload_n hx hb dL_law_38 rfl (lv_at hl 2 rfl) ?_
      refine lv_if_eq (tgt := 147) hx hb dL_law_39 (by decide) (fun h => False.elim (by revert h; decide)) (fun _ => ?_)
      refine lv_aload_n hx hb dL_law_42 rfl (lv_at hl 3 rfl) ?_
      refine lv_bipush (v := 19) hx hb dL_law_43 (by decide) ?_
      refine kc_i (krV (As := [.int 19]) (rest := []) (c_X7_count l D Y w a b d M N F o z P n t kd V vc 19 hI) ⟨hx, hb, hml, hown, hta⟩ (cwL_9 hta ⟨Nat.le_of_ble_eq_true rfl, Nat.le_of_ble_eq_true rfl⟩) kX0b (fun _ _ _ => trivial) hK hNs hP hD (kJ_all) (q0 := 0) rfl rfl rfl rfl hl.1 rfl (Nat.le_of_ble_eq_true rfl) dL_law_45 ⟨hC0, hS0⟩) hP hD hS hA (kJ_all) (fun _ => rfl) (fun r4 u H locs hw hP hD hS => ?_)
      have hw := hw.trans (ct_19 M n z)
      subst hw
      have hP : va_P D vwCl (wC Y w a b d M N F o z P n t kd V vc) H := hP
      have hD : va_D (fun q => s0.heap.size ≤ q) (wC Y w a b d M N F o z P n t kd V vc) := hD
      refine lv_istore (lv' := [(5, .int (nI z)), (4, .int (nI k)), (3, .int (nI T)), (2, .int 1), (1, .ref (w 0)), (0, .ref sb)]) hx hb dL_law_48 hl (by decide) rfl (fun ls hl => ?_)
      refine lv_aload_n hx hb dL_law_50 rfl (lv_at hl 4 rfl) ?_
      refine lv_iconst (v := 1) hx hb dL_law_51 (by decide) ?_
      refine kc_i (krV (As := [.int 1]) (rest := []) (c_X7_count l D Y w a b d M N F o z P n t kd V vc 1 hI) ⟨hx, hb, hml, hown, hta⟩ (cwL_9 hta ⟨Nat.le_of_ble_eq_true rfl, Nat.le_of_ble_eq_true rfl⟩) kX0b (fun _ _ _ => trivial) hK hNs hP hD (kJ_all) (q0 := 0) rfl rfl rfl rfl hl.1 rfl (Nat.le_of_ble_eq_true rfl) dL_law_52 ⟨hC0, hS0⟩) hP hD hS hA (kJ_all) (fun _ => rfl) (fun r5 u H locs hw hP hD hS => ?_)
      have hw := hw.trans (ct_1 hI n z)
      subst hw
      have hP : va_P D vwCl (wC Y w a b d M N F o z P n t kd V vc) H := hP
      have hD : va_D (fun q => s0.heap.size ≤ q) (wC Y w a b d M N F o z P n t kd V vc) := hD
      refine lv_istore (lv' := [(6, .int (nI (nF M))), (5, .int (nI z)), (4, .int (nI k)), (3, .int (nI T)), (2, .int 1), (1, .ref (w 0)), (0, .ref sb)]) hx hb dL_law_55 hl (by decide) rfl (fun ls hl => ?_)
      refine lv_aload_n hx hb dL_law_57 rfl (lv_at hl 5 rfl) ?_
      refine lv_iconst (v := 0) hx hb dL_law_58 (by decide) ?_
      refine kc_i (krV (As := [.int 0]) (rest := []) (c_X7_count l D Y w a b d M N F o z P n t kd V vc 0 hI) ⟨hx, hb, hml, hown, hta⟩ (cwL_9 hta ⟨Nat.le_of_ble_eq_true rfl, Nat.le_of_ble_eq_true rfl⟩) kX0b (fun _ _ _ => trivial) hK hNs hP hD (kJ_all) (q0 := 0) rfl rfl rfl rfl hl.1 rfl (Nat.le_of_ble_eq_true rfl) dL_law_59 ⟨hC0, hS0⟩) hP hD hS hA (kJ_all) (fun _ => rfl) (fun r6 u H locs hw hP hD hS => ?_)
      have hw := hw.trans (ct_0 M n z)
      subst hw
      have hP : va_P D vwCl (wC Y w a b d M N F o z P n t kd V vc) H := hP
      have hD : va_D (fun q => s0.heap.size ≤ q) (wC Y w a b d M N F o z P n t kd V vc) := hD
      refine lv_istore (lv' := [(7, .int (M 19 0)), (6, .int (nI (nF M))), (5, .int (nI z)), (4, .int (nI k)), (3, .int (nI T)), (2, .int 1), (1, .ref (w 0)), (0, .ref sb)]) hx hb dL_law_62 hl (by decide) rfl (fun ls hl => ?_)
      refine lv_aload_n hx hb dL_law_64 rfl (lv_at hl 6 rfl) ?_
      refine lv_iconst (v := 3) hx hb dL_law_65 (by decide) ?_
      refine kc_i (krV (As := [.int 3]) (rest := []) (c_X7_count l D Y w a b d M N F o z P n t kd V vc 3 hI) ⟨hx, hb, hml, hown, hta⟩ (cwL_9 hta ⟨Nat.le_of_ble_eq_true rfl, Nat.le_of_ble_eq_true rfl⟩) kX0b (fun _ _ _ => trivial) hK hNs hP hD (kJ_all) (q0 := 0) rfl rfl rfl rfl hl.1 rfl (Nat.le_of_ble_eq_true rfl) dL_law_66 ⟨hC0, hS0⟩) hP hD hS hA (kJ_all) (fun _ => rfl) (fun r7 u H locs hw hP hD hS => ?_)
      have hw := hw.trans (ct_3 M n z)
      subst hw
      have hP : va_P D vwCl (wC Y w a b d M N F o z P n t kd V vc) H := hP
      have hD : va_D (fun q => s0.heap.size ≤ q) (wC Y w a b d M N F o z P n t kd V vc) := hD
      refine lv_istore (lv' := [(8, .int (M 19 7)), (7, .int (M 19 0)), (6, .int (nI (nF M))), (5, .int (nI z)), (4, .int (nI k)), (3, .int (nI T)), (2, .int 1), (1, .ref (w 0)), (0, .ref sb)]) hx hb dL_law_69 hl (by decide) rfl (fun ls hl => ?_)
      refine lv_aload_n hx hb dL_law_71 rfl (lv_at hl 7 rfl) ?_
      refine lv_aload_n hx hb dL_law_72 rfl (lv_at hl 8 rfl) ?_
      refine lv_iconst (v := 4) hx hb dL_law_73 (by decide) ?_
      refine lv_iload hx hb dL_law_74 (lv_at hl 4 rfl) ?_
      refine lv_imul hx hb dL_law_76 ?_
      refine kTop (pk_mul 4 k) ?_
      refine kc_in (krS (As := [.ref (w 0), .ref sb, .int (nI (4 * k))]) (rest := []) (c_L_act l D Y w a b d M N F o z P n t kd V vc s0.heap.size ad av sb L xs (4 * k) (by omega) hL hre hB) ⟨hx, hb, hml, hown, hta⟩ (cwL_76 hta ⟨Nat.le_of_ble_eq_true rfl, Nat.le_of_ble_eq_true rfl⟩) kZb (kZ_go hX0 hS (fun q h => h)) hK hNs hP hD (kJ_all) rfl hl.1 rfl (Nat.le_of_ble_eq_true rfl) dL_law_77 ⟨hC, hS1⟩) hP hD hS hA (kJn_all) (fun r9 u8 H locs hw hP hD hS => ?_)
      obtain ⟨hre2, herr⟩ := hw
      have hI2 := hre2.1.I
      have hP : va_P D vwCl (wC Y w a b d u8.1 N u8.2.1 u8.2.2.1 u8.2.2.2 P n t kd V vc) H := hP
      have hD : va_D (fun q => s0.heap.size ≤ q) (wC Y w a b d u8.1 N u8.2.1 u8.2.2.1 u8.2.2.2 P n t kd V vc) := hD
      refine lv_istore (lv' := [(9, .int r9), (8, .int (M 19 7)), (7, .int (M 19 0)), (6, .int (nI (nF M))), (5, .int (nI z)), (4, .int (nI k)), (3, .int (nI T)), (2, .int 1), (1, .ref (w 0)), (0, .ref sb)]) hx hb dL_law_80 hl (by decide) rfl (fun ls hl => ?_)
      refine lv_iload hx hb dL_law_82 (lv_at hl 0 rfl) ?_
      refine lv_if_ge (tgt := 128) hx hb dL_law_84 (by decide) (fun c10 => ?_) (fun c10 => ?_)
      · refine lv_aload_n hx hb dL_law_128 rfl (lv_at hl 8 rfl) ?_
        refine kc_i (krS (As := [.ref (w 0)]) (rest := []) (c_L_tonnes l D Y w a b d u8.1 N u8.2.1 u8.2.2.1 u8.2.2.2 P n t kd V vc hre2.1) ⟨hx, hb, hml, hown, hta⟩ (cwL_80 hta ⟨Nat.le_of_ble_eq_true rfl, Nat.le_of_ble_eq_true rfl⟩) kX0b (fun _ _ _ => trivial) hK hNs hP hD (kJ_all) rfl hl.1 rfl (Nat.le_of_ble_eq_true rfl) dL_law_129 ⟨hC1, hS2⟩) hP hD hS hA (kJ_all) (fun _ => rfl) (fun r11 u H locs hw hP hD hS => ?_)
        subst hw
        have hP : va_P D vwCl (wC Y w a b d u8.1 N u8.2.1 u8.2.2.1 u8.2.2.2 P n t kd V vc) H := hP
        have hD : va_D (fun q => s0.heap.size ≤ q) (wC Y w a b d u8.1 N u8.2.1 u8.2.2.1 u8.2.2.2 P n t kd V vc) := hD
        refine lv_if_eq (tgt := 139) hx hb dL_law_132 (by decide) (fun h => False.elim (by revert h; decide)) (fun _ => ?_)
        refine lv_iconst (v := 1) hx hb dL_law_135 (by decide) ?_
        refine lv_goto (tgt := 140) hx hb dL_law_136 (by decide) ?_
        refine lv_istore_n (lv' := [(2, .int 1), (9, .int r9), (8, .int (M 19 7)), (7, .int (M 19 0)), (6, .int (nI (nF M))), (5, .int (nI z)), (4, .int (nI k)), (3, .int (nI T)), (1, .ref (w 0)), (0, .ref sb)]) hx hb dL_law_140 rfl hl (by decide) rfl (fun ls hl => ?_)
        refine lv_iinc (v := nI (k + 1)) (lv' := [(4, .int (nI (k + 1))), (2, .int 1), (9, .int r9), (8, .int (M 19 7)), (7, .int (M 19 0)), (6, .int (nI (nF M))), (5, .int (nI z)), (3, .int (nI T)), (1, .ref (w 0)), (0, .ref sb)]) hx hb dL_law_141 hl (k := 6) rfl (nI_add k 1) (by decide) rfl (fun ls hl => ?_)
        refine lv_goto (tgt := 32) hx hb dL_law_144 (by decide) ?_
        refine W.widen (k := 55 + 24 * k + 24) (n := 3143 + 1518 * k + 1518) (Nat.le_refl (55 + 24 * k + 24)) (Nat.le_refl (3143 + 1518 * k + 1518)) ?_
        rw [show 55 + 24 * k + 24 = 55 + 24 * (k + 1) by omega, show 3143 + 1518 * k + 1518 = 3143 + 1518 * (k + 1) by omega]
        exact ih (k + 1) (by omega) (by omega) u8.1 N u8.2.1 u8.2.2.1 u8.2.2.2 P n t kd V vc hre2 _ _ hP hD hS ls (lv_sub hl [0, 7, 1, 8, 9] rfl)
      · obtain ⟨e1, e2⟩ := herr (Int32.not_le.mp c10)
        refine lv_aload_n hx hb dL_law_87 rfl (lv_at hl 8 rfl) ?_
        refine lv_bipush (v := 19) hx hb dL_law_88 (by decide) ?_
        refine kc_i (krV (As := [.int 19]) (rest := []) (c_X7_count l D Y w a b d u8.1 N u8.2.1 u8.2.2.1 u8.2.2.2 P n t kd V vc 19 hI2) ⟨hx, hb, hml, hown, hta⟩ (cwL_9 hta ⟨Nat.le_of_ble_eq_true rfl, Nat.le_of_ble_eq_true rfl⟩) kX0b (fun _ _ _ => trivial) hK hNs hP hD (kJ_all) (q0 := 0) rfl rfl rfl rfl hl.1 rfl (Nat.le_of_ble_eq_true rfl) dL_law_90 ⟨hC1, hS2⟩) hP hD hS hA (kJ_all) (fun _ => rfl) (fun r12 u H locs hw hP hD hS => ?_)
        have hw := hw.trans (ct_19 u8.1 n u8.2.2.2)
        subst hw
        have hP : va_P D vwCl (wC Y w a b d u8.1 N u8.2.1 u8.2.2.1 u8.2.2.2 P n t kd V vc) H := hP
        have hD : va_D (fun q => s0.heap.size ≤ q) (wC Y w a b d u8.1 N u8.2.1 u8.2.2.1 u8.2.2.2 P n t kd V vc) := hD
        refine lv_iload hx hb dL_law_93 (lv_at hl 4 rfl) ?_
        refine lv_icmp_ne (tgt := 139) hx hb dL_law_95 (by decide) (fun h => absurd (by rw [e2]) h) (fun _ => ?_)
        refine lv_aload_n hx hb dL_law_98 rfl (lv_at hl 8 rfl) ?_
        refine lv_iconst (v := 1) hx hb dL_law_99 (by decide) ?_
        refine kc_i (krV (As := [.int 1]) (rest := []) (c_X7_count l D Y w a b d u8.1 N u8.2.1 u8.2.2.1 u8.2.2.2 P n t kd V vc 1 hI2) ⟨hx, hb, hml, hown, hta⟩ (cwL_9 hta ⟨Nat.le_of_ble_eq_true rfl, Nat.le_of_ble_eq_true rfl⟩) kX0b (fun _ _ _ => trivial) hK hNs hP hD (kJ_all) (q0 := 0) rfl rfl rfl rfl hl.1 rfl (Nat.le_of_ble_eq_true rfl) dL_law_100 ⟨hC1, hS2⟩) hP hD hS hA (kJ_all) (fun _ => rfl) (fun r14 u H locs hw hP hD hS => ?_)
        have hw := hw.trans (ct_1 hI2 n u8.2.2.2)
        subst hw
        have hP : va_P D vwCl (wC Y w a b d u8.1 N u8.2.1 u8.2.2.1 u8.2.2.2 P n t kd V vc) H := hP
        have hD : va_D (fun q => s0.heap.size ≤ q) (wC Y w a b d u8.1 N u8.2.1 u8.2.2.1 u8.2.2.2 P n t kd V vc) := hD
        refine lv_iload hx hb dL_law_103 (lv_at hl 3 rfl) ?_
        refine lv_icmp_ne (tgt := 139) hx hb dL_law_105 (by decide) (fun h => absurd (by rw [e1]) h) (fun _ => ?_)
        refine lv_aload_n hx hb dL_law_108 rfl (lv_at hl 8 rfl) ?_
        refine lv_iconst (v := 0) hx hb dL_law_109 (by decide) ?_
        refine kc_i (krV (As := [.int 0]) (rest := []) (c_X7_count l D Y w a b d u8.1 N u8.2.1 u8.2.2.1 u8.2.2.2 P n t kd V vc 0 hI2) ⟨hx, hb, hml, hown, hta⟩ (cwL_9 hta ⟨Nat.le_of_ble_eq_true rfl, Nat.le_of_ble_eq_true rfl⟩) kX0b (fun _ _ _ => trivial) hK hNs hP hD (kJ_all) (q0 := 0) rfl rfl rfl rfl hl.1 rfl (Nat.le_of_ble_eq_true rfl) dL_law_110 ⟨hC1, hS2⟩) hP hD hS hA (kJ_all) (fun _ => rfl) (fun r16 u H locs hw hP hD hS => ?_)
        have hw := hw.trans (ct_0 u8.1 n u8.2.2.2)
        subst hw
        have hP : va_P D vwCl (wC Y w a b d u8.1 N u8.2.1 u8.2.2.1 u8.2.2.2 P n t kd V vc) H := hP
        have hD : va_D (fun q => s0.heap.size ≤ q) (wC Y w a b d u8.1 N u8.2.1 u8.2.2.1 u8.2.2.2 P n t kd V vc) := hD
        refine lv_iload hx hb dL_law_113 (lv_at hl 2 rfl) ?_
        refine lv_icmp_ne (tgt := 139) hx hb dL_law_115 (by decide) (fun h => absurd (by rw [e1]) h) (fun _ => ?_)
        refine lv_aload_n hx hb dL_law_118 rfl (lv_at hl 8 rfl) ?_
        refine lv_iconst (v := 3) hx hb dL_law_119 (by decide) ?_
        refine kc_i (krV (As := [.int 3]) (rest := []) (c_X7_count l D Y w a b d u8.1 N u8.2.1 u8.2.2.1 u8.2.2.2 P n t kd V vc 3 hI2) ⟨hx, hb, hml, hown, hta⟩ (cwL_9 hta ⟨Nat.le_of_ble_eq_true rfl, Nat.le_of_ble_eq_true rfl⟩) kX0b (fun _ _ _ => trivial) hK hNs hP hD (kJ_all) (q0 := 0) rfl rfl rfl rfl hl.1 rfl (Nat.le_of_ble_eq_true rfl) dL_law_120 ⟨hC1, hS2⟩) hP hD hS hA (kJ_all) (fun _ => rfl) (fun r18 u H locs hw hP hD hS => ?_)
        have hw := hw.trans (ct_3 u8.1 n u8.2.2.2)
        subst hw
        have hP : va_P D vwCl (wC Y w a b d u8.1 N u8.2.1 u8.2.2.1 u8.2.2.2 P n t kd V vc) H := hP
        have hD : va_D (fun q => s0.heap.size ≤ q) (wC Y w a b d u8.1 N u8.2.1 u8.2.2.1 u8.2.2.2 P n t kd V vc) := hD
        refine lv_iload hx hb dL_law_123 (lv_at hl 1 rfl) ?_
        refine lv_icmp_ne (tgt := 139) hx hb dL_law_125 (by decide) (fun h => absurd (by rw [e1]) h) (fun _ => ?_)
        refine lv_aload_n hx hb dL_law_128 rfl (lv_at hl 8 rfl) ?_
        refine kc_i (krS (As := [.ref (w 0)]) (rest := []) (c_L_tonnes l D Y w a b d u8.1 N u8.2.1 u8.2.2.1 u8.2.2.2 P n t kd V vc hre2.1) ⟨hx, hb, hml, hown, hta⟩ (cwL_80 hta ⟨Nat.le_of_ble_eq_true rfl, Nat.le_of_ble_eq_true rfl⟩) kX0b (fun _ _ _ => trivial) hK hNs hP hD (kJ_all) rfl hl.1 rfl (Nat.le_of_ble_eq_true rfl) dL_law_129 ⟨hC1, hS2⟩) hP hD hS hA (kJ_all) (fun _ => rfl) (fun r20 u H locs hw hP hD hS => ?_)
        subst hw
        have hP : va_P D vwCl (wC Y w a b d u8.1 N u8.2.1 u8.2.2.1 u8.2.2.2 P n t kd V vc) H := hP
        have hD : va_D (fun q => s0.heap.size ≤ q) (wC Y w a b d u8.1 N u8.2.1 u8.2.2.1 u8.2.2.2 P n t kd V vc) := hD
        refine lv_if_eq (tgt := 139) hx hb dL_law_132 (by decide) (fun h => False.elim (by revert h; decide)) (fun _ => ?_)
        refine lv_iconst (v := 1) hx hb dL_law_135 (by decide) ?_
        refine lv_goto (tgt := 140) hx hb dL_law_136 (by decide) ?_
        refine lv_istore_n (lv' := [(2, .int 1), (9, .int r9), (8, .int (M 19 7)), (7, .int (M 19 0)), (6, .int (nI (nF M))), (5, .int (nI z)), (4, .int (nI k)), (3, .int (nI T)), (1, .ref (w 0)), (0, .ref sb)]) hx hb dL_law_140 rfl hl (by decide) rfl (fun ls hl => ?_)
        refine lv_iinc (v := nI (k + 1)) (lv' := [(4, .int (nI (k + 1))), (2, .int 1), (9, .int r9), (8, .int (M 19 7)), (7, .int (M 19 0)), (6, .int (nI (nF M))), (5, .int (nI z)), (3, .int (nI T)), (1, .ref (w 0)), (0, .ref sb)]) hx hb dL_law_141 hl (k := 6) rfl (nI_add k 1) (by decide) rfl (fun ls hl => ?_)
        refine lv_goto (tgt := 32) hx hb dL_law_144 (by decide) ?_
        refine W.widen (k := 55 + 24 * k + 24) (n := 3143 + 1518 * k + 1518) (Nat.le_refl (55 + 24 * k + 24)) (Nat.le_refl (3143 + 1518 * k + 1518)) ?_
        rw [show 55 + 24 * k + 24 = 55 + 24 * (k + 1) by omega, show 3143 + 1518 * k + 1518 = 3143 + 1518 * (k + 1) by omega]
        exact ih (k + 1) (by omega) (by omega) u8.1 N u8.2.1 u8.2.2.1 u8.2.2.2 P n t kd V vc hre2 _ _ hP hD hS ls (lv_sub hl [0, 7, 1, 8, 9] rfl)
