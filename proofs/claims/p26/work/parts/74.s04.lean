set_option maxHeartbeats 4000000 in
set_option maxRecDepth 100000 in
theorem c_L_looks (l : Launch) (D : va_G) (Y : Nat → ClassId) (w a b d : Nat → Nat) (M N : kN) (F : kFm) (o z : Nat) (P : Nat → Int32) (n t : Nat) (kd : Int32) (V : Nat → Int32) (vc : Nat) (hok : pOK M) : kM l yL_looks wL_looks rL_looks D Y (wC Y w a b d M N F o z P n t kd V vc) [.ref (w 0)] kX0 (kQi D (fun r (_ : kN) => r = 1) (fun u => wC Y w a b d M u F o z P n t kd V vc)) := by
  refine kentry (cc := cL_looks) (maxL := 5) (ret := (some .boolean)) (by decide +kernel) rfl (Nat.le_of_ble_eq_true rfl) ?_
  intro p e s0 m args below meth c A Q ls hQ hx hb hr hlocks hml hown hin hta hA hX0 hK hNs hP hD hS hl
  have hown : s0.vm.findClass RL = some m.cls := hown
  have hl : lv_has ls 5 [(0, .ref (w 0))] := hl
  have hI := hok.I
  have h30 := hI.f30
  have h400 := hI.y400
  obtain ⟨s, hs⟩ := hok.1
  refine lv_lconst (v := 0) hx hb dL_looks_0 (by decide) ?_
  refine lv_lstore_n (lv' := [(1, .long 0), (0, .ref (w 0))]) hx hb dL_looks_1 rfl hl (by decide) rfl (fun ls hl => ?_)
  refine lv_iconst (v := 1) hx hb dL_looks_2 (by decide) ?_
  refine lv_istore_n (lv' := [(3, .int 1), (1, .long 0), (0, .ref (w 0))]) hx hb dL_looks_3 rfl hl (by decide) rfl (fun ls hl => ?_)
  refine lv_iconst (v := 0) hx hb dL_looks_4 (by decide) ?_
  refine lv_istore (lv' := [(4, .int 0), (3, .int 1), (1, .long 0), (0, .ref (w 0))]) hx hb dL_looks_5 hl (by decide) rfl (fun ls hl => ?_)
  have loop7 : ∀ (zf : Nat) (q : Nat), 4 - q < zf → q ≤ 4 → ∀ (H : Heap) (locs : List Loc), va_P D vwCl (wC Y w a b d M N F o z P n t kd V vc) H → va_D A (wC Y w a b d M N F o z P n t kd V vc) → va_S A s0.heap H locs → ∀ (ls : Array Slot), lv_has ls 5 [(0, .ref (w 0)), (1, .long (cAll M q)), (3, .int 1), (4, .int (nI q))] → W p l e rL_looks s0 m args below meth c H locs 0 0 Q (F0 m 7 ls []) := by
    intro zf
    induction zf with
    | zero => intro q hmu; exact absurd hmu (Nat.not_lt_zero _)
    | succ zf ih7 =>
      intro q hmu hq H locs hP hD hS ls hl
      refine lv_iload hx hb dL_looks_7 (lv_at hl 3 rfl) ?_
      refine lv_iconst (v := 4) hx hb dL_looks_9 (by decide) ?_
      refine lv_icmp_ge (tgt := 51) hx hb dL_looks_10 (by decide) (fun c1 => ?_) (fun c1 => ?_)
      · have c1n : 4 ≤ q := (nI_leI (a := 4) (b := q) (by omega) (by omega)).mp c1
        obtain rfl : q = 4 := by omega
        refine lv_aload_n hx hb dL_looks_51 rfl (lv_at hl 0 rfl) ?_
        refine kc_i (krV (As := []) (rest := []) (c_X7_next l D Y w a b d M N F o z P n t kd V vc  hI) ⟨hx, hb, hml, hown, hta⟩ (cwL_29 hta ⟨Nat.le_of_ble_eq_true rfl, Nat.le_of_ble_eq_true rfl⟩) kX0b (fun _ _ _ => trivial) hK hNs hP hD (kJ_all) (q0 := 0) rfl rfl rfl rfl hl.1 rfl (Nat.le_of_ble_eq_true rfl) dL_looks_52 ⟨Nat.le_of_ble_eq_true rfl, Nat.le_of_ble_eq_true rfl⟩) hP hD hS hA (kJ_all) (fun _ => rfl) (fun r2 u H locs hw hP hD hS => ?_)
        subst hw
        have hP : va_P D vwCl (wC Y w a b d M N F o z P n t kd V vc) H := hP
        have hD : va_D A (wC Y w a b d M N F o z P n t kd V vc) := hD
        rcases hc : cNextO M with _ | f
        · refine lv_istore (lv' := [(4, .int (oI none)), (0, .ref (w 0)), (1, .long (cAll M 4)), (3, .int 1)]) hx hb dL_looks_55 hl (by decide) rfl (fun ls hl => ?_)
          refine lv_iload_n hx hb dL_looks_57 rfl (lv_at hl 3 rfl) ?_
          refine lv_if_eq (tgt := 126) hx hb dL_looks_58 (by decide) (fun h => False.elim (by revert h; decide)) (fun _ => ?_)
          refine lv_lload_n hx hb dL_looks_61 rfl (lv_at hl 2 rfl) ?_
          refine lv_lconst (v := 1) hx hb dL_looks_62 (by decide) ?_
          refine lv_aload_n hx hb dL_looks_63 rfl (lv_at hl 1 rfl) ?_
          refine lv_iconst (v := 1) hx hb dL_looks_64 (by decide) ?_
          refine kc_i (krV (As := [.int 1]) (rest := [.long 1, .long (cAll M 4)]) (c_X7_count l D Y w a b d M N F o z P n t kd V vc 1 hI) ⟨hx, hb, hml, hown, hta⟩ (cwL_9 hta ⟨Nat.le_of_ble_eq_true rfl, Nat.le_of_ble_eq_true rfl⟩) kX0b (fun _ _ _ => trivial) hK hNs hP hD (kJ_all) (q0 := 0) rfl rfl rfl rfl hl.1 rfl (Nat.le_of_ble_eq_true rfl) dL_looks_65 ⟨Nat.le_of_ble_eq_true rfl, Nat.le_of_ble_eq_true rfl⟩) hP hD hS hA (kJ_all) (fun _ => rfl) (fun r3 u H locs hw hP hD hS => ?_)
          have hw := hw.trans (ct_1 hI n z)
          subst hw
          have hP : va_P D vwCl (wC Y w a b d M N F o z P n t kd V vc) H := hP
          have hD : va_D A (wC Y w a b d M N F o z P n t kd V vc) := hD
          refine lv_lshl (v := 1 <<< ((nI (nF M)).toInt64 &&& 63)) hx hb dL_looks_68 rfl ?_
          refine lv_lconst (v := 1) hx hb dL_looks_69 (by decide) ?_
          refine lv_lsub hx hb dL_looks_70 ?_
          refine W.lcmp hx hb dL_looks_71 ?_
          refine lv_if_ne (tgt := 126) hx hb dL_looks_72 (by decide) (fun h => absurd (kcmp0.mpr (pt_each hI)) h) (fun _ => ?_)
          refine lv_iload hx hb dL_looks_75 (lv_at hl 0 rfl) ?_
          refine lv_bipush (v := (-6)) hx hb dL_looks_77 (by decide) ?_
          refine lv_icmp_eq (tgt := 122) hx hb dL_looks_79 (by decide) (fun _ => ?_) (fun h => absurd rfl h)
          refine lv_iconst (v := 1) hx hb dL_looks_122 (by decide) ?_
          refine lv_goto (tgt := 127) hx hb dL_looks_123 (by decide) ?_
          refine lv_istore_n (lv' := [(3, .int 1), (4, .int (oI none)), (0, .ref (w 0)), (1, .long (cAll M 4))]) hx hb dL_looks_127 rfl hl (by decide) rfl (fun ls hl => ?_)
          refine lv_iload_n hx hb dL_looks_128 rfl (lv_at hl 0 rfl) ?_
          refine lv_if_eq (tgt := 188) hx hb dL_looks_129 (by decide) (fun h => False.elim (by revert h; decide)) (fun _ => ?_)
          refine lv_aload_n hx hb dL_looks_132 rfl (lv_at hl 2 rfl) ?_
          refine lv_iconst (v := 3) hx hb dL_looks_133 (by decide) ?_
          refine lv_iconst (v := 0) hx hb dL_looks_134 (by decide) ?_
          refine kc_i (krV (As := [.int 3, .int 0]) (rest := []) (c_X7_then l D Y w a b d M N F o z P n t kd V vc 3 0 s hs) ⟨hx, hb, hml, hown, hta⟩ (cwL_33 hta ⟨Nat.le_of_ble_eq_true rfl, Nat.le_of_ble_eq_true rfl⟩) kX0b (fun _ _ _ => trivial) hK hNs hP hD (kJ_all) (q0 := 0) rfl rfl rfl rfl hl.1 rfl (Nat.le_of_ble_eq_true rfl) dL_looks_135 ⟨Nat.le_of_ble_eq_true rfl, Nat.le_of_ble_eq_true rfl⟩) hP hD hS hA (kJ_all) (fun _ => rfl) (fun r7 u6 H locs hw hP hD hS => ?_)
          subst hw
          have hP : va_P D vwCl (wC Y w a b d M u6 F o z P n t kd V vc) H := hP
          have hD : va_D A (wC Y w a b d M u6 F o z P n t kd V vc) := hD
          refine lv_if_lt (tgt := 188) hx hb dL_looks_138 (by decide) (fun h => absurd h ((pt_then hok hs).1)) (fun _ => ?_)
          refine lv_aload_n hx hb dL_looks_141 rfl (lv_at hl 2 rfl) ?_
          refine lv_iconst (v := 3) hx hb dL_looks_142 (by decide) ?_
          refine lv_iconst (v := 1) hx hb dL_looks_143 (by decide) ?_
          refine kc_i (krV (As := [.int 3, .int 1]) (rest := []) (c_X7_then l D Y w a b d M u6 F o z P n t kd V vc 3 1 s hs) ⟨hx, hb, hml, hown, hta⟩ (cwL_33 hta ⟨Nat.le_of_ble_eq_true rfl, Nat.le_of_ble_eq_true rfl⟩) kX0b (fun _ _ _ => trivial) hK hNs hP hD (kJ_all) (q0 := 0) rfl rfl rfl rfl hl.1 rfl (Nat.le_of_ble_eq_true rfl) dL_looks_144 ⟨Nat.le_of_ble_eq_true rfl, Nat.le_of_ble_eq_true rfl⟩) hP hD hS hA (kJ_all) (fun _ => rfl) (fun r10 u9 H locs hw hP hD hS => ?_)
          subst hw
          have hP : va_P D vwCl (wC Y w a b d M u9 F o z P n t kd V vc) H := hP
          have hD : va_D A (wC Y w a b d M u9 F o z P n t kd V vc) := hD
          refine lv_iconst (v := 3) hx hb dL_looks_147 (by decide) ?_
          refine lv_aload_n hx hb dL_looks_148 rfl (lv_at hl 2 rfl) ?_
          refine lv_bipush (v := 13) hx hb dL_looks_149 (by decide) ?_
          refine kc_i (krV (As := [.int 13]) (rest := [.int 3, .int (mThen s 3 1)]) (c_X7_count l D Y w a b d M u9 F o z P n t kd V vc 13 hI) ⟨hx, hb, hml, hown, hta⟩ (cwL_9 hta ⟨Nat.le_of_ble_eq_true rfl, Nat.le_of_ble_eq_true rfl⟩) kX0b (fun _ _ _ => trivial) hK hNs hP hD (kJ_all) (q0 := 0) rfl rfl rfl rfl hl.1 rfl (Nat.le_of_ble_eq_true rfl) dL_looks_151 ⟨Nat.le_of_ble_eq_true rfl, Nat.le_of_ble_eq_true rfl⟩) hP hD hS hA (kJ_all) (fun _ => rfl) (fun r11 u H locs hw hP hD hS => ?_)
          have hw := hw.trans (ct_13 M n z)
          subst hw
          have hP : va_P D vwCl (wC Y w a b d M u9 F o z P n t kd V vc) H := hP
          have hD : va_D A (wC Y w a b d M u9 F o z P n t kd V vc) := hD
          refine lv_imul hx hb dL_looks_154 ?_
          refine lv_icmp_gt (tgt := 188) hx hb dL_looks_155 (by decide) (fun h => absurd h ((pt_then hok hs).2.1)) (fun _ => ?_)
          refine lv_aload_n hx hb dL_looks_158 rfl (lv_at hl 2 rfl) ?_
          refine lv_iconst (v := 4) hx hb dL_looks_159 (by decide) ?_
          refine lv_iconst (v := 2) hx hb dL_looks_160 (by decide) ?_
          refine kc_i (krV (As := [.int 4, .int 2]) (rest := []) (c_X7_then l D Y w a b d M u9 F o z P n t kd V vc 4 2 s hs) ⟨hx, hb, hml, hown, hta⟩ (cwL_33 hta ⟨Nat.le_of_ble_eq_true rfl, Nat.le_of_ble_eq_true rfl⟩) kX0b (fun _ _ _ => trivial) hK hNs hP hD (kJ_all) (q0 := 0) rfl rfl rfl rfl hl.1 rfl (Nat.le_of_ble_eq_true rfl) dL_looks_161 ⟨Nat.le_of_ble_eq_true rfl, Nat.le_of_ble_eq_true rfl⟩) hP hD hS hA (kJ_all) (fun _ => rfl) (fun r14 u13 H locs hw hP hD hS => ?_)
          subst hw
          have hP : va_P D vwCl (wC Y w a b d M u13 F o z P n t kd V vc) H := hP
          have hD : va_D A (wC Y w a b d M u13 F o z P n t kd V vc) := hD
          refine lv_aload_n hx hb dL_looks_164 rfl (lv_at hl 2 rfl) ?_
          refine lv_iconst (v := 3) hx hb dL_looks_165 (by decide) ?_
          refine lv_iconst (v := 2) hx hb dL_looks_166 (by decide) ?_
          refine kc_i (krV (As := [.int 3, .int 2]) (rest := [.int (mThen s 4 2)]) (c_X7_then l D Y w a b d M u13 F o z P n t kd V vc 3 2 s hs) ⟨hx, hb, hml, hown, hta⟩ (cwL_33 hta ⟨Nat.le_of_ble_eq_true rfl, Nat.le_of_ble_eq_true rfl⟩) kX0b (fun _ _ _ => trivial) hK hNs hP hD (kJ_all) (q0 := 0) rfl rfl rfl rfl hl.1 rfl (Nat.le_of_ble_eq_true rfl) dL_looks_167 ⟨Nat.le_of_ble_eq_true rfl, Nat.le_of_ble_eq_true rfl⟩) hP hD hS hA (kJ_all) (fun _ => rfl) (fun r16 u15 H locs hw hP hD hS => ?_)
          subst hw
          have hP : va_P D vwCl (wC Y w a b d M u15 F o z P n t kd V vc) H := hP
          have hD : va_D A (wC Y w a b d M u15 F o z P n t kd V vc) := hD
          refine lv_icmp_lt (tgt := 188) hx hb dL_looks_170 (by decide) (fun h => absurd h ((pt_then hok hs).2.2)) (fun _ => ?_)
          refine lv_aload_n hx hb dL_looks_173 rfl (lv_at hl 2 rfl) ?_
          refine lv_iconst (v := 3) hx hb dL_looks_174 (by decide) ?_
          refine lv_iconst (v := 0) hx hb dL_looks_175 (by decide) ?_
          refine kc_i (krV (As := [.int 3, .int 0]) (rest := []) (c_X7_stopCosts l D Y w a b d M u15 F o z P n t kd V vc 3 0 s hs) ⟨hx, hb, hml, hown, hta⟩ (cwL_36 hta ⟨Nat.le_of_ble_eq_true rfl, Nat.le_of_ble_eq_true rfl⟩) kX0b (fun _ _ _ => trivial) hK hNs hP hD (kJ_all) (q0 := 0) rfl rfl rfl rfl hl.1 rfl (Nat.le_of_ble_eq_true rfl) dL_looks_176 ⟨Nat.le_of_ble_eq_true rfl, Nat.le_of_ble_eq_true rfl⟩) hP hD hS hA (kJ_all) (fun _ => rfl) (fun r19 u18 H locs hw hP hD hS => ?_)
          subst hw
          have hP : va_P D vwCl (wC Y w a b d M u18 F o z P n t kd V vc) H := hP
          have hD : va_D A (wC Y w a b d M u18 F o z P n t kd V vc) := hD
          refine lv_ldc hx hb hown (hta _ al_5009) dL_looks_179 ?_
          refine lv_icmp_ne (tgt := 188) hx hb dL_looks_181 (by decide) (fun h => absurd (pt_costs s) h) (fun _ => ?_)
          refine lv_iconst (v := 1) hx hb dL_looks_184 (by decide) ?_
          refine lv_goto (tgt := 189) hx hb dL_looks_185 (by decide) ?_
          exact kzret (u18) hQ hx hb hr hlocks hP hS dL_looks_189 (by first | exact Or.inl rfl | exact Or.inr rfl | exact kb_01 _) rfl
        · refine kTop (y := nI f) rfl ?_
          obtain ⟨hf, hn1, hn2, hn3⟩ := pt_next hok hc
          refine lv_istore (lv' := [(4, .int (nI f)), (0, .ref (w 0)), (1, .long (cAll M 4)), (3, .int 1)]) hx hb dL_looks_55 hl (by decide) rfl (fun ls hl => ?_)
          refine lv_iload_n hx hb dL_looks_57 rfl (lv_at hl 3 rfl) ?_
          refine lv_if_eq (tgt := 126) hx hb dL_looks_58 (by decide) (fun h => False.elim (by revert h; decide)) (fun _ => ?_)
          refine lv_lload_n hx hb dL_looks_61 rfl (lv_at hl 2 rfl) ?_
          refine lv_lconst (v := 1) hx hb dL_looks_62 (by decide) ?_
          refine lv_aload_n hx hb dL_looks_63 rfl (lv_at hl 1 rfl) ?_
          refine lv_iconst (v := 1) hx hb dL_looks_64 (by decide) ?_
          refine kc_i (krV (As := [.int 1]) (rest := [.long 1, .long (cAll M 4)]) (c_X7_count l D Y w a b d M N F o z P n t kd V vc 1 hI) ⟨hx, hb, hml, hown, hta⟩ (cwL_9 hta ⟨Nat.le_of_ble_eq_true rfl, Nat.le_of_ble_eq_true rfl⟩) kX0b (fun _ _ _ => trivial) hK hNs hP hD (kJ_all) (q0 := 0) rfl rfl rfl rfl hl.1 rfl (Nat.le_of_ble_eq_true rfl) dL_looks_65 ⟨Nat.le_of_ble_eq_true rfl, Nat.le_of_ble_eq_true rfl⟩) hP hD hS hA (kJ_all) (fun _ => rfl) (fun r21 u H locs hw hP hD hS => ?_)
          have hw := hw.trans (ct_1 hI n z)
          subst hw
          have hP : va_P D vwCl (wC Y w a b d M N F o z P n t kd V vc) H := hP
          have hD : va_D A (wC Y w a b d M N F o z P n t kd V vc) := hD
          refine lv_lshl (v := 1 <<< ((nI (nF M)).toInt64 &&& 63)) hx hb dL_looks_68 rfl ?_
          refine lv_lconst (v := 1) hx hb dL_looks_69 (by decide) ?_
          refine lv_lsub hx hb dL_looks_70 ?_
          refine W.lcmp hx hb dL_looks_71 ?_
          refine lv_if_ne (tgt := 126) hx hb dL_looks_72 (by decide) (fun h => absurd (kcmp0.mpr (pt_each hI)) h) (fun _ => ?_)
          refine lv_iload hx hb dL_looks_75 (lv_at hl 0 rfl) ?_
          refine lv_bipush (v := (-6)) hx hb dL_looks_77 (by decide) ?_
          refine lv_icmp_eq (tgt := 122) hx hb dL_looks_79 (by decide) (fun h => absurd h (oI_ne (b := f) (by omega))) (fun _ => ?_)
          refine lv_aload_n hx hb dL_looks_82 rfl (lv_at hl 1 rfl) ?_
          refine lv_iload hx hb dL_looks_83 (lv_at hl 0 rfl) ?_
          refine lv_iconst (v := 4) hx hb dL_looks_85 (by decide) ?_
          refine kc_i (krV (As := [.int (nI f), .int 4]) (rest := []) (c_X7_ofField l D Y w a b d M N F o z P n t kd V vc (nI f) 4 hI) ⟨hx, hb, hml, hown, hta⟩ (cwL_15 hta ⟨Nat.le_of_ble_eq_true rfl, Nat.le_of_ble_eq_true rfl⟩) kX0b (fun _ _ _ => trivial) hK hNs hP hD (kJ_all) (q0 := 0) rfl rfl rfl rfl hl.1 rfl (Nat.le_of_ble_eq_true rfl) dL_looks_86 ⟨Nat.le_of_ble_eq_true rfl, Nat.le_of_ble_eq_true rfl⟩) hP hD hS hA (kJ_all) (fun _ => rfl) (fun r24 u H locs hw hP hD hS => ?_)
          have hw := hw.trans (of_4 hI (f := f) (by omega))
          subst hw
          have hP : va_P D vwCl (wC Y w a b d M N F o z P n t kd V vc) H := hP
          have hD : va_D A (wC Y w a b d M N F o z P n t kd V vc) := hD
          refine lv_iconst (v := 1) hx hb dL_looks_89 (by decide) ?_
          refine lv_icmp_ne (tgt := 126) hx hb dL_looks_90 (by decide) (fun h => absurd hn1 h) (fun _ => ?_)
          refine lv_aload_n hx hb dL_looks_93 rfl (lv_at hl 1 rfl) ?_
          refine lv_aload_n hx hb dL_looks_94 rfl (lv_at hl 1 rfl) ?_
          refine lv_iload hx hb dL_looks_95 (lv_at hl 0 rfl) ?_
          refine lv_iconst (v := 0) hx hb dL_looks_97 (by decide) ?_
          refine kc_i (krV (As := [.int (nI f), .int 0]) (rest := [.ref (w 0)]) (c_X7_ofField l D Y w a b d M N F o z P n t kd V vc (nI f) 0 hI) ⟨hx, hb, hml, hown, hta⟩ (cwL_15 hta ⟨Nat.le_of_ble_eq_true rfl, Nat.le_of_ble_eq_true rfl⟩) kX0b (fun _ _ _ => trivial) hK hNs hP hD (kJ_all) (q0 := 0) rfl rfl rfl rfl hl.1 rfl (Nat.le_of_ble_eq_true rfl) dL_looks_98 ⟨Nat.le_of_ble_eq_true rfl, Nat.le_of_ble_eq_true rfl⟩) hP hD hS hA (kJ_all) (fun _ => rfl) (fun r26 u H locs hw hP hD hS => ?_)
          have hw := hw.trans ((of_0 hI (f := f) (by omega)).trans (hI.g (f := f) (by omega)).1)
          subst hw
          have hP : va_P D vwCl (wC Y w a b d M N F o z P n t kd V vc) H := hP
          have hD : va_D A (wC Y w a b d M N F o z P n t kd V vc) := hD
          refine lv_iconst (v := 0) hx hb dL_looks_101 (by decide) ?_
          refine kc_i (krV (As := [.int (nI (gr M f)), .int 0]) (rest := []) (c_X7_ofGrower l D Y w a b d M N F o z P n t kd V vc (nI (gr M f)) 0 hI) ⟨hx, hb, hml, hown, hta⟩ (cwL_22 hta ⟨Nat.le_of_ble_eq_true rfl, Nat.le_of_ble_eq_true rfl⟩) kX0b (fun _ _ _ => trivial) hK hNs hP hD (kJ_all) (q0 := 0) rfl rfl rfl rfl hl.1 rfl (Nat.le_of_ble_eq_true rfl) dL_looks_102 ⟨Nat.le_of_ble_eq_true rfl, Nat.le_of_ble_eq_true rfl⟩) hP hD hS hA (kJ_all) (fun _ => rfl) (fun r27 u H locs hw hP hD hS => ?_)
          have hw := hw.trans (og_0 (g := (gr M f)) ((hI.g hf).2))
          subst hw
          have hP : va_P D vwCl (wC Y w a b d M N F o z P n t kd V vc) H := hP
          have hD : va_D A (wC Y w a b d M N F o z P n t kd V vc) := hD
          refine lv_if_le (tgt := 126) hx hb dL_looks_105 (by decide) (fun h => absurd h hn2) (fun _ => ?_)
          refine lv_aload_n hx hb dL_looks_108 rfl (lv_at hl 1 rfl) ?_
          refine lv_iconst (v := 3) hx hb dL_looks_109 (by decide) ?_
          refine kc_i (krV (As := [.int 3]) (rest := []) (c_X7_count l D Y w a b d M N F o z P n t kd V vc 3 hI) ⟨hx, hb, hml, hown, hta⟩ (cwL_9 hta ⟨Nat.le_of_ble_eq_true rfl, Nat.le_of_ble_eq_true rfl⟩) kX0b (fun _ _ _ => trivial) hK hNs hP hD (kJ_all) (q0 := 0) rfl rfl rfl rfl hl.1 rfl (Nat.le_of_ble_eq_true rfl) dL_looks_110 ⟨Nat.le_of_ble_eq_true rfl, Nat.le_of_ble_eq_true rfl⟩) hP hD hS hA (kJ_all) (fun _ => rfl) (fun r29 u H locs hw hP hD hS => ?_)
          have hw := hw.trans (ct_3 M n z)
          subst hw
          have hP : va_P D vwCl (wC Y w a b d M N F o z P n t kd V vc) H := hP
          have hD : va_D A (wC Y w a b d M N F o z P n t kd V vc) := hD
          refine lv_aload_n hx hb dL_looks_113 rfl (lv_at hl 1 rfl) ?_
          refine lv_bipush (v := 14) hx hb dL_looks_114 (by decide) ?_
          refine kc_i (krV (As := [.int 14]) (rest := [.int (M 19 7)]) (c_X7_count l D Y w a b d M N F o z P n t kd V vc 14 hI) ⟨hx, hb, hml, hown, hta⟩ (cwL_9 hta ⟨Nat.le_of_ble_eq_true rfl, Nat.le_of_ble_eq_true rfl⟩) kX0b (fun _ _ _ => trivial) hK hNs hP hD (kJ_all) (q0 := 0) rfl rfl rfl rfl hl.1 rfl (Nat.le_of_ble_eq_true rfl) dL_looks_116 ⟨Nat.le_of_ble_eq_true rfl, Nat.le_of_ble_eq_true rfl⟩) hP hD hS hA (kJ_all) (fun _ => rfl) (fun r30 u H locs hw hP hD hS => ?_)
          have hw := hw.trans (ct_14 M n z)
          subst hw
          have hP : va_P D vwCl (wC Y w a b d M N F o z P n t kd V vc) H := hP
          have hD : va_D A (wC Y w a b d M N F o z P n t kd V vc) := hD
          refine lv_icmp_ge (tgt := 126) hx hb dL_looks_119 (by decide) (fun h => absurd h hn3) (fun _ => ?_)
          refine lv_iconst (v := 1) hx hb dL_looks_122 (by decide) ?_
          refine lv_goto (tgt := 127) hx hb dL_looks_123 (by decide) ?_
          refine lv_istore_n (lv' := [(3, .int 1), (4, .int (nI f)), (0, .ref (w 0)), (1, .long (cAll M 4))]) hx hb dL_looks_127 rfl hl (by decide) rfl (fun ls hl => ?_)
          refine lv_iload_n hx hb dL_looks_128 rfl (lv_at hl 0 rfl) ?_
          refine lv_if_eq (tgt := 188) hx hb dL_looks_129 (by decide) (fun h => False.elim (by revert h; decide)) (fun _ => ?_)
          refine lv_aload_n hx hb dL_looks_132 rfl (lv_at hl 2 rfl) ?_
          refine lv_iconst (v := 3) hx hb dL_looks_133 (by decide) ?_
          refine lv_iconst (v := 0) hx hb dL_looks_134 (by decide) ?_
          refine kc_i (krV (As := [.int 3, .int 0]) (rest := []) (c_X7_then l D Y w a b d M N F o z P n t kd V vc 3 0 s hs) ⟨hx, hb, hml, hown, hta⟩ (cwL_33 hta ⟨Nat.le_of_ble_eq_true rfl, Nat.le_of_ble_eq_true rfl⟩) kX0b (fun _ _ _ => trivial) hK hNs hP hD (kJ_all) (q0 := 0) rfl rfl rfl rfl hl.1 rfl (Nat.le_of_ble_eq_true rfl) dL_looks_135 ⟨Nat.le_of_ble_eq_true rfl, Nat.le_of_ble_eq_true rfl⟩) hP hD hS hA (kJ_all) (fun _ => rfl) (fun r33 u32 H locs hw hP hD hS => ?_)
          subst hw
          have hP : va_P D vwCl (wC Y w a b d M u32 F o z P n t kd V vc) H := hP
          have hD : va_D A (wC Y w a b d M u32 F o z P n t kd V vc) := hD
          refine lv_if_lt (tgt := 188) hx hb dL_looks_138 (by decide) (fun h => absurd h ((pt_then hok hs).1)) (fun _ => ?_)
          refine lv_aload_n hx hb dL_looks_141 rfl (lv_at hl 2 rfl) ?_
          refine lv_iconst (v := 3) hx hb dL_looks_142 (by decide) ?_
          refine lv_iconst (v := 1) hx hb dL_looks_143 (by decide) ?_
          refine kc_i (krV (As := [.int 3, .int 1]) (rest := []) (c_X7_then l D Y w a b d M u32 F o z P n t kd V vc 3 1 s hs) ⟨hx, hb, hml, hown, hta⟩ (cwL_33 hta ⟨Nat.le_of_ble_eq_true rfl, Nat.le_of_ble_eq_true rfl⟩) kX0b (fun _ _ _ => trivial) hK hNs hP hD (kJ_all) (q0 := 0) rfl rfl rfl rfl hl.1 rfl (Nat.le_of_ble_eq_true rfl) dL_looks_144 ⟨Nat.le_of_ble_eq_true rfl, Nat.le_of_ble_eq_true rfl⟩) hP hD hS hA (kJ_all) (fun _ => rfl) (fun r36 u35 H locs hw hP hD hS => ?_)
          subst hw
          have hP : va_P D vwCl (wC Y w a b d M u35 F o z P n t kd V vc) H := hP
          have hD : va_D A (wC Y w a b d M u35 F o z P n t kd V vc) := hD
          refine lv_iconst (v := 3) hx hb dL_looks_147 (by decide) ?_
          refine lv_aload_n hx hb dL_looks_148 rfl (lv_at hl 2 rfl) ?_
          refine lv_bipush (v := 13) hx hb dL_looks_149 (by decide) ?_
          refine kc_i (krV (As := [.int 13]) (rest := [.int 3, .int (mThen s 3 1)]) (c_X7_count l D Y w a b d M u35 F o z P n t kd V vc 13 hI) ⟨hx, hb, hml, hown, hta⟩ (cwL_9 hta ⟨Nat.le_of_ble_eq_true rfl, Nat.le_of_ble_eq_true rfl⟩) kX0b (fun _ _ _ => trivial) hK hNs hP hD (kJ_all) (q0 := 0) rfl rfl rfl rfl hl.1 rfl (Nat.le_of_ble_eq_true rfl) dL_looks_151 ⟨Nat.le_of_ble_eq_true rfl, Nat.le_of_ble_eq_true rfl⟩) hP hD hS hA (kJ_all) (fun _ => rfl) (fun r37 u H locs hw hP hD hS => ?_)
          have hw := hw.trans (ct_13 M n z)
          subst hw
          have hP : va_P D vwCl (wC Y w a b d M u35 F o z P n t kd V vc) H := hP
          have hD : va_D A (wC Y w a b d M u35 F o z P n t kd V vc) := hD
          refine lv_imul hx hb dL_looks_154 ?_
          refine lv_icmp_gt (tgt := 188) hx hb dL_looks_155 (by decide) (fun h => absurd h ((pt_then hok hs).2.1)) (fun _ => ?_)
          refine lv_aload_n hx hb dL_looks_158 rfl (lv_at hl 2 rfl) ?_
          refine lv_iconst (v := 4) hx hb dL_looks_159 (by decide) ?_
          refine lv_iconst (v := 2) hx hb dL_looks_160 (by decide) ?_
          refine kc_i (krV (As := [.int 4, .int 2]) (rest := []) (c_X7_then l D Y w a b d M u35 F o z P n t kd V vc 4 2 s hs) ⟨hx, hb, hml, hown, hta⟩ (cwL_33 hta ⟨Nat.le_of_ble_eq_true rfl, Nat.le_of_ble_eq_true rfl⟩) kX0b (fun _ _ _ => trivial) hK hNs hP hD (kJ_all) (q0 := 0) rfl rfl rfl rfl hl.1 rfl (Nat.le_of_ble_eq_true rfl) dL_looks_161 ⟨Nat.le_of_ble_eq_true rfl, Nat.le_of_ble_eq_true rfl⟩) hP hD hS hA (kJ_all) (fun _ => rfl) (fun r40 u39 H locs hw hP hD hS => ?_)
          subst hw
          have hP : va_P D vwCl (wC Y w a b d M u39 F o z P n t kd V vc) H := hP
          have hD : va_D A (wC Y w a b d M u39 F o z P n t kd V vc) := hD
          refine lv_aload_n hx hb dL_looks_164 rfl (lv_at hl 2 rfl) ?_
          refine lv_iconst (v := 3) hx hb dL_looks_165 (by decide) ?_
          refine lv_iconst (v := 2) hx hb dL_looks_166 (by decide) ?_
          refine kc_i (krV (As := [.int 3, .int 2]) (rest := [.int (mThen s 4 2)]) (c_X7_then l D Y w a b d M u39 F o z P n t kd V vc 3 2 s hs) ⟨hx, hb, hml, hown, hta⟩ (cwL_33 hta ⟨Nat.le_of_ble_eq_true rfl, Nat.le_of_ble_eq_true rfl⟩) kX0b (fun _ _ _ => trivial) hK hNs hP hD (kJ_all) (q0 := 0) rfl rfl rfl rfl hl.1 rfl (Nat.le_of_ble_eq_true rfl) dL_looks_167 ⟨Nat.le_of_ble_eq_true rfl, Nat.le_of_ble_eq_true rfl⟩) hP hD hS hA (kJ_all) (fun _ => rfl) (fun r42 u41 H locs hw hP hD hS => ?_)
          subst hw
          have hP : va_P D vwCl (wC Y w a b d M u41 F o z P n t kd V vc) H := hP
          have hD : va_D A (wC Y w a b d M u41 F o z P n t kd V vc) := hD
          refine lv_icmp_lt (tgt := 188) hx hb dL_looks_170 (by decide) (fun h => absurd h ((pt_then hok hs).2.2)) (fun _ => ?_)
          refine lv_aload_n hx hb dL_looks_173 rfl (lv_at hl 2 rfl) ?_
          refine lv_iconst (v := 3) hx hb dL_looks_174 (by decide) ?_
          refine lv_iconst (v := 0) hx hb dL_looks_175 (by decide) ?_
          refine kc_i (krV (As := [.int 3, .int 0]) (rest := []) (c_X7_stopCosts l D Y w a b d M u41 F o z P n t kd V vc 3 0 s hs) ⟨hx, hb, hml, hown, hta⟩ (cwL_36 hta ⟨Nat.le_of_ble_eq_true rfl, Nat.le_of_ble_eq_true rfl⟩) kX0b (fun _ _ _ => trivial) hK hNs hP hD (kJ_all) (q0 := 0) rfl rfl rfl rfl hl.1 rfl (Nat.le_of_ble_eq_true rfl) dL_looks_176 ⟨Nat.le_of_ble_eq_true rfl, Nat.le_of_ble_eq_true rfl⟩) hP hD hS hA (kJ_all) (fun _ => rfl) (fun r45 u44 H locs hw hP hD hS => ?_)
          subst hw
          have hP : va_P D vwCl (wC Y w a b d M u44 F o z P n t kd V vc) H := hP
          have hD : va_D A (wC Y w a b d M u44 F o z P n t kd V vc) := hD
          refine lv_ldc hx hb hown (hta _ al_5009) dL_looks_179 ?_
          refine lv_icmp_ne (tgt := 188) hx hb dL_looks_181 (by decide) (fun h => absurd (pt_costs s) h) (fun _ => ?_)
          refine lv_iconst (v := 1) hx hb dL_looks_184 (by decide) ?_
          refine lv_goto (tgt := 189) hx hb dL_looks_185 (by decide) ?_
          exact kzret (u44) hQ hx hb hr hlocks hP hS dL_looks_189 (by first | exact Or.inl rfl | exact Or.inr rfl | exact kb_01 _) rfl
      · have c1n : ¬ 4 ≤ q := fun h => c1 ((nI_leI (a := 4) (b := q) (by omega) (by omega)).mpr h)
        refine lv_iload_n hx hb dL_looks_13 rfl (lv_at hl 2 rfl) ?_
        refine lv_if_eq (tgt := 51) hx hb dL_looks_14 (by decide) (fun h => False.elim (by revert h; decide)) (fun _ => ?_)
        refine lv_lload_n hx hb dL_looks_17 rfl (lv_at hl 1 rfl) ?_
        refine lv_aload_n hx hb dL_looks_18 rfl (lv_at hl 0 rfl) ?_
        refine lv_iload hx hb dL_looks_19 (lv_at hl 3 rfl) ?_
        refine kc_l (krV (As := [.int (nI q)]) (rest := [.long (cAll M q)]) (c_X7_fields l D Y w a b d M N F o z P n t kd V vc (nI q) hI) ⟨hx, hb, hml, hown, hta⟩ (cwL_25 hta ⟨Nat.le_of_ble_eq_true rfl, Nat.le_of_ble_eq_true rfl⟩) kX0b (fun _ _ _ => trivial) hK hNs hP hD (kJ_all) (q0 := 0) rfl rfl rfl rfl hl.1 rfl (Nat.le_of_ble_eq_true rfl) dL_looks_21 ⟨Nat.le_of_ble_eq_true rfl, Nat.le_of_ble_eq_true rfl⟩) hP hD hS hA (kJ_all) (fun _ => rfl) (fun r47 u H locs hw hP hD hS => ?_)
        subst hw
        have hP : va_P D vwCl (wC Y w a b d M N F o z P n t kd V vc) H := hP
        have hD : va_D A (wC Y w a b d M N F o z P n t kd V vc) := hD
        refine lv_land hx hb dL_looks_24 ?_
        refine lv_lconst (v := 0) hx hb dL_looks_25 (by decide) ?_
        refine W.lcmp hx hb dL_looks_26 ?_
        refine lv_if_ne (tgt := 34) hx hb dL_looks_27 (by decide) (fun h => absurd (kcmp0.mpr (pt_two hI (q := q) (by omega))) h) (fun _ => ?_)
        refine lv_iconst (v := 1) hx hb dL_looks_30 (by decide) ?_
        refine lv_goto (tgt := 35) hx hb dL_looks_31 (by decide) ?_
        refine lv_istore_n (lv' := [(3, .int 1), (0, .ref (w 0)), (1, .long (cAll M q)), (4, .int (nI q))]) hx hb dL_looks_35 rfl hl (by decide) rfl (fun ls hl => ?_)
        refine lv_lload_n hx hb dL_looks_36 rfl (lv_at hl 2 rfl) ?_
        refine lv_aload_n hx hb dL_looks_37 rfl (lv_at hl 1 rfl) ?_
        refine lv_iload hx hb dL_looks_38 (lv_at hl 3 rfl) ?_
        refine kc_l (krV (As := [.int (nI q)]) (rest := [.long (cAll M q)]) (c_X7_fields l D Y w a b d M N F o z P n t kd V vc (nI q) hI) ⟨hx, hb, hml, hown, hta⟩ (cwL_25 hta ⟨Nat.le_of_ble_eq_true rfl, Nat.le_of_ble_eq_true rfl⟩) kX0b (fun _ _ _ => trivial) hK hNs hP hD (kJ_all) (q0 := 0) rfl rfl rfl rfl hl.1 rfl (Nat.le_of_ble_eq_true rfl) dL_looks_40 ⟨Nat.le_of_ble_eq_true rfl, Nat.le_of_ble_eq_true rfl⟩) hP hD hS hA (kJ_all) (fun _ => rfl) (fun r49 u H locs hw hP hD hS => ?_)
        subst hw
        have hP : va_P D vwCl (wC Y w a b d M N F o z P n t kd V vc) H := hP
        have hD : va_D A (wC Y w a b d M N F o z P n t kd V vc) := hD
        refine lv_lor hx hb dL_looks_43 ?_
        refine kTopl (y := cAll M (q + 1)) rfl ?_
        refine lv_lstore_n (lv' := [(1, .long (cAll M (q + 1))), (3, .int 1), (0, .ref (w 0)), (4, .int (nI q))]) hx hb dL_looks_44 rfl hl (by decide) rfl (fun ls hl => ?_)
        refine lv_iinc (v := nI (q + 1)) (lv' := [(4, .int (nI (q + 1))), (1, .long (cAll M (q + 1))), (3, .int 1), (0, .ref (w 0))]) hx hb dL_looks_45 hl (k := 3) rfl (nI_add q 1) (by decide) rfl (fun ls hl => ?_)
        refine lv_goto (tgt := 7) hx hb dL_looks_48 (by decide) ?_
        exact ih7 (q + 1) (by omega) (by omega) _ _ hP hD hS ls (lv_sub hl [3, 1, 2, 0] rfl)
  exact loop7 ((4 - 0) + 1) 0 (Nat.lt_succ_self _) (by omega) _ _ hP hD hS ls (lv_sub hl [3, 2, 1, 0] rfl)
