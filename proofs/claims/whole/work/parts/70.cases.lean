set_option maxHeartbeats 4000000 in
set_option maxRecDepth 100000 in
theorem law_0 {p : Program} {l : Launch} {e : Env} {s0 : State} {m : MethodId} {below : List Frame} {meth : Method} {c : Code} {sb L : Nat} {xs : Nat → Int32} {D : va_G} {Y : Nat → ClassId} {Q : State → Prop} {ad av w a b d rb : Nat → Nat} (X0 : lwH p s0 m meth c sb L xs D Y ad av) {i : Nat} (hi : i + 5 ≤ L) (hL : L ≤ 2560) {C S : Nat} (hC : C + 24 ≤ 600000) (hS1 : S + 1518 ≤ 7302249) (K : lwK p l e s0 m below meth c sb Y D Q w a b d rb i (C + 24) (S + 1518)) {M N : kN} {F : kFm} {o z : Nat} {P : Nat → Int32} {n t : Nat} {kd : Int32} {V : Nat → Int32} {vc : Nat} {R : kN} (hrel : kRel M F o z P n vc R) (H : Heap) (locs : List Loc) (hP : va_P D vwCl (wR Y rb R ++ wC Y w a b d M N F o z P n t kd V vc) H) (hD : va_D (fun q => s0.heap.size ≤ q) (wR Y rb R ++ wC Y w a b d M N F o z P n t kd V vc)) (hS : va_S (fun q => s0.heap.size ≤ q) s0.heap H locs) (ls : Array Slot) (hl : lv_has ls 4 [(3, .int (nI i)), (2, .ref (rb 0)), (1, .ref (w 0)), (0, .ref sb)]) : W p l e room_1 s0 m #[Value.ref sb] below meth c H locs C S Q (F0 m 140 ls []) := by
  obtain ⟨hx, hb, hr, hml, hown, hta, hX, hbl, hK, hNs, hE⟩ := X0
  have hA : ∀ q : Nat, s0.heap.size ≤ q → (fun q : Nat => s0.heap.size ≤ q) q := fun _ h => h
  have hbA : ¬ (fun q : Nat => s0.heap.size ≤ q) sb := Nat.not_le.mpr hbl
  have hX0 : kX s0.heap.size ad av s0.heap.size s0 := ⟨Nat.le_refl _, hE⟩
  have hI := kSim_I hrel.1.1 hrel.1.2.1
  have ho := hrel.2.2.1.2.2
  have hz := hrel.2.2.1.2.1
  have h80 := hrel.2.1.2.1
  have hv := hrel.2.1.2.2.2.1
  have hC2 := hrel.2.1.2.2.2.2
  have hC0 : C ≤ 600000 := by omega
  have hS0 : S ≤ 7302249 := by omega
  have hB : ∀ c ∈ (wC Y w a b d M N F o z P n t kd V vc).map (·.1), s0.heap.size ≤ c := lw_B (kD_r hD)
  have hCx : C + 24 ≤ 600000 := hC
  have hSx : S + 1518 ≤ 7302249 := hS1
  refine lv_aload_n hx hb dL_law_140 rfl (lv_at hl 2 rfl) ?_
  refine lv_aload_n hx hb dL_law_141 rfl (lv_at hl 3 rfl) ?_
  refine lv_iload_n hx hb dL_law_142 rfl (lv_at hl 0 rfl) ?_
  refine lv_iconst (v := 1) hx hb dL_law_143 (by decide) ?_
  refine lv_iadd hx hb dL_law_144 ?_
  refine kTop (nI_add i 1) ?_
  refine va_sld hx hb hX hbl hbA hS (vp_in_nI (by omega) (by omega)) dL_law_145 ?_
  refine kTop (y := xs (i + 1)) (congrArg xs (nI_clamp (by omega))) ?_
  refine lv_aload_n hx hb dL_law_146 rfl (lv_at hl 3 rfl) ?_
  refine lv_iload_n hx hb dL_law_147 rfl (lv_at hl 0 rfl) ?_
  refine lv_iconst (v := 2) hx hb dL_law_148 (by decide) ?_
  refine lv_iadd hx hb dL_law_149 ?_
  refine kTop (nI_add i 2) ?_
  refine va_sld hx hb hX hbl hbA hS (vp_in_nI (by omega) (by omega)) dL_law_150 ?_
  refine kTop (y := xs (i + 2)) (congrArg xs (nI_clamp (by omega))) ?_
  refine kc_in (krV (As := [.int (xs (i + 1)), .int (xs (i + 2))]) (rest := []) (c_X7_set l D Y w a b d M N F o z P n t kd V vc s0.heap.size ad av (xs (i + 1)) (xs (i + 2)) hI ho hz hB) ⟨hx, hb, hml, hown, hta⟩ (cwL_13 hta ⟨Nat.le_of_ble_eq_true rfl, Nat.le_of_ble_eq_true rfl⟩) kXb_E (kX_go hX0 hS (fun q h => h)) hK hNs hP hD (kJ_right) (q0 := 0) rfl rfl rfl rfl hl.1 rfl (Nat.le_of_ble_eq_true rfl) dL_law_151 ⟨hC, hS1⟩) hP hD hS hA (kJn_r) (fun r2 u1 H locs hw hP hD hS => ?_)
  have hw := hw
  obtain ⟨e1, hr2⟩ := kC_set hrel hw
  have hP : va_P D vwCl (wR Y rb R ++ wC Y w a b d u1.1 N u1.2.1 u1.2.2.1 u1.2.2.2 P n t kd V vc) H := hP
  have hD : va_D (fun q => s0.heap.size ≤ q) (wR Y rb R ++ wC Y w a b d u1.1 N u1.2.1 u1.2.2.1 u1.2.2.2 P n t kd V vc) := hD
  refine lv_aload_n hx hb dL_law_154 rfl (lv_at hl 1 rfl) ?_
  refine lv_aload_n hx hb dL_law_155 rfl (lv_at hl 3 rfl) ?_
  refine lv_iload_n hx hb dL_law_156 rfl (lv_at hl 0 rfl) ?_
  refine lv_iconst (v := 1) hx hb dL_law_157 (by decide) ?_
  refine lv_iadd hx hb dL_law_158 ?_
  refine kTop (nI_add i 1) ?_
  refine va_sld hx hb hX hbl hbA hS (vp_in_nI (by omega) (by omega)) dL_law_159 ?_
  refine kTop (y := xs (i + 1)) (congrArg xs (nI_clamp (by omega))) ?_
  refine lv_aload_n hx hb dL_law_160 rfl (lv_at hl 3 rfl) ?_
  refine lv_iload_n hx hb dL_law_161 rfl (lv_at hl 0 rfl) ?_
  refine lv_iconst (v := 2) hx hb dL_law_162 (by decide) ?_
  refine lv_iadd hx hb dL_law_163 ?_
  refine kTop (nI_add i 2) ?_
  refine va_sld hx hb hX hbl hbA hS (vp_in_nI (by omega) (by omega)) dL_law_164 ?_
  refine kTop (y := xs (i + 2)) (congrArg xs (nI_clamp (by omega))) ?_
  refine kc_i (krV (As := [.int (xs (i + 1)), .int (xs (i + 2))]) (rest := [.int r2]) (c_X8_set l D Y rb R (xs (i + 1)) (xs (i + 2)) (kRel_hk hrel)) ⟨hx, hb, hml, hown, hta⟩ (cwL_17 hta ⟨Nat.le_of_ble_eq_true rfl, Nat.le_of_ble_eq_true rfl⟩) kX0b (fun _ _ _ => trivial) hK hNs hP hD (kJ_l) (q0 := 0) rfl rfl rfl rfl hl.1 rfl (Nat.le_of_ble_eq_true rfl) dL_law_165 ⟨hCx, hSx⟩) hP hD hS hA (kJ_l) (fun _ => rfl) (fun r4 v3 H locs hw hP hD hS => ?_)
  obtain ⟨rfl, rfl⟩ := hw
  have hP : va_P D vwCl (wR Y rb ((mSet R (xs (i + 1)) (xs (i + 2))).2) ++ wC Y w a b d u1.1 N u1.2.1 u1.2.2.1 u1.2.2.2 P n t kd V vc) H := hP
  have hD : va_D (fun q => s0.heap.size ≤ q) (wR Y rb ((mSet R (xs (i + 1)) (xs (i + 2))).2) ++ wC Y w a b d u1.1 N u1.2.1 u1.2.2.1 u1.2.2.2 P n t kd V vc) := hD
  refine lv_icmp_eq (tgt := 780) hx hb dL_law_168 (by decide) (fun _ => ?_) (fun h => absurd e1 h)
  refine W.widen (k := C + 24) (n := S + 1518) (Nat.le_refl (C + 24)) (Nat.le_refl (S + 1518)) ?_
  exact K _ _ _ _ _ _ _ _ _ _ _ _ hr2 _ _ hP hD hS ls hl
set_option maxHeartbeats 4000000 in
set_option maxRecDepth 100000 in
theorem law_1 {p : Program} {l : Launch} {e : Env} {s0 : State} {m : MethodId} {below : List Frame} {meth : Method} {c : Code} {sb L : Nat} {xs : Nat → Int32} {D : va_G} {Y : Nat → ClassId} {Q : State → Prop} {ad av w a b d rb : Nat → Nat} (X0 : lwH p s0 m meth c sb L xs D Y ad av) {i : Nat} (hi : i + 5 ≤ L) (hL : L ≤ 2560) {C S : Nat} (hC : C + 24 ≤ 600000) (hS1 : S + 1518 ≤ 7302249) (K : lwK p l e s0 m below meth c sb Y D Q w a b d rb i (C + 24) (S + 1518)) {M N : kN} {F : kFm} {o z : Nat} {P : Nat → Int32} {n t : Nat} {kd : Int32} {V : Nat → Int32} {vc : Nat} {R : kN} (hrel : kRel M F o z P n vc R) (H : Heap) (locs : List Loc) (hP : va_P D vwCl (wR Y rb R ++ wC Y w a b d M N F o z P n t kd V vc) H) (hD : va_D (fun q => s0.heap.size ≤ q) (wR Y rb R ++ wC Y w a b d M N F o z P n t kd V vc)) (hS : va_S (fun q => s0.heap.size ≤ q) s0.heap H locs) (ls : Array Slot) (hl : lv_has ls 4 [(3, .int (nI i)), (2, .ref (rb 0)), (1, .ref (w 0)), (0, .ref sb)]) : W p l e room_1 s0 m #[Value.ref sb] below meth c H locs C S Q (F0 m 173 ls []) := by
  obtain ⟨hx, hb, hr, hml, hown, hta, hX, hbl, hK, hNs, hE⟩ := X0
  have hA : ∀ q : Nat, s0.heap.size ≤ q → (fun q : Nat => s0.heap.size ≤ q) q := fun _ h => h
  have hbA : ¬ (fun q : Nat => s0.heap.size ≤ q) sb := Nat.not_le.mpr hbl
  have hX0 : kX s0.heap.size ad av s0.heap.size s0 := ⟨Nat.le_refl _, hE⟩
  have hI := kSim_I hrel.1.1 hrel.1.2.1
  have ho := hrel.2.2.1.2.2
  have hz := hrel.2.2.1.2.1
  have h80 := hrel.2.1.2.1
  have hv := hrel.2.1.2.2.2.1
  have hC2 := hrel.2.1.2.2.2.2
  have hC0 : C ≤ 600000 := by omega
  have hS0 : S ≤ 7302249 := by omega
  have hB : ∀ c ∈ (wC Y w a b d M N F o z P n t kd V vc).map (·.1), s0.heap.size ≤ c := lw_B (kD_r hD)
  have hCx : C + 24 ≤ 600000 := hC
  have hSx : S + 1518 ≤ 7302249 := hS1
  refine lv_aload_n hx hb dL_law_173 rfl (lv_at hl 2 rfl) ?_
  refine lv_aload_n hx hb dL_law_174 rfl (lv_at hl 3 rfl) ?_
  refine lv_iload_n hx hb dL_law_175 rfl (lv_at hl 0 rfl) ?_
  refine lv_iconst (v := 1) hx hb dL_law_176 (by decide) ?_
  refine lv_iadd hx hb dL_law_177 ?_
  refine kTop (nI_add i 1) ?_
  refine va_sld hx hb hX hbl hbA hS (vp_in_nI (by omega) (by omega)) dL_law_178 ?_
  refine kTop (y := xs (i + 1)) (congrArg xs (nI_clamp (by omega))) ?_
  refine lv_aload_n hx hb dL_law_179 rfl (lv_at hl 3 rfl) ?_
  refine lv_iload_n hx hb dL_law_180 rfl (lv_at hl 0 rfl) ?_
  refine lv_iconst (v := 2) hx hb dL_law_181 (by decide) ?_
  refine lv_iadd hx hb dL_law_182 ?_
  refine kTop (nI_add i 2) ?_
  refine va_sld hx hb hX hbl hbA hS (vp_in_nI (by omega) (by omega)) dL_law_183 ?_
  refine kTop (y := xs (i + 2)) (congrArg xs (nI_clamp (by omega))) ?_
  refine kc_in (krV (As := [.int (xs (i + 1)), .int (xs (i + 2))]) (rest := []) (c_X7_quota l D Y w a b d M N F o z P n t kd V vc (xs (i + 1)) (xs (i + 2)) hI ho hz) ⟨hx, hb, hml, hown, hta⟩ (cwL_18 hta ⟨Nat.le_of_ble_eq_true rfl, Nat.le_of_ble_eq_true rfl⟩) kX0b (fun _ _ _ => trivial) hK hNs hP hD (kJ_right) (q0 := 0) rfl rfl rfl rfl hl.1 rfl (Nat.le_of_ble_eq_true rfl) dL_law_184 ⟨hC, hS1⟩) hP hD hS hA (kJn_r) (fun r2 u1 H locs hw hP hD hS => ?_)
  have hw := hw
  obtain ⟨e1, hr2⟩ := kC_quota hrel hw
  have hP : va_P D vwCl (wR Y rb R ++ wC Y w a b d u1.1 N u1.2.1 u1.2.2.1 u1.2.2.2 P n t kd V vc) H := hP
  have hD : va_D (fun q => s0.heap.size ≤ q) (wR Y rb R ++ wC Y w a b d u1.1 N u1.2.1 u1.2.2.1 u1.2.2.2 P n t kd V vc) := hD
  refine lv_aload_n hx hb dL_law_187 rfl (lv_at hl 1 rfl) ?_
  refine lv_aload_n hx hb dL_law_188 rfl (lv_at hl 3 rfl) ?_
  refine lv_iload_n hx hb dL_law_189 rfl (lv_at hl 0 rfl) ?_
  refine lv_iconst (v := 1) hx hb dL_law_190 (by decide) ?_
  refine lv_iadd hx hb dL_law_191 ?_
  refine kTop (nI_add i 1) ?_
  refine va_sld hx hb hX hbl hbA hS (vp_in_nI (by omega) (by omega)) dL_law_192 ?_
  refine kTop (y := xs (i + 1)) (congrArg xs (nI_clamp (by omega))) ?_
  refine lv_aload_n hx hb dL_law_193 rfl (lv_at hl 3 rfl) ?_
  refine lv_iload_n hx hb dL_law_194 rfl (lv_at hl 0 rfl) ?_
  refine lv_iconst (v := 2) hx hb dL_law_195 (by decide) ?_
  refine lv_iadd hx hb dL_law_196 ?_
  refine kTop (nI_add i 2) ?_
  refine va_sld hx hb hX hbl hbA hS (vp_in_nI (by omega) (by omega)) dL_law_197 ?_
  refine kTop (y := xs (i + 2)) (congrArg xs (nI_clamp (by omega))) ?_
  refine kc_i (krV (As := [.int (xs (i + 1)), .int (xs (i + 2))]) (rest := [.int r2]) (c_X8_quota l D Y rb R (xs (i + 1)) (xs (i + 2)) (kRel_hk hrel)) ⟨hx, hb, hml, hown, hta⟩ (cwL_21 hta ⟨Nat.le_of_ble_eq_true rfl, Nat.le_of_ble_eq_true rfl⟩) kX0b (fun _ _ _ => trivial) hK hNs hP hD (kJ_l) (q0 := 0) rfl rfl rfl rfl hl.1 rfl (Nat.le_of_ble_eq_true rfl) dL_law_198 ⟨hCx, hSx⟩) hP hD hS hA (kJ_l) (fun _ => rfl) (fun r4 v3 H locs hw hP hD hS => ?_)
  obtain ⟨rfl, rfl⟩ := hw
  have hP : va_P D vwCl (wR Y rb ((mQuota R (xs (i + 1)) (xs (i + 2))).2) ++ wC Y w a b d u1.1 N u1.2.1 u1.2.2.1 u1.2.2.2 P n t kd V vc) H := hP
  have hD : va_D (fun q => s0.heap.size ≤ q) (wR Y rb ((mQuota R (xs (i + 1)) (xs (i + 2))).2) ++ wC Y w a b d u1.1 N u1.2.1 u1.2.2.1 u1.2.2.2 P n t kd V vc) := hD
  refine lv_icmp_eq (tgt := 780) hx hb dL_law_201 (by decide) (fun _ => ?_) (fun h => absurd e1 h)
  refine W.widen (k := C + 24) (n := S + 1518) (Nat.le_refl (C + 24)) (Nat.le_refl (S + 1518)) ?_
  exact K _ _ _ _ _ _ _ _ _ _ _ _ hr2 _ _ hP hD hS ls hl
set_option maxHeartbeats 4000000 in
set_option maxRecDepth 100000 in
theorem law_2 {p : Program} {l : Launch} {e : Env} {s0 : State} {m : MethodId} {below : List Frame} {meth : Method} {c : Code} {sb L : Nat} {xs : Nat → Int32} {D : va_G} {Y : Nat → ClassId} {Q : State → Prop} {ad av w a b d rb : Nat → Nat} (X0 : lwH p s0 m meth c sb L xs D Y ad av) {i : Nat} (hi : i + 5 ≤ L) (hL : L ≤ 2560) {C S : Nat} (hC : C + 24 ≤ 600000) (hS1 : S + 1518 ≤ 7302249) (K : lwK p l e s0 m below meth c sb Y D Q w a b d rb i (C + 24) (S + 1518)) {M N : kN} {F : kFm} {o z : Nat} {P : Nat → Int32} {n t : Nat} {kd : Int32} {V : Nat → Int32} {vc : Nat} {R : kN} (hrel : kRel M F o z P n vc R) (H : Heap) (locs : List Loc) (hP : va_P D vwCl (wR Y rb R ++ wC Y w a b d M N F o z P n t kd V vc) H) (hD : va_D (fun q => s0.heap.size ≤ q) (wR Y rb R ++ wC Y w a b d M N F o z P n t kd V vc)) (hS : va_S (fun q => s0.heap.size ≤ q) s0.heap H locs) (ls : Array Slot) (hl : lv_has ls 4 [(3, .int (nI i)), (2, .ref (rb 0)), (1, .ref (w 0)), (0, .ref sb)]) : W p l e room_1 s0 m #[Value.ref sb] below meth c H locs C S Q (F0 m 206 ls []) := by
  obtain ⟨hx, hb, hr, hml, hown, hta, hX, hbl, hK, hNs, hE⟩ := X0
  have hA : ∀ q : Nat, s0.heap.size ≤ q → (fun q : Nat => s0.heap.size ≤ q) q := fun _ h => h
  have hbA : ¬ (fun q : Nat => s0.heap.size ≤ q) sb := Nat.not_le.mpr hbl
  have hX0 : kX s0.heap.size ad av s0.heap.size s0 := ⟨Nat.le_refl _, hE⟩
  have hI := kSim_I hrel.1.1 hrel.1.2.1
  have ho := hrel.2.2.1.2.2
  have hz := hrel.2.2.1.2.1
  have h80 := hrel.2.1.2.1
  have hv := hrel.2.1.2.2.2.1
  have hC2 := hrel.2.1.2.2.2.2
  have hC0 : C ≤ 600000 := by omega
  have hS0 : S ≤ 7302249 := by omega
  have hB : ∀ c ∈ (wC Y w a b d M N F o z P n t kd V vc).map (·.1), s0.heap.size ≤ c := lw_B (kD_r hD)
  have hCx : C + 24 ≤ 600000 := hC
  have hSx : S + 1518 ≤ 7302249 := hS1
  refine lv_aload_n hx hb dL_law_206 rfl (lv_at hl 2 rfl) ?_
  refine lv_aload_n hx hb dL_law_207 rfl (lv_at hl 3 rfl) ?_
  refine lv_iload_n hx hb dL_law_208 rfl (lv_at hl 0 rfl) ?_
  refine lv_iconst (v := 1) hx hb dL_law_209 (by decide) ?_
  refine lv_iadd hx hb dL_law_210 ?_
  refine kTop (nI_add i 1) ?_
  refine va_sld hx hb hX hbl hbA hS (vp_in_nI (by omega) (by omega)) dL_law_211 ?_
  refine kTop (y := xs (i + 1)) (congrArg xs (nI_clamp (by omega))) ?_
  refine lv_aload_n hx hb dL_law_212 rfl (lv_at hl 3 rfl) ?_
  refine lv_iload_n hx hb dL_law_213 rfl (lv_at hl 0 rfl) ?_
  refine lv_iconst (v := 2) hx hb dL_law_214 (by decide) ?_
  refine lv_iadd hx hb dL_law_215 ?_
  refine kTop (nI_add i 2) ?_
  refine va_sld hx hb hX hbl hbA hS (vp_in_nI (by omega) (by omega)) dL_law_216 ?_
  refine kTop (y := xs (i + 2)) (congrArg xs (nI_clamp (by omega))) ?_
  refine lv_aload_n hx hb dL_law_217 rfl (lv_at hl 3 rfl) ?_
  refine lv_iload_n hx hb dL_law_218 rfl (lv_at hl 0 rfl) ?_
  refine lv_iconst (v := 3) hx hb dL_law_219 (by decide) ?_
  refine lv_iadd hx hb dL_law_220 ?_
  refine kTop (nI_add i 3) ?_
  refine va_sld hx hb hX hbl hbA hS (vp_in_nI (by omega) (by omega)) dL_law_221 ?_
  refine kTop (y := xs (i + 3)) (congrArg xs (nI_clamp (by omega))) ?_
  refine kc_in (krV (As := [.int (xs (i + 1)), .int (xs (i + 2)), .int (xs (i + 3))]) (rest := []) (c_X7_lend l D Y w a b d M N F o z P n t kd V vc (xs (i + 1)) (xs (i + 2)) (xs (i + 3)) hI ho hz) ⟨hx, hb, hml, hown, hta⟩ (cwL_22 hta ⟨Nat.le_of_ble_eq_true rfl, Nat.le_of_ble_eq_true rfl⟩) kX0b (fun _ _ _ => trivial) hK hNs hP hD (kJ_right) (q0 := 0) rfl rfl rfl rfl hl.1 rfl (Nat.le_of_ble_eq_true rfl) dL_law_222 ⟨hC, hS1⟩) hP hD hS hA (kJn_r) (fun r2 u1 H locs hw hP hD hS => ?_)
  have hw := hw
  obtain ⟨e1, hr2⟩ := kC_lend hrel hw
  have hP : va_P D vwCl (wR Y rb R ++ wC Y w a b d u1.1 N u1.2.1 u1.2.2.1 u1.2.2.2 P n t kd V vc) H := hP
  have hD : va_D (fun q => s0.heap.size ≤ q) (wR Y rb R ++ wC Y w a b d u1.1 N u1.2.1 u1.2.2.1 u1.2.2.2 P n t kd V vc) := hD
  refine lv_aload_n hx hb dL_law_225 rfl (lv_at hl 1 rfl) ?_
  refine lv_aload_n hx hb dL_law_226 rfl (lv_at hl 3 rfl) ?_
  refine lv_iload_n hx hb dL_law_227 rfl (lv_at hl 0 rfl) ?_
  refine lv_iconst (v := 1) hx hb dL_law_228 (by decide) ?_
  refine lv_iadd hx hb dL_law_229 ?_
  refine kTop (nI_add i 1) ?_
  refine va_sld hx hb hX hbl hbA hS (vp_in_nI (by omega) (by omega)) dL_law_230 ?_
  refine kTop (y := xs (i + 1)) (congrArg xs (nI_clamp (by omega))) ?_
  refine lv_aload_n hx hb dL_law_231 rfl (lv_at hl 3 rfl) ?_
  refine lv_iload_n hx hb dL_law_232 rfl (lv_at hl 0 rfl) ?_
  refine lv_iconst (v := 2) hx hb dL_law_233 (by decide) ?_
  refine lv_iadd hx hb dL_law_234 ?_
  refine kTop (nI_add i 2) ?_
  refine va_sld hx hb hX hbl hbA hS (vp_in_nI (by omega) (by omega)) dL_law_235 ?_
  refine kTop (y := xs (i + 2)) (congrArg xs (nI_clamp (by omega))) ?_
  refine lv_aload_n hx hb dL_law_236 rfl (lv_at hl 3 rfl) ?_
  refine lv_iload_n hx hb dL_law_237 rfl (lv_at hl 0 rfl) ?_
  refine lv_iconst (v := 3) hx hb dL_law_238 (by decide) ?_
  refine lv_iadd hx hb dL_law_239 ?_
  refine kTop (nI_add i 3) ?_
  refine va_sld hx hb hX hbl hbA hS (vp_in_nI (by omega) (by omega)) dL_law_240 ?_
  refine kTop (y := xs (i + 3)) (congrArg xs (nI_clamp (by omega))) ?_
  refine kc_i (krV (As := [.int (xs (i + 1)), .int (xs (i + 2)), .int (xs (i + 3))]) (rest := [.int r2]) (c_X8_lend l D Y rb R (xs (i + 1)) (xs (i + 2)) (xs (i + 3)) (kRel_hk hrel)) ⟨hx, hb, hml, hown, hta⟩ (cwL_26 hta ⟨Nat.le_of_ble_eq_true rfl, Nat.le_of_ble_eq_true rfl⟩) kX0b (fun _ _ _ => trivial) hK hNs hP hD (kJ_l) (q0 := 0) rfl rfl rfl rfl hl.1 rfl (Nat.le_of_ble_eq_true rfl) dL_law_241 ⟨hCx, hSx⟩) hP hD hS hA (kJ_l) (fun _ => rfl) (fun r4 v3 H locs hw hP hD hS => ?_)
  obtain ⟨rfl, rfl⟩ := hw
  have hP : va_P D vwCl (wR Y rb ((mLend R (xs (i + 1)) (xs (i + 2)) (xs (i + 3))).2) ++ wC Y w a b d u1.1 N u1.2.1 u1.2.2.1 u1.2.2.2 P n t kd V vc) H := hP
  have hD : va_D (fun q => s0.heap.size ≤ q) (wR Y rb ((mLend R (xs (i + 1)) (xs (i + 2)) (xs (i + 3))).2) ++ wC Y w a b d u1.1 N u1.2.1 u1.2.2.1 u1.2.2.2 P n t kd V vc) := hD
  refine lv_icmp_eq (tgt := 780) hx hb dL_law_244 (by decide) (fun _ => ?_) (fun h => absurd e1 h)
  refine W.widen (k := C + 24) (n := S + 1518) (Nat.le_refl (C + 24)) (Nat.le_refl (S + 1518)) ?_
  exact K _ _ _ _ _ _ _ _ _ _ _ _ hr2 _ _ hP hD hS ls hl
set_option maxHeartbeats 4000000 in
set_option maxRecDepth 100000 in
theorem law_3 {p : Program} {l : Launch} {e : Env} {s0 : State} {m : MethodId} {below : List Frame} {meth : Method} {c : Code} {sb L : Nat} {xs : Nat → Int32} {D : va_G} {Y : Nat → ClassId} {Q : State → Prop} {ad av w a b d rb : Nat → Nat} (X0 : lwH p s0 m meth c sb L xs D Y ad av) {i : Nat} (hi : i + 5 ≤ L) (hL : L ≤ 2560) {C S : Nat} (hC : C + 24 ≤ 600000) (hS1 : S + 1518 ≤ 7302249) (K : lwK p l e s0 m below meth c sb Y D Q w a b d rb i (C + 24) (S + 1518)) {M N : kN} {F : kFm} {o z : Nat} {P : Nat → Int32} {n t : Nat} {kd : Int32} {V : Nat → Int32} {vc : Nat} {R : kN} (hrel : kRel M F o z P n vc R) (H : Heap) (locs : List Loc) (hP : va_P D vwCl (wR Y rb R ++ wC Y w a b d M N F o z P n t kd V vc) H) (hD : va_D (fun q => s0.heap.size ≤ q) (wR Y rb R ++ wC Y w a b d M N F o z P n t kd V vc)) (hS : va_S (fun q => s0.heap.size ≤ q) s0.heap H locs) (ls : Array Slot) (hl : lv_has ls 4 [(3, .int (nI i)), (2, .ref (rb 0)), (1, .ref (w 0)), (0, .ref sb)]) : W p l e room_1 s0 m #[Value.ref sb] below meth c H locs C S Q (F0 m 249 ls []) := by
  obtain ⟨hx, hb, hr, hml, hown, hta, hX, hbl, hK, hNs, hE⟩ := X0
  have hA : ∀ q : Nat, s0.heap.size ≤ q → (fun q : Nat => s0.heap.size ≤ q) q := fun _ h => h
  have hbA : ¬ (fun q : Nat => s0.heap.size ≤ q) sb := Nat.not_le.mpr hbl
  have hX0 : kX s0.heap.size ad av s0.heap.size s0 := ⟨Nat.le_refl _, hE⟩
  have hI := kSim_I hrel.1.1 hrel.1.2.1
  have ho := hrel.2.2.1.2.2
  have hz := hrel.2.2.1.2.1
  have h80 := hrel.2.1.2.1
  have hv := hrel.2.1.2.2.2.1
  have hC2 := hrel.2.1.2.2.2.2
  have hC0 : C ≤ 600000 := by omega
  have hS0 : S ≤ 7302249 := by omega
  have hB : ∀ c ∈ (wC Y w a b d M N F o z P n t kd V vc).map (·.1), s0.heap.size ≤ c := lw_B (kD_r hD)
  have hCx : C + 24 ≤ 600000 := hC
  have hSx : S + 1518 ≤ 7302249 := hS1
  refine lv_aload_n hx hb dL_law_249 rfl (lv_at hl 2 rfl) ?_
  refine lv_aload_n hx hb dL_law_250 rfl (lv_at hl 3 rfl) ?_
  refine lv_iload_n hx hb dL_law_251 rfl (lv_at hl 0 rfl) ?_
  refine lv_iconst (v := 1) hx hb dL_law_252 (by decide) ?_
  refine lv_iadd hx hb dL_law_253 ?_
  refine kTop (nI_add i 1) ?_
  refine va_sld hx hb hX hbl hbA hS (vp_in_nI (by omega) (by omega)) dL_law_254 ?_
  refine kTop (y := xs (i + 1)) (congrArg xs (nI_clamp (by omega))) ?_
  refine lv_aload_n hx hb dL_law_255 rfl (lv_at hl 3 rfl) ?_
  refine lv_iload_n hx hb dL_law_256 rfl (lv_at hl 0 rfl) ?_
  refine lv_iconst (v := 2) hx hb dL_law_257 (by decide) ?_
  refine lv_iadd hx hb dL_law_258 ?_
  refine kTop (nI_add i 2) ?_
  refine va_sld hx hb hX hbl hbA hS (vp_in_nI (by omega) (by omega)) dL_law_259 ?_
  refine kTop (y := xs (i + 2)) (congrArg xs (nI_clamp (by omega))) ?_
  refine lv_aload_n hx hb dL_law_260 rfl (lv_at hl 3 rfl) ?_
  refine lv_iload_n hx hb dL_law_261 rfl (lv_at hl 0 rfl) ?_
  refine lv_iconst (v := 3) hx hb dL_law_262 (by decide) ?_
  refine lv_iadd hx hb dL_law_263 ?_
  refine kTop (nI_add i 3) ?_
  refine va_sld hx hb hX hbl hbA hS (vp_in_nI (by omega) (by omega)) dL_law_264 ?_
  refine kTop (y := xs (i + 3)) (congrArg xs (nI_clamp (by omega))) ?_
  refine lv_aload_n hx hb dL_law_265 rfl (lv_at hl 3 rfl) ?_
  refine lv_iload_n hx hb dL_law_266 rfl (lv_at hl 0 rfl) ?_
  refine lv_iconst (v := 4) hx hb dL_law_267 (by decide) ?_
  refine lv_iadd hx hb dL_law_268 ?_
  refine kTop (nI_add i 4) ?_
  refine va_sld hx hb hX hbl hbA hS (vp_in_nI (by omega) (by omega)) dL_law_269 ?_
  refine kTop (y := xs (i + 4)) (congrArg xs (nI_clamp (by omega))) ?_
  refine kc_in (krV (As := [.int (xs (i + 1)), .int (xs (i + 2)), .int (xs (i + 3)), .int (xs (i + 4))]) (rest := []) (c_X7_field l D Y w a b d M N F o z P n t kd V vc (xs (i + 1)) (xs (i + 2)) (xs (i + 3)) (xs (i + 4)) hI ho hz) ⟨hx, hb, hml, hown, hta⟩ (cwL_27 hta ⟨Nat.le_of_ble_eq_true rfl, Nat.le_of_ble_eq_true rfl⟩) kX0b (fun _ _ _ => trivial) hK hNs hP hD (kJ_right) (q0 := 0) rfl rfl rfl rfl hl.1 rfl (Nat.le_of_ble_eq_true rfl) dL_law_270 ⟨hC, hS1⟩) hP hD hS hA (kJn_r) (fun r2 u1 H locs hw hP hD hS => ?_)
  have hw := hw
  obtain ⟨e1, hr2⟩ := kC_field hrel hw
  have hP : va_P D vwCl (wR Y rb R ++ wC Y w a b d u1.1 N u1.2.1 u1.2.2.1 u1.2.2.2 P n t kd V vc) H := hP
  have hD : va_D (fun q => s0.heap.size ≤ q) (wR Y rb R ++ wC Y w a b d u1.1 N u1.2.1 u1.2.2.1 u1.2.2.2 P n t kd V vc) := hD
  refine lv_aload_n hx hb dL_law_273 rfl (lv_at hl 1 rfl) ?_
  refine lv_aload_n hx hb dL_law_274 rfl (lv_at hl 3 rfl) ?_
  refine lv_iload_n hx hb dL_law_275 rfl (lv_at hl 0 rfl) ?_
  refine lv_iconst (v := 1) hx hb dL_law_276 (by decide) ?_
  refine lv_iadd hx hb dL_law_277 ?_
  refine kTop (nI_add i 1) ?_
  refine va_sld hx hb hX hbl hbA hS (vp_in_nI (by omega) (by omega)) dL_law_278 ?_
  refine kTop (y := xs (i + 1)) (congrArg xs (nI_clamp (by omega))) ?_
  refine lv_aload_n hx hb dL_law_279 rfl (lv_at hl 3 rfl) ?_
  refine lv_iload_n hx hb dL_law_280 rfl (lv_at hl 0 rfl) ?_
  refine lv_iconst (v := 2) hx hb dL_law_281 (by decide) ?_
  refine lv_iadd hx hb dL_law_282 ?_
  refine kTop (nI_add i 2) ?_
  refine va_sld hx hb hX hbl hbA hS (vp_in_nI (by omega) (by omega)) dL_law_283 ?_
  refine kTop (y := xs (i + 2)) (congrArg xs (nI_clamp (by omega))) ?_
  refine lv_aload_n hx hb dL_law_284 rfl (lv_at hl 3 rfl) ?_
  refine lv_iload_n hx hb dL_law_285 rfl (lv_at hl 0 rfl) ?_
  refine lv_iconst (v := 3) hx hb dL_law_286 (by decide) ?_
  refine lv_iadd hx hb dL_law_287 ?_
  refine kTop (nI_add i 3) ?_
  refine va_sld hx hb hX hbl hbA hS (vp_in_nI (by omega) (by omega)) dL_law_288 ?_
  refine kTop (y := xs (i + 3)) (congrArg xs (nI_clamp (by omega))) ?_
  refine lv_aload_n hx hb dL_law_289 rfl (lv_at hl 3 rfl) ?_
  refine lv_iload_n hx hb dL_law_290 rfl (lv_at hl 0 rfl) ?_
  refine lv_iconst (v := 4) hx hb dL_law_291 (by decide) ?_
  refine lv_iadd hx hb dL_law_292 ?_
  refine kTop (nI_add i 4) ?_
  refine va_sld hx hb hX hbl hbA hS (vp_in_nI (by omega) (by omega)) dL_law_293 ?_
  refine kTop (y := xs (i + 4)) (congrArg xs (nI_clamp (by omega))) ?_
  refine kc_i (krV (As := [.int (xs (i + 1)), .int (xs (i + 2)), .int (xs (i + 3)), .int (xs (i + 4))]) (rest := [.int r2]) (c_X8_field l D Y rb R (xs (i + 1)) (xs (i + 2)) (xs (i + 3)) (xs (i + 4)) hrel.1.2.1 (kRel_hk hrel)) ⟨hx, hb, hml, hown, hta⟩ (cwL_31 hta ⟨Nat.le_of_ble_eq_true rfl, Nat.le_of_ble_eq_true rfl⟩) kX0b (fun _ _ _ => trivial) hK hNs hP hD (kJ_l) (q0 := 0) rfl rfl rfl rfl hl.1 rfl (Nat.le_of_ble_eq_true rfl) dL_law_294 ⟨hCx, hSx⟩) hP hD hS hA (kJ_l) (fun _ => rfl) (fun r4 v3 H locs hw hP hD hS => ?_)
  obtain ⟨rfl, rfl⟩ := hw
  have hP : va_P D vwCl (wR Y rb ((mField R (xs (i + 1)) (xs (i + 2)) (xs (i + 3)) (xs (i + 4))).2) ++ wC Y w a b d u1.1 N u1.2.1 u1.2.2.1 u1.2.2.2 P n t kd V vc) H := hP
  have hD : va_D (fun q => s0.heap.size ≤ q) (wR Y rb ((mField R (xs (i + 1)) (xs (i + 2)) (xs (i + 3)) (xs (i + 4))).2) ++ wC Y w a b d u1.1 N u1.2.1 u1.2.2.1 u1.2.2.2 P n t kd V vc) := hD
  refine lv_icmp_eq (tgt := 780) hx hb dL_law_297 (by decide) (fun _ => ?_) (fun h => absurd e1 h)
  refine W.widen (k := C + 24) (n := S + 1518) (Nat.le_refl (C + 24)) (Nat.le_refl (S + 1518)) ?_
  exact K _ _ _ _ _ _ _ _ _ _ _ _ hr2 _ _ hP hD hS ls hl
set_option maxHeartbeats 4000000 in
set_option maxRecDepth 100000 in
theorem law_4 {p : Program} {l : Launch} {e : Env} {s0 : State} {m : MethodId} {below : List Frame} {meth : Method} {c : Code} {sb L : Nat} {xs : Nat → Int32} {D : va_G} {Y : Nat → ClassId} {Q : State → Prop} {ad av w a b d rb : Nat → Nat} (X0 : lwH p s0 m meth c sb L xs D Y ad av) {i : Nat} (hi : i + 5 ≤ L) (hL : L ≤ 2560) {C S : Nat} (hC : C + 24 ≤ 600000) (hS1 : S + 1518 ≤ 7302249) (K : lwK p l e s0 m below meth c sb Y D Q w a b d rb i (C + 24) (S + 1518)) {M N : kN} {F : kFm} {o z : Nat} {P : Nat → Int32} {n t : Nat} {kd : Int32} {V : Nat → Int32} {vc : Nat} {R : kN} (hrel : kRel M F o z P n vc R) (H : Heap) (locs : List Loc) (hP : va_P D vwCl (wR Y rb R ++ wC Y w a b d M N F o z P n t kd V vc) H) (hD : va_D (fun q => s0.heap.size ≤ q) (wR Y rb R ++ wC Y w a b d M N F o z P n t kd V vc)) (hS : va_S (fun q => s0.heap.size ≤ q) s0.heap H locs) (ls : Array Slot) (hl : lv_has ls 4 [(3, .int (nI i)), (2, .ref (rb 0)), (1, .ref (w 0)), (0, .ref sb)]) : W p l e room_1 s0 m #[Value.ref sb] below meth c H locs C S Q (F0 m 302 ls []) := by
  obtain ⟨hx, hb, hr, hml, hown, hta, hX, hbl, hK, hNs, hE⟩ := X0
  have hA : ∀ q : Nat, s0.heap.size ≤ q → (fun q : Nat => s0.heap.size ≤ q) q := fun _ h => h
  have hbA : ¬ (fun q : Nat => s0.heap.size ≤ q) sb := Nat.not_le.mpr hbl
  have hX0 : kX s0.heap.size ad av s0.heap.size s0 := ⟨Nat.le_refl _, hE⟩
  have hI := kSim_I hrel.1.1 hrel.1.2.1
  have ho := hrel.2.2.1.2.2
  have hz := hrel.2.2.1.2.1
  have h80 := hrel.2.1.2.1
  have hv := hrel.2.1.2.2.2.1
  have hC2 := hrel.2.1.2.2.2.2
  have hC0 : C ≤ 600000 := by omega
  have hS0 : S ≤ 7302249 := by omega
  have hB : ∀ c ∈ (wC Y w a b d M N F o z P n t kd V vc).map (·.1), s0.heap.size ≤ c := lw_B (kD_r hD)
  have hCx : C + 24 ≤ 600000 := hC
  have hSx : S + 1518 ≤ 7302249 := hS1
  refine lv_aload_n hx hb dL_law_302 rfl (lv_at hl 2 rfl) ?_
  refine lv_aload_n hx hb dL_law_303 rfl (lv_at hl 3 rfl) ?_
  refine lv_iload_n hx hb dL_law_304 rfl (lv_at hl 0 rfl) ?_
  refine lv_iconst (v := 1) hx hb dL_law_305 (by decide) ?_
  refine lv_iadd hx hb dL_law_306 ?_
  refine kTop (nI_add i 1) ?_
  refine va_sld hx hb hX hbl hbA hS (vp_in_nI (by omega) (by omega)) dL_law_307 ?_
  refine kTop (y := xs (i + 1)) (congrArg xs (nI_clamp (by omega))) ?_
  refine lv_aload_n hx hb dL_law_308 rfl (lv_at hl 3 rfl) ?_
  refine lv_iload_n hx hb dL_law_309 rfl (lv_at hl 0 rfl) ?_
  refine lv_iconst (v := 2) hx hb dL_law_310 (by decide) ?_
  refine lv_iadd hx hb dL_law_311 ?_
  refine kTop (nI_add i 2) ?_
  refine va_sld hx hb hX hbl hbA hS (vp_in_nI (by omega) (by omega)) dL_law_312 ?_
  refine kTop (y := xs (i + 2)) (congrArg xs (nI_clamp (by omega))) ?_
  refine kc_in (krV (As := [.int (xs (i + 1)), .int (xs (i + 2))]) (rest := []) (c_X7_stop l D Y w a b d M N F o z P n t kd V vc (xs (i + 1)) (xs (i + 2)) hI ho hz) ⟨hx, hb, hml, hown, hta⟩ (cwL_32 hta ⟨Nat.le_of_ble_eq_true rfl, Nat.le_of_ble_eq_true rfl⟩) kX0b (fun _ _ _ => trivial) hK hNs hP hD (kJ_right) (q0 := 0) rfl rfl rfl rfl hl.1 rfl (Nat.le_of_ble_eq_true rfl) dL_law_313 ⟨hC, hS1⟩) hP hD hS hA (kJn_r) (fun r2 u1 H locs hw hP hD hS => ?_)
  have hw := hw
  obtain ⟨e1, hr2⟩ := kC_stop hrel hw
  have hP : va_P D vwCl (wR Y rb R ++ wC Y w a b d u1.1 N u1.2.1 u1.2.2.1 u1.2.2.2 P n t kd V vc) H := hP
  have hD : va_D (fun q => s0.heap.size ≤ q) (wR Y rb R ++ wC Y w a b d u1.1 N u1.2.1 u1.2.2.1 u1.2.2.2 P n t kd V vc) := hD
  refine lv_aload_n hx hb dL_law_316 rfl (lv_at hl 1 rfl) ?_
  refine lv_aload_n hx hb dL_law_317 rfl (lv_at hl 3 rfl) ?_
  refine lv_iload_n hx hb dL_law_318 rfl (lv_at hl 0 rfl) ?_
  refine lv_iconst (v := 1) hx hb dL_law_319 (by decide) ?_
  refine lv_iadd hx hb dL_law_320 ?_
  refine kTop (nI_add i 1) ?_
  refine va_sld hx hb hX hbl hbA hS (vp_in_nI (by omega) (by omega)) dL_law_321 ?_
  refine kTop (y := xs (i + 1)) (congrArg xs (nI_clamp (by omega))) ?_
  refine lv_aload_n hx hb dL_law_322 rfl (lv_at hl 3 rfl) ?_
  refine lv_iload_n hx hb dL_law_323 rfl (lv_at hl 0 rfl) ?_
  refine lv_iconst (v := 2) hx hb dL_law_324 (by decide) ?_
  refine lv_iadd hx hb dL_law_325 ?_
  refine kTop (nI_add i 2) ?_
  refine va_sld hx hb hX hbl hbA hS (vp_in_nI (by omega) (by omega)) dL_law_326 ?_
  refine kTop (y := xs (i + 2)) (congrArg xs (nI_clamp (by omega))) ?_
  refine kc_i (krV (As := [.int (xs (i + 1)), .int (xs (i + 2))]) (rest := [.int r2]) (c_X8_stop l D Y rb R (xs (i + 1)) (xs (i + 2)) hrel.1.2.1 (kRel_hk hrel)) ⟨hx, hb, hml, hown, hta⟩ (cwL_35 hta ⟨Nat.le_of_ble_eq_true rfl, Nat.le_of_ble_eq_true rfl⟩) kX0b (fun _ _ _ => trivial) hK hNs hP hD (kJ_l) (q0 := 0) rfl rfl rfl rfl hl.1 rfl (Nat.le_of_ble_eq_true rfl) dL_law_327 ⟨hCx, hSx⟩) hP hD hS hA (kJ_l) (fun _ => rfl) (fun r4 v3 H locs hw hP hD hS => ?_)
  obtain ⟨rfl, rfl⟩ := hw
  have hP : va_P D vwCl (wR Y rb ((mStop R (xs (i + 1)) (xs (i + 2))).2) ++ wC Y w a b d u1.1 N u1.2.1 u1.2.2.1 u1.2.2.2 P n t kd V vc) H := hP
  have hD : va_D (fun q => s0.heap.size ≤ q) (wR Y rb ((mStop R (xs (i + 1)) (xs (i + 2))).2) ++ wC Y w a b d u1.1 N u1.2.1 u1.2.2.1 u1.2.2.2 P n t kd V vc) := hD
  refine lv_icmp_eq (tgt := 780) hx hb dL_law_330 (by decide) (fun _ => ?_) (fun h => absurd e1 h)
  refine W.widen (k := C + 24) (n := S + 1518) (Nat.le_refl (C + 24)) (Nat.le_refl (S + 1518)) ?_
  exact K _ _ _ _ _ _ _ _ _ _ _ _ hr2 _ _ hP hD hS ls hl
set_option maxHeartbeats 4000000 in
set_option maxRecDepth 100000 in
theorem law_5 {p : Program} {l : Launch} {e : Env} {s0 : State} {m : MethodId} {below : List Frame} {meth : Method} {c : Code} {sb L : Nat} {xs : Nat → Int32} {D : va_G} {Y : Nat → ClassId} {Q : State → Prop} {ad av w a b d rb : Nat → Nat} (X0 : lwH p s0 m meth c sb L xs D Y ad av) {i : Nat} (hi : i + 5 ≤ L) (hL : L ≤ 2560) {C S : Nat} (hC : C + 24 ≤ 600000) (hS1 : S + 1518 ≤ 7302249) (K : lwK p l e s0 m below meth c sb Y D Q w a b d rb i (C + 24) (S + 1518)) {M N : kN} {F : kFm} {o z : Nat} {P : Nat → Int32} {n t : Nat} {kd : Int32} {V : Nat → Int32} {vc : Nat} {R : kN} (hrel : kRel M F o z P n vc R) (H : Heap) (locs : List Loc) (hP : va_P D vwCl (wR Y rb R ++ wC Y w a b d M N F o z P n t kd V vc) H) (hD : va_D (fun q => s0.heap.size ≤ q) (wR Y rb R ++ wC Y w a b d M N F o z P n t kd V vc)) (hS : va_S (fun q => s0.heap.size ≤ q) s0.heap H locs) (ls : Array Slot) (hl : lv_has ls 4 [(3, .int (nI i)), (2, .ref (rb 0)), (1, .ref (w 0)), (0, .ref sb)]) : W p l e room_1 s0 m #[Value.ref sb] below meth c H locs C S Q (F0 m 335 ls []) := by
  obtain ⟨hx, hb, hr, hml, hown, hta, hX, hbl, hK, hNs, hE⟩ := X0
  have hA : ∀ q : Nat, s0.heap.size ≤ q → (fun q : Nat => s0.heap.size ≤ q) q := fun _ h => h
  have hbA : ¬ (fun q : Nat => s0.heap.size ≤ q) sb := Nat.not_le.mpr hbl
  have hX0 : kX s0.heap.size ad av s0.heap.size s0 := ⟨Nat.le_refl _, hE⟩
  have hI := kSim_I hrel.1.1 hrel.1.2.1
  have ho := hrel.2.2.1.2.2
  have hz := hrel.2.2.1.2.1
  have h80 := hrel.2.1.2.1
  have hv := hrel.2.1.2.2.2.1
  have hC2 := hrel.2.1.2.2.2.2
  have hC0 : C ≤ 600000 := by omega
  have hS0 : S ≤ 7302249 := by omega
  have hB : ∀ c ∈ (wC Y w a b d M N F o z P n t kd V vc).map (·.1), s0.heap.size ≤ c := lw_B (kD_r hD)
  have hCx : C + 24 ≤ 600000 := hC
  have hSx : S + 1518 ≤ 7302249 := hS1
  refine lv_aload_n hx hb dL_law_335 rfl (lv_at hl 2 rfl) ?_
  refine lv_aload_n hx hb dL_law_336 rfl (lv_at hl 3 rfl) ?_
  refine lv_iload_n hx hb dL_law_337 rfl (lv_at hl 0 rfl) ?_
  refine lv_iconst (v := 1) hx hb dL_law_338 (by decide) ?_
  refine lv_iadd hx hb dL_law_339 ?_
  refine kTop (nI_add i 1) ?_
  refine va_sld hx hb hX hbl hbA hS (vp_in_nI (by omega) (by omega)) dL_law_340 ?_
  refine kTop (y := xs (i + 1)) (congrArg xs (nI_clamp (by omega))) ?_
  refine kc_in (krV (As := [.int (xs (i + 1))]) (rest := []) (c_X7_dropStop l D Y w a b d M N F o z P n t kd V vc (xs (i + 1)) hI ho hz) ⟨hx, hb, hml, hown, hta⟩ (cwL_36 hta ⟨Nat.le_of_ble_eq_true rfl, Nat.le_of_ble_eq_true rfl⟩) kX0b (fun _ _ _ => trivial) hK hNs hP hD (kJ_right) (q0 := 0) rfl rfl rfl rfl hl.1 rfl (Nat.le_of_ble_eq_true rfl) dL_law_341 ⟨hC, hS1⟩) hP hD hS hA (kJn_r) (fun r2 u1 H locs hw hP hD hS => ?_)
  have hw := hw
  obtain ⟨e1, hr2⟩ := kC_dropStop hrel hw
  have hP : va_P D vwCl (wR Y rb R ++ wC Y w a b d u1.1 N u1.2.1 u1.2.2.1 u1.2.2.2 P n t kd V vc) H := hP
  have hD : va_D (fun q => s0.heap.size ≤ q) (wR Y rb R ++ wC Y w a b d u1.1 N u1.2.1 u1.2.2.1 u1.2.2.2 P n t kd V vc) := hD
  refine lv_aload_n hx hb dL_law_344 rfl (lv_at hl 1 rfl) ?_
  refine lv_aload_n hx hb dL_law_345 rfl (lv_at hl 3 rfl) ?_
  refine lv_iload_n hx hb dL_law_346 rfl (lv_at hl 0 rfl) ?_
  refine lv_iconst (v := 1) hx hb dL_law_347 (by decide) ?_
  refine lv_iadd hx hb dL_law_348 ?_
  refine kTop (nI_add i 1) ?_
  refine va_sld hx hb hX hbl hbA hS (vp_in_nI (by omega) (by omega)) dL_law_349 ?_
  refine kTop (y := xs (i + 1)) (congrArg xs (nI_clamp (by omega))) ?_
  refine kc_i (krV (As := [.int (xs (i + 1))]) (rest := [.int r2]) (c_X8_dropStop l D Y rb R (xs (i + 1)) hrel.1.2.1 (kRel_hk hrel)) ⟨hx, hb, hml, hown, hta⟩ (cwL_40 hta ⟨Nat.le_of_ble_eq_true rfl, Nat.le_of_ble_eq_true rfl⟩) kX0b (fun _ _ _ => trivial) hK hNs hP hD (kJ_l) (q0 := 0) rfl rfl rfl rfl hl.1 rfl (Nat.le_of_ble_eq_true rfl) dL_law_350 ⟨hCx, hSx⟩) hP hD hS hA (kJ_l) (fun _ => rfl) (fun r4 v3 H locs hw hP hD hS => ?_)
  obtain ⟨rfl, rfl⟩ := hw
  have hP : va_P D vwCl (wR Y rb ((mDropStop R (xs (i + 1))).2) ++ wC Y w a b d u1.1 N u1.2.1 u1.2.2.1 u1.2.2.2 P n t kd V vc) H := hP
  have hD : va_D (fun q => s0.heap.size ≤ q) (wR Y rb ((mDropStop R (xs (i + 1))).2) ++ wC Y w a b d u1.1 N u1.2.1 u1.2.2.1 u1.2.2.2 P n t kd V vc) := hD
  refine lv_icmp_eq (tgt := 780) hx hb dL_law_353 (by decide) (fun _ => ?_) (fun h => absurd e1 h)
  refine W.widen (k := C + 24) (n := S + 1518) (Nat.le_refl (C + 24)) (Nat.le_refl (S + 1518)) ?_
  exact K _ _ _ _ _ _ _ _ _ _ _ _ hr2 _ _ hP hD hS ls hl
set_option maxHeartbeats 4000000 in
set_option maxRecDepth 100000 in
theorem law_6 {p : Program} {l : Launch} {e : Env} {s0 : State} {m : MethodId} {below : List Frame} {meth : Method} {c : Code} {sb L : Nat} {xs : Nat → Int32} {D : va_G} {Y : Nat → ClassId} {Q : State → Prop} {ad av w a b d rb : Nat → Nat} (X0 : lwH p s0 m meth c sb L xs D Y ad av) {i : Nat} (hi : i + 5 ≤ L) (hL : L ≤ 2560) {C S : Nat} (hC : C + 24 ≤ 600000) (hS1 : S + 1518 ≤ 7302249) (K : lwK p l e s0 m below meth c sb Y D Q w a b d rb i (C + 24) (S + 1518)) {M N : kN} {F : kFm} {o z : Nat} {P : Nat → Int32} {n t : Nat} {kd : Int32} {V : Nat → Int32} {vc : Nat} {R : kN} (hrel : kRel M F o z P n vc R) (H : Heap) (locs : List Loc) (hP : va_P D vwCl (wR Y rb R ++ wC Y w a b d M N F o z P n t kd V vc) H) (hD : va_D (fun q => s0.heap.size ≤ q) (wR Y rb R ++ wC Y w a b d M N F o z P n t kd V vc)) (hS : va_S (fun q => s0.heap.size ≤ q) s0.heap H locs) (ls : Array Slot) (hl : lv_has ls 4 [(3, .int (nI i)), (2, .ref (rb 0)), (1, .ref (w 0)), (0, .ref sb)]) : W p l e room_1 s0 m #[Value.ref sb] below meth c H locs C S Q (F0 m 358 ls []) := by
  obtain ⟨hx, hb, hr, hml, hown, hta, hX, hbl, hK, hNs, hE⟩ := X0
  have hA : ∀ q : Nat, s0.heap.size ≤ q → (fun q : Nat => s0.heap.size ≤ q) q := fun _ h => h
  have hbA : ¬ (fun q : Nat => s0.heap.size ≤ q) sb := Nat.not_le.mpr hbl
  have hX0 : kX s0.heap.size ad av s0.heap.size s0 := ⟨Nat.le_refl _, hE⟩
  have hI := kSim_I hrel.1.1 hrel.1.2.1
  have ho := hrel.2.2.1.2.2
  have hz := hrel.2.2.1.2.1
  have h80 := hrel.2.1.2.1
  have hv := hrel.2.1.2.2.2.1
  have hC2 := hrel.2.1.2.2.2.2
  have hC0 : C ≤ 600000 := by omega
  have hS0 : S ≤ 7302249 := by omega
  have hB : ∀ c ∈ (wC Y w a b d M N F o z P n t kd V vc).map (·.1), s0.heap.size ≤ c := lw_B (kD_r hD)
  have hCx : C + 24 ≤ 600000 := hC
  have hSx : S + 1518 ≤ 7302249 := hS1
  refine lv_aload_n hx hb dL_law_358 rfl (lv_at hl 2 rfl) ?_
  refine lv_aload_n hx hb dL_law_359 rfl (lv_at hl 3 rfl) ?_
  refine lv_iload_n hx hb dL_law_360 rfl (lv_at hl 0 rfl) ?_
  refine lv_iconst (v := 1) hx hb dL_law_361 (by decide) ?_
  refine lv_iadd hx hb dL_law_362 ?_
  refine kTop (nI_add i 1) ?_
  refine va_sld hx hb hX hbl hbA hS (vp_in_nI (by omega) (by omega)) dL_law_363 ?_
  refine kTop (y := xs (i + 1)) (congrArg xs (nI_clamp (by omega))) ?_
  refine kc_in (krV (As := [.int (xs (i + 1))]) (rest := []) (c_X7_pass l D Y w a b d M N F o z P n t kd V vc (xs (i + 1)) hI ho hz) ⟨hx, hb, hml, hown, hta⟩ (cwL_41 hta ⟨Nat.le_of_ble_eq_true rfl, Nat.le_of_ble_eq_true rfl⟩) kX0b (fun _ _ _ => trivial) hK hNs hP hD (kJ_right) (q0 := 0) rfl rfl rfl rfl hl.1 rfl (Nat.le_of_ble_eq_true rfl) dL_law_364 ⟨hC, hS1⟩) hP hD hS hA (kJn_r) (fun r2 u1 H locs hw hP hD hS => ?_)
  have hw := hw
  obtain ⟨e1, hr2⟩ := kC_pass hrel hw
  have hP : va_P D vwCl (wR Y rb R ++ wC Y w a b d u1.1 N u1.2.1 u1.2.2.1 u1.2.2.2 P n t kd V vc) H := hP
  have hD : va_D (fun q => s0.heap.size ≤ q) (wR Y rb R ++ wC Y w a b d u1.1 N u1.2.1 u1.2.2.1 u1.2.2.2 P n t kd V vc) := hD
  refine lv_aload_n hx hb dL_law_367 rfl (lv_at hl 1 rfl) ?_
  refine lv_aload_n hx hb dL_law_368 rfl (lv_at hl 3 rfl) ?_
  refine lv_iload_n hx hb dL_law_369 rfl (lv_at hl 0 rfl) ?_
  refine lv_iconst (v := 1) hx hb dL_law_370 (by decide) ?_
  refine lv_iadd hx hb dL_law_371 ?_
  refine kTop (nI_add i 1) ?_
  refine va_sld hx hb hX hbl hbA hS (vp_in_nI (by omega) (by omega)) dL_law_372 ?_
  refine kTop (y := xs (i + 1)) (congrArg xs (nI_clamp (by omega))) ?_
  refine kc_i (krV (As := [.int (xs (i + 1))]) (rest := [.int r2]) (c_X8_pass l D Y rb R (xs (i + 1)) hrel.1.2.1 hrel.1.2.2.1 (kRel_hk hrel)) ⟨hx, hb, hml, hown, hta⟩ (cwL_44 hta ⟨Nat.le_of_ble_eq_true rfl, Nat.le_of_ble_eq_true rfl⟩) kX0b (fun _ _ _ => trivial) hK hNs hP hD (kJ_l) (q0 := 0) rfl rfl rfl rfl hl.1 rfl (Nat.le_of_ble_eq_true rfl) dL_law_373 ⟨hCx, hSx⟩) hP hD hS hA (kJ_l) (fun _ => rfl) (fun r4 v3 H locs hw hP hD hS => ?_)
  obtain ⟨rfl, rfl⟩ := hw
  have hP : va_P D vwCl (wR Y rb ((mPass R (xs (i + 1))).2) ++ wC Y w a b d u1.1 N u1.2.1 u1.2.2.1 u1.2.2.2 P n t kd V vc) H := hP
  have hD : va_D (fun q => s0.heap.size ≤ q) (wR Y rb ((mPass R (xs (i + 1))).2) ++ wC Y w a b d u1.1 N u1.2.1 u1.2.2.1 u1.2.2.2 P n t kd V vc) := hD
  refine lv_icmp_eq (tgt := 780) hx hb dL_law_376 (by decide) (fun _ => ?_) (fun h => absurd e1 h)
  refine W.widen (k := C + 24) (n := S + 1518) (Nat.le_refl (C + 24)) (Nat.le_refl (S + 1518)) ?_
  exact K _ _ _ _ _ _ _ _ _ _ _ _ hr2 _ _ hP hD hS ls hl
set_option maxHeartbeats 4000000 in
set_option maxRecDepth 100000 in
theorem law_7 {p : Program} {l : Launch} {e : Env} {s0 : State} {m : MethodId} {below : List Frame} {meth : Method} {c : Code} {sb L : Nat} {xs : Nat → Int32} {D : va_G} {Y : Nat → ClassId} {Q : State → Prop} {ad av w a b d rb : Nat → Nat} (X0 : lwH p s0 m meth c sb L xs D Y ad av) {i : Nat} (hi : i + 5 ≤ L) (hL : L ≤ 2560) {C S : Nat} (hC : C + 24 ≤ 600000) (hS1 : S + 1518 ≤ 7302249) (K : lwK p l e s0 m below meth c sb Y D Q w a b d rb i (C + 24) (S + 1518)) {M N : kN} {F : kFm} {o z : Nat} {P : Nat → Int32} {n t : Nat} {kd : Int32} {V : Nat → Int32} {vc : Nat} {R : kN} (hrel : kRel M F o z P n vc R) (H : Heap) (locs : List Loc) (hP : va_P D vwCl (wR Y rb R ++ wC Y w a b d M N F o z P n t kd V vc) H) (hD : va_D (fun q => s0.heap.size ≤ q) (wR Y rb R ++ wC Y w a b d M N F o z P n t kd V vc)) (hS : va_S (fun q => s0.heap.size ≤ q) s0.heap H locs) (ls : Array Slot) (hl : lv_has ls 4 [(3, .int (nI i)), (2, .ref (rb 0)), (1, .ref (w 0)), (0, .ref sb)]) : W p l e room_1 s0 m #[Value.ref sb] below meth c H locs C S Q (F0 m 381 ls []) := by
  obtain ⟨hx, hb, hr, hml, hown, hta, hX, hbl, hK, hNs, hE⟩ := X0
  have hA : ∀ q : Nat, s0.heap.size ≤ q → (fun q : Nat => s0.heap.size ≤ q) q := fun _ h => h
  have hbA : ¬ (fun q : Nat => s0.heap.size ≤ q) sb := Nat.not_le.mpr hbl
  have hX0 : kX s0.heap.size ad av s0.heap.size s0 := ⟨Nat.le_refl _, hE⟩
  have hI := kSim_I hrel.1.1 hrel.1.2.1
  have ho := hrel.2.2.1.2.2
  have hz := hrel.2.2.1.2.1
  have h80 := hrel.2.1.2.1
  have hv := hrel.2.1.2.2.2.1
  have hC2 := hrel.2.1.2.2.2.2
  have hC0 : C ≤ 600000 := by omega
  have hS0 : S ≤ 7302249 := by omega
  have hB : ∀ c ∈ (wC Y w a b d M N F o z P n t kd V vc).map (·.1), s0.heap.size ≤ c := lw_B (kD_r hD)
  have hCx : C ≤ 600000 := hC0
  have hSx : S ≤ 7302249 := hS0
  refine lv_aload_n hx hb dL_law_381 rfl (lv_at hl 2 rfl) ?_
  refine lv_aload_n hx hb dL_law_382 rfl (lv_at hl 3 rfl) ?_
  refine lv_iload_n hx hb dL_law_383 rfl (lv_at hl 0 rfl) ?_
  refine lv_iconst (v := 1) hx hb dL_law_384 (by decide) ?_
  refine lv_iadd hx hb dL_law_385 ?_
  refine kTop (nI_add i 1) ?_
  refine va_sld hx hb hX hbl hbA hS (vp_in_nI (by omega) (by omega)) dL_law_386 ?_
  refine kTop (y := xs (i + 1)) (congrArg xs (nI_clamp (by omega))) ?_
  refine lv_aload_n hx hb dL_law_387 rfl (lv_at hl 3 rfl) ?_
  refine lv_iload_n hx hb dL_law_388 rfl (lv_at hl 0 rfl) ?_
  refine lv_iconst (v := 2) hx hb dL_law_389 (by decide) ?_
  refine lv_iadd hx hb dL_law_390 ?_
  refine kTop (nI_add i 2) ?_
  refine va_sld hx hb hX hbl hbA hS (vp_in_nI (by omega) (by omega)) dL_law_391 ?_
  refine kTop (y := xs (i + 2)) (congrArg xs (nI_clamp (by omega))) ?_
  refine kc_i (krV (As := [.int (xs (i + 1)), .int (xs (i + 2))]) (rest := []) (c_X7_ofField l D Y w a b d M N F o z P n t kd V vc (xs (i + 1)) (xs (i + 2)) hI) ⟨hx, hb, hml, hown, hta⟩ (cwL_45 hta ⟨Nat.le_of_ble_eq_true rfl, Nat.le_of_ble_eq_true rfl⟩) kX0b (fun _ _ _ => trivial) hK hNs hP hD (kJ_right) (q0 := 0) rfl rfl rfl rfl hl.1 rfl (Nat.le_of_ble_eq_true rfl) dL_law_392 ⟨hC0, hS0⟩) hP hD hS hA (kJ_right) (fun _ => rfl) (fun r2 u1 H locs hw hP hD hS => ?_)
  have hw := hw
  have e1 := hw.trans (kC_ofField hrel (xs (i + 1)) (xs (i + 2)))
  have hr2 := hrel
  have hP : va_P D vwCl (wR Y rb R ++ wC Y w a b d M N F o z P n t kd V vc) H := hP
  have hD : va_D (fun q => s0.heap.size ≤ q) (wR Y rb R ++ wC Y w a b d M N F o z P n t kd V vc) := hD
  refine lv_aload_n hx hb dL_law_395 rfl (lv_at hl 1 rfl) ?_
  refine lv_aload_n hx hb dL_law_396 rfl (lv_at hl 3 rfl) ?_
  refine lv_iload_n hx hb dL_law_397 rfl (lv_at hl 0 rfl) ?_
  refine lv_iconst (v := 1) hx hb dL_law_398 (by decide) ?_
  refine lv_iadd hx hb dL_law_399 ?_
  refine kTop (nI_add i 1) ?_
  refine va_sld hx hb hX hbl hbA hS (vp_in_nI (by omega) (by omega)) dL_law_400 ?_
  refine kTop (y := xs (i + 1)) (congrArg xs (nI_clamp (by omega))) ?_
  refine lv_aload_n hx hb dL_law_401 rfl (lv_at hl 3 rfl) ?_
  refine lv_iload_n hx hb dL_law_402 rfl (lv_at hl 0 rfl) ?_
  refine lv_iconst (v := 2) hx hb dL_law_403 (by decide) ?_
  refine lv_iadd hx hb dL_law_404 ?_
  refine kTop (nI_add i 2) ?_
  refine va_sld hx hb hX hbl hbA hS (vp_in_nI (by omega) (by omega)) dL_law_405 ?_
  refine kTop (y := xs (i + 2)) (congrArg xs (nI_clamp (by omega))) ?_
  refine kc_i (krV (As := [.int (xs (i + 1)), .int (xs (i + 2))]) (rest := [.int r2]) (c_X8_ofField l D Y rb R (xs (i + 1)) (xs (i + 2)) hrel.1.2.1) ⟨hx, hb, hml, hown, hta⟩ (cwL_48 hta ⟨Nat.le_of_ble_eq_true rfl, Nat.le_of_ble_eq_true rfl⟩) kX0b (fun _ _ _ => trivial) hK hNs hP hD (kJ_l) (q0 := 0) rfl rfl rfl rfl hl.1 rfl (Nat.le_of_ble_eq_true rfl) dL_law_406 ⟨hCx, hSx⟩) hP hD hS hA (kJ_l) (fun _ => rfl) (fun r4 v3 H locs hw hP hD hS => ?_)
  subst hw
  have hP : va_P D vwCl (wR Y rb R ++ wC Y w a b d M N F o z P n t kd V vc) H := hP
  have hD : va_D (fun q => s0.heap.size ≤ q) (wR Y rb R ++ wC Y w a b d M N F o z P n t kd V vc) := hD
  refine lv_icmp_eq (tgt := 780) hx hb dL_law_409 (by decide) (fun _ => ?_) (fun h => absurd e1 h)
  refine W.widen (k := C + 24) (n := S + 1518) (Nat.le_add_right C 24) (Nat.le_add_right S 1518) ?_
  exact K _ _ _ _ _ _ _ _ _ _ _ _ hr2 _ _ hP hD hS ls hl
set_option maxHeartbeats 4000000 in
set_option maxRecDepth 100000 in
theorem law_8 {p : Program} {l : Launch} {e : Env} {s0 : State} {m : MethodId} {below : List Frame} {meth : Method} {c : Code} {sb L : Nat} {xs : Nat → Int32} {D : va_G} {Y : Nat → ClassId} {Q : State → Prop} {ad av w a b d rb : Nat → Nat} (X0 : lwH p s0 m meth c sb L xs D Y ad av) {i : Nat} (hi : i + 5 ≤ L) (hL : L ≤ 2560) {C S : Nat} (hC : C + 24 ≤ 600000) (hS1 : S + 1518 ≤ 7302249) (K : lwK p l e s0 m below meth c sb Y D Q w a b d rb i (C + 24) (S + 1518)) {M N : kN} {F : kFm} {o z : Nat} {P : Nat → Int32} {n t : Nat} {kd : Int32} {V : Nat → Int32} {vc : Nat} {R : kN} (hrel : kRel M F o z P n vc R) (H : Heap) (locs : List Loc) (hP : va_P D vwCl (wR Y rb R ++ wC Y w a b d M N F o z P n t kd V vc) H) (hD : va_D (fun q => s0.heap.size ≤ q) (wR Y rb R ++ wC Y w a b d M N F o z P n t kd V vc)) (hS : va_S (fun q => s0.heap.size ≤ q) s0.heap H locs) (ls : Array Slot) (hl : lv_has ls 4 [(3, .int (nI i)), (2, .ref (rb 0)), (1, .ref (w 0)), (0, .ref sb)]) : W p l e room_1 s0 m #[Value.ref sb] below meth c H locs C S Q (F0 m 414 ls []) := by
  obtain ⟨hx, hb, hr, hml, hown, hta, hX, hbl, hK, hNs, hE⟩ := X0
  have hA : ∀ q : Nat, s0.heap.size ≤ q → (fun q : Nat => s0.heap.size ≤ q) q := fun _ h => h
  have hbA : ¬ (fun q : Nat => s0.heap.size ≤ q) sb := Nat.not_le.mpr hbl
  have hX0 : kX s0.heap.size ad av s0.heap.size s0 := ⟨Nat.le_refl _, hE⟩
  have hI := kSim_I hrel.1.1 hrel.1.2.1
  have ho := hrel.2.2.1.2.2
  have hz := hrel.2.2.1.2.1
  have h80 := hrel.2.1.2.1
  have hv := hrel.2.1.2.2.2.1
  have hC2 := hrel.2.1.2.2.2.2
  have hC0 : C ≤ 600000 := by omega
  have hS0 : S ≤ 7302249 := by omega
  have hB : ∀ c ∈ (wC Y w a b d M N F o z P n t kd V vc).map (·.1), s0.heap.size ≤ c := lw_B (kD_r hD)
  have hCx : C ≤ 600000 := hC0
  have hSx : S ≤ 7302249 := hS0
  refine lv_aload_n hx hb dL_law_414 rfl (lv_at hl 2 rfl) ?_
  refine lv_aload_n hx hb dL_law_415 rfl (lv_at hl 3 rfl) ?_
  refine lv_iload_n hx hb dL_law_416 rfl (lv_at hl 0 rfl) ?_
  refine lv_iconst (v := 1) hx hb dL_law_417 (by decide) ?_
  refine lv_iadd hx hb dL_law_418 ?_
  refine kTop (nI_add i 1) ?_
  refine va_sld hx hb hX hbl hbA hS (vp_in_nI (by omega) (by omega)) dL_law_419 ?_
  refine kTop (y := xs (i + 1)) (congrArg xs (nI_clamp (by omega))) ?_
  refine lv_aload_n hx hb dL_law_420 rfl (lv_at hl 3 rfl) ?_
  refine lv_iload_n hx hb dL_law_421 rfl (lv_at hl 0 rfl) ?_
  refine lv_iconst (v := 2) hx hb dL_law_422 (by decide) ?_
  refine lv_iadd hx hb dL_law_423 ?_
  refine kTop (nI_add i 2) ?_
  refine va_sld hx hb hX hbl hbA hS (vp_in_nI (by omega) (by omega)) dL_law_424 ?_
  refine kTop (y := xs (i + 2)) (congrArg xs (nI_clamp (by omega))) ?_
  refine kc_i (krV (As := [.int (xs (i + 1)), .int (xs (i + 2))]) (rest := []) (c_X7_ofGrower l D Y w a b d M N F o z P n t kd V vc (xs (i + 1)) (xs (i + 2)) hI) ⟨hx, hb, hml, hown, hta⟩ (cwL_49 hta ⟨Nat.le_of_ble_eq_true rfl, Nat.le_of_ble_eq_true rfl⟩) kX0b (fun _ _ _ => trivial) hK hNs hP hD (kJ_right) (q0 := 0) rfl rfl rfl rfl hl.1 rfl (Nat.le_of_ble_eq_true rfl) dL_law_425 ⟨hC0, hS0⟩) hP hD hS hA (kJ_right) (fun _ => rfl) (fun r2 u1 H locs hw hP hD hS => ?_)
  have hw := hw
  have e1 := hw.trans (kC_ofGrower hrel (xs (i + 1)) (xs (i + 2)))
  have hr2 := hrel
  have hP : va_P D vwCl (wR Y rb R ++ wC Y w a b d M N F o z P n t kd V vc) H := hP
  have hD : va_D (fun q => s0.heap.size ≤ q) (wR Y rb R ++ wC Y w a b d M N F o z P n t kd V vc) := hD
  refine lv_aload_n hx hb dL_law_428 rfl (lv_at hl 1 rfl) ?_
  refine lv_aload_n hx hb dL_law_429 rfl (lv_at hl 3 rfl) ?_
  refine lv_iload_n hx hb dL_law_430 rfl (lv_at hl 0 rfl) ?_
  refine lv_iconst (v := 1) hx hb dL_law_431 (by decide) ?_
  refine lv_iadd hx hb dL_law_432 ?_
  refine kTop (nI_add i 1) ?_
  refine va_sld hx hb hX hbl hbA hS (vp_in_nI (by omega) (by omega)) dL_law_433 ?_
  refine kTop (y := xs (i + 1)) (congrArg xs (nI_clamp (by omega))) ?_
  refine lv_aload_n hx hb dL_law_434 rfl (lv_at hl 3 rfl) ?_
  refine lv_iload_n hx hb dL_law_435 rfl (lv_at hl 0 rfl) ?_
  refine lv_iconst (v := 2) hx hb dL_law_436 (by decide) ?_
  refine lv_iadd hx hb dL_law_437 ?_
  refine kTop (nI_add i 2) ?_
  refine va_sld hx hb hX hbl hbA hS (vp_in_nI (by omega) (by omega)) dL_law_438 ?_
  refine kTop (y := xs (i + 2)) (congrArg xs (nI_clamp (by omega))) ?_
  refine kc_i (krV (As := [.int (xs (i + 1)), .int (xs (i + 2))]) (rest := [.int r2]) (c_X8_ofGrower l D Y rb R (xs (i + 1)) (xs (i + 2)) hrel.1.2.1) ⟨hx, hb, hml, hown, hta⟩ (cwL_52 hta ⟨Nat.le_of_ble_eq_true rfl, Nat.le_of_ble_eq_true rfl⟩) kX0b (fun _ _ _ => trivial) hK hNs hP hD (kJ_l) (q0 := 0) rfl rfl rfl rfl hl.1 rfl (Nat.le_of_ble_eq_true rfl) dL_law_439 ⟨hCx, hSx⟩) hP hD hS hA (kJ_l) (fun _ => rfl) (fun r4 v3 H locs hw hP hD hS => ?_)
  subst hw
  have hP : va_P D vwCl (wR Y rb R ++ wC Y w a b d M N F o z P n t kd V vc) H := hP
  have hD : va_D (fun q => s0.heap.size ≤ q) (wR Y rb R ++ wC Y w a b d M N F o z P n t kd V vc) := hD
  refine lv_icmp_eq (tgt := 780) hx hb dL_law_442 (by decide) (fun _ => ?_) (fun h => absurd e1 h)
  refine W.widen (k := C + 24) (n := S + 1518) (Nat.le_add_right C 24) (Nat.le_add_right S 1518) ?_
  exact K _ _ _ _ _ _ _ _ _ _ _ _ hr2 _ _ hP hD hS ls hl
set_option maxHeartbeats 4000000 in
set_option maxRecDepth 100000 in
theorem law_9 {p : Program} {l : Launch} {e : Env} {s0 : State} {m : MethodId} {below : List Frame} {meth : Method} {c : Code} {sb L : Nat} {xs : Nat → Int32} {D : va_G} {Y : Nat → ClassId} {Q : State → Prop} {ad av w a b d rb : Nat → Nat} (X0 : lwH p s0 m meth c sb L xs D Y ad av) {i : Nat} (hi : i + 5 ≤ L) (hL : L ≤ 2560) {C S : Nat} (hC : C + 24 ≤ 600000) (hS1 : S + 1518 ≤ 7302249) (K : lwK p l e s0 m below meth c sb Y D Q w a b d rb i (C + 24) (S + 1518)) {M N : kN} {F : kFm} {o z : Nat} {P : Nat → Int32} {n t : Nat} {kd : Int32} {V : Nat → Int32} {vc : Nat} {R : kN} (hrel : kRel M F o z P n vc R) (H : Heap) (locs : List Loc) (hP : va_P D vwCl (wR Y rb R ++ wC Y w a b d M N F o z P n t kd V vc) H) (hD : va_D (fun q => s0.heap.size ≤ q) (wR Y rb R ++ wC Y w a b d M N F o z P n t kd V vc)) (hS : va_S (fun q => s0.heap.size ≤ q) s0.heap H locs) (ls : Array Slot) (hl : lv_has ls 4 [(3, .int (nI i)), (2, .ref (rb 0)), (1, .ref (w 0)), (0, .ref sb)]) : W p l e room_1 s0 m #[Value.ref sb] below meth c H locs C S Q (F0 m 447 ls []) := by
  obtain ⟨hx, hb, hr, hml, hown, hta, hX, hbl, hK, hNs, hE⟩ := X0
  have hA : ∀ q : Nat, s0.heap.size ≤ q → (fun q : Nat => s0.heap.size ≤ q) q := fun _ h => h
  have hbA : ¬ (fun q : Nat => s0.heap.size ≤ q) sb := Nat.not_le.mpr hbl
  have hX0 : kX s0.heap.size ad av s0.heap.size s0 := ⟨Nat.le_refl _, hE⟩
  have hI := kSim_I hrel.1.1 hrel.1.2.1
  have ho := hrel.2.2.1.2.2
  have hz := hrel.2.2.1.2.1
  have h80 := hrel.2.1.2.1
  have hv := hrel.2.1.2.2.2.1
  have hC2 := hrel.2.1.2.2.2.2
  have hC0 : C ≤ 600000 := by omega
  have hS0 : S ≤ 7302249 := by omega
  have hB : ∀ c ∈ (wC Y w a b d M N F o z P n t kd V vc).map (·.1), s0.heap.size ≤ c := lw_B (kD_r hD)
  have hCx : C ≤ 600000 := hC0
  have hSx : S ≤ 7302249 := hS0
  refine lv_aload_n hx hb dL_law_447 rfl (lv_at hl 2 rfl) ?_
  refine lv_aload_n hx hb dL_law_448 rfl (lv_at hl 3 rfl) ?_
  refine lv_iload_n hx hb dL_law_449 rfl (lv_at hl 0 rfl) ?_
  refine lv_iconst (v := 1) hx hb dL_law_450 (by decide) ?_
  refine lv_iadd hx hb dL_law_451 ?_
  refine kTop (nI_add i 1) ?_
  refine va_sld hx hb hX hbl hbA hS (vp_in_nI (by omega) (by omega)) dL_law_452 ?_
  refine kTop (y := xs (i + 1)) (congrArg xs (nI_clamp (by omega))) ?_
  refine lv_aload_n hx hb dL_law_453 rfl (lv_at hl 3 rfl) ?_
  refine lv_iload_n hx hb dL_law_454 rfl (lv_at hl 0 rfl) ?_
  refine lv_iconst (v := 2) hx hb dL_law_455 (by decide) ?_
  refine lv_iadd hx hb dL_law_456 ?_
  refine kTop (nI_add i 2) ?_
  refine va_sld hx hb hX hbl hbA hS (vp_in_nI (by omega) (by omega)) dL_law_457 ?_
  refine kTop (y := xs (i + 2)) (congrArg xs (nI_clamp (by omega))) ?_
  refine kc_i (krV (As := [.int (xs (i + 1)), .int (xs (i + 2))]) (rest := []) (c_X7_load l D Y w a b d M N F o z P n t kd V vc (xs (i + 1)) (xs (i + 2)) hI) ⟨hx, hb, hml, hown, hta⟩ (cwL_53 hta ⟨Nat.le_of_ble_eq_true rfl, Nat.le_of_ble_eq_true rfl⟩) kX0b (fun _ _ _ => trivial) hK hNs hP hD (kJ_right) (q0 := 0) rfl rfl rfl rfl hl.1 rfl (Nat.le_of_ble_eq_true rfl) dL_law_458 ⟨hC0, hS0⟩) hP hD hS hA (kJ_right) (fun _ => rfl) (fun r2 u1 H locs hw hP hD hS => ?_)
  have hw := hw
  have e1 := hw.trans (kC_load hrel (xs (i + 1)) (xs (i + 2)))
  have hr2 := hrel
  have hP : va_P D vwCl (wR Y rb R ++ wC Y w a b d M N F o z P n t kd V vc) H := hP
  have hD : va_D (fun q => s0.heap.size ≤ q) (wR Y rb R ++ wC Y w a b d M N F o z P n t kd V vc) := hD
  refine lv_aload_n hx hb dL_law_461 rfl (lv_at hl 1 rfl) ?_
  refine lv_aload_n hx hb dL_law_462 rfl (lv_at hl 3 rfl) ?_
  refine lv_iload_n hx hb dL_law_463 rfl (lv_at hl 0 rfl) ?_
  refine lv_iconst (v := 1) hx hb dL_law_464 (by decide) ?_
  refine lv_iadd hx hb dL_law_465 ?_
  refine kTop (nI_add i 1) ?_
  refine va_sld hx hb hX hbl hbA hS (vp_in_nI (by omega) (by omega)) dL_law_466 ?_
  refine kTop (y := xs (i + 1)) (congrArg xs (nI_clamp (by omega))) ?_
  refine lv_aload_n hx hb dL_law_467 rfl (lv_at hl 3 rfl) ?_
  refine lv_iload_n hx hb dL_law_468 rfl (lv_at hl 0 rfl) ?_
  refine lv_iconst (v := 2) hx hb dL_law_469 (by decide) ?_
  refine lv_iadd hx hb dL_law_470 ?_
  refine kTop (nI_add i 2) ?_
  refine va_sld hx hb hX hbl hbA hS (vp_in_nI (by omega) (by omega)) dL_law_471 ?_
  refine kTop (y := xs (i + 2)) (congrArg xs (nI_clamp (by omega))) ?_
  refine kc_i (krV (As := [.int (xs (i + 1)), .int (xs (i + 2))]) (rest := [.int r2]) (c_X8_load l D Y rb R (xs (i + 1)) (xs (i + 2)) hrel.1.2.1) ⟨hx, hb, hml, hown, hta⟩ (cwL_56 hta ⟨Nat.le_of_ble_eq_true rfl, Nat.le_of_ble_eq_true rfl⟩) kX0b (fun _ _ _ => trivial) hK hNs hP hD (kJ_l) (q0 := 0) rfl rfl rfl rfl hl.1 rfl (Nat.le_of_ble_eq_true rfl) dL_law_472 ⟨hCx, hSx⟩) hP hD hS hA (kJ_l) (fun _ => rfl) (fun r4 v3 H locs hw hP hD hS => ?_)
  subst hw
  have hP : va_P D vwCl (wR Y rb R ++ wC Y w a b d M N F o z P n t kd V vc) H := hP
  have hD : va_D (fun q => s0.heap.size ≤ q) (wR Y rb R ++ wC Y w a b d M N F o z P n t kd V vc) := hD
  refine lv_icmp_eq (tgt := 780) hx hb dL_law_475 (by decide) (fun _ => ?_) (fun h => absurd e1 h)
  refine W.widen (k := C + 24) (n := S + 1518) (Nat.le_add_right C 24) (Nat.le_add_right S 1518) ?_
  exact K _ _ _ _ _ _ _ _ _ _ _ _ hr2 _ _ hP hD hS ls hl
set_option maxHeartbeats 4000000 in
set_option maxRecDepth 100000 in
theorem law_10 {p : Program} {l : Launch} {e : Env} {s0 : State} {m : MethodId} {below : List Frame} {meth : Method} {c : Code} {sb L : Nat} {xs : Nat → Int32} {D : va_G} {Y : Nat → ClassId} {Q : State → Prop} {ad av w a b d rb : Nat → Nat} (X0 : lwH p s0 m meth c sb L xs D Y ad av) {i : Nat} (hi : i + 5 ≤ L) (hL : L ≤ 2560) {C S : Nat} (hC : C + 24 ≤ 600000) (hS1 : S + 1518 ≤ 7302249) (K : lwK p l e s0 m below meth c sb Y D Q w a b d rb i (C + 24) (S + 1518)) {M N : kN} {F : kFm} {o z : Nat} {P : Nat → Int32} {n t : Nat} {kd : Int32} {V : Nat → Int32} {vc : Nat} {R : kN} (hrel : kRel M F o z P n vc R) (H : Heap) (locs : List Loc) (hP : va_P D vwCl (wR Y rb R ++ wC Y w a b d M N F o z P n t kd V vc) H) (hD : va_D (fun q => s0.heap.size ≤ q) (wR Y rb R ++ wC Y w a b d M N F o z P n t kd V vc)) (hS : va_S (fun q => s0.heap.size ≤ q) s0.heap H locs) (ls : Array Slot) (hl : lv_has ls 4 [(3, .int (nI i)), (2, .ref (rb 0)), (1, .ref (w 0)), (0, .ref sb)]) : W p l e room_1 s0 m #[Value.ref sb] below meth c H locs C S Q (F0 m 480 ls []) := by
  obtain ⟨hx, hb, hr, hml, hown, hta, hX, hbl, hK, hNs, hE⟩ := X0
  have hA : ∀ q : Nat, s0.heap.size ≤ q → (fun q : Nat => s0.heap.size ≤ q) q := fun _ h => h
  have hbA : ¬ (fun q : Nat => s0.heap.size ≤ q) sb := Nat.not_le.mpr hbl
  have hX0 : kX s0.heap.size ad av s0.heap.size s0 := ⟨Nat.le_refl _, hE⟩
  have hI := kSim_I hrel.1.1 hrel.1.2.1
  have ho := hrel.2.2.1.2.2
  have hz := hrel.2.2.1.2.1
  have h80 := hrel.2.1.2.1
  have hv := hrel.2.1.2.2.2.1
  have hC2 := hrel.2.1.2.2.2.2
  have hC0 : C ≤ 600000 := by omega
  have hS0 : S ≤ 7302249 := by omega
  have hB : ∀ c ∈ (wC Y w a b d M N F o z P n t kd V vc).map (·.1), s0.heap.size ≤ c := lw_B (kD_r hD)
  have hCx : C ≤ 600000 := hC0
  have hSx : S ≤ 7302249 := hS0
  refine lv_aload_n hx hb dL_law_480 rfl (lv_at hl 2 rfl) ?_
  refine lv_aload_n hx hb dL_law_481 rfl (lv_at hl 3 rfl) ?_
  refine lv_iload_n hx hb dL_law_482 rfl (lv_at hl 0 rfl) ?_
  refine lv_iconst (v := 1) hx hb dL_law_483 (by decide) ?_
  refine lv_iadd hx hb dL_law_484 ?_
  refine kTop (nI_add i 1) ?_
  refine va_sld hx hb hX hbl hbA hS (vp_in_nI (by omega) (by omega)) dL_law_485 ?_
  refine kTop (y := xs (i + 1)) (congrArg xs (nI_clamp (by omega))) ?_
  refine kc_i (krV (As := [.int (xs (i + 1))]) (rest := []) (c_X7_count l D Y w a b d M N F o z P n t kd V vc (xs (i + 1)) hI) ⟨hx, hb, hml, hown, hta⟩ (cwL_57 hta ⟨Nat.le_of_ble_eq_true rfl, Nat.le_of_ble_eq_true rfl⟩) kX0b (fun _ _ _ => trivial) hK hNs hP hD (kJ_right) (q0 := 0) rfl rfl rfl rfl hl.1 rfl (Nat.le_of_ble_eq_true rfl) dL_law_486 ⟨hC0, hS0⟩) hP hD hS hA (kJ_right) (fun _ => rfl) (fun r2 u1 H locs hw hP hD hS => ?_)
  have hw := hw
  have e1 := hw.trans (kC_count hrel (xs (i + 1)))
  have hr2 := hrel
  have hP : va_P D vwCl (wR Y rb R ++ wC Y w a b d M N F o z P n t kd V vc) H := hP
  have hD : va_D (fun q => s0.heap.size ≤ q) (wR Y rb R ++ wC Y w a b d M N F o z P n t kd V vc) := hD
  refine lv_aload_n hx hb dL_law_489 rfl (lv_at hl 1 rfl) ?_
  refine lv_aload_n hx hb dL_law_490 rfl (lv_at hl 3 rfl) ?_
  refine lv_iload_n hx hb dL_law_491 rfl (lv_at hl 0 rfl) ?_
  refine lv_iconst (v := 1) hx hb dL_law_492 (by decide) ?_
  refine lv_iadd hx hb dL_law_493 ?_
  refine kTop (nI_add i 1) ?_
  refine va_sld hx hb hX hbl hbA hS (vp_in_nI (by omega) (by omega)) dL_law_494 ?_
  refine kTop (y := xs (i + 1)) (congrArg xs (nI_clamp (by omega))) ?_
  refine kc_i (krV (As := [.int (xs (i + 1))]) (rest := [.int r2]) (c_X8_count l D Y rb R (xs (i + 1)) hrel.1.2.1) ⟨hx, hb, hml, hown, hta⟩ (cwL_60 hta ⟨Nat.le_of_ble_eq_true rfl, Nat.le_of_ble_eq_true rfl⟩) kX0b (fun _ _ _ => trivial) hK hNs hP hD (kJ_l) (q0 := 0) rfl rfl rfl rfl hl.1 rfl (Nat.le_of_ble_eq_true rfl) dL_law_495 ⟨hCx, hSx⟩) hP hD hS hA (kJ_l) (fun _ => rfl) (fun r4 v3 H locs hw hP hD hS => ?_)
  subst hw
  have hP : va_P D vwCl (wR Y rb R ++ wC Y w a b d M N F o z P n t kd V vc) H := hP
  have hD : va_D (fun q => s0.heap.size ≤ q) (wR Y rb R ++ wC Y w a b d M N F o z P n t kd V vc) := hD
  refine lv_icmp_eq (tgt := 780) hx hb dL_law_498 (by decide) (fun _ => ?_) (fun h => absurd e1 h)
  refine W.widen (k := C + 24) (n := S + 1518) (Nat.le_add_right C 24) (Nat.le_add_right S 1518) ?_
  exact K _ _ _ _ _ _ _ _ _ _ _ _ hr2 _ _ hP hD hS ls hl
set_option maxHeartbeats 4000000 in
set_option maxRecDepth 100000 in
theorem law_11 {p : Program} {l : Launch} {e : Env} {s0 : State} {m : MethodId} {below : List Frame} {meth : Method} {c : Code} {sb L : Nat} {xs : Nat → Int32} {D : va_G} {Y : Nat → ClassId} {Q : State → Prop} {ad av w a b d rb : Nat → Nat} (X0 : lwH p s0 m meth c sb L xs D Y ad av) {i : Nat} (hi : i + 5 ≤ L) (hL : L ≤ 2560) {C S : Nat} (hC : C + 24 ≤ 600000) (hS1 : S + 1518 ≤ 7302249) (K : lwK p l e s0 m below meth c sb Y D Q w a b d rb i (C + 24) (S + 1518)) {M N : kN} {F : kFm} {o z : Nat} {P : Nat → Int32} {n t : Nat} {kd : Int32} {V : Nat → Int32} {vc : Nat} {R : kN} (hrel : kRel M F o z P n vc R) (H : Heap) (locs : List Loc) (hP : va_P D vwCl (wR Y rb R ++ wC Y w a b d M N F o z P n t kd V vc) H) (hD : va_D (fun q => s0.heap.size ≤ q) (wR Y rb R ++ wC Y w a b d M N F o z P n t kd V vc)) (hS : va_S (fun q => s0.heap.size ≤ q) s0.heap H locs) (ls : Array Slot) (hl : lv_has ls 4 [(3, .int (nI i)), (2, .ref (rb 0)), (1, .ref (w 0)), (0, .ref sb)]) : W p l e room_1 s0 m #[Value.ref sb] below meth c H locs C S Q (F0 m 503 ls []) := by
  obtain ⟨hx, hb, hr, hml, hown, hta, hX, hbl, hK, hNs, hE⟩ := X0
  have hA : ∀ q : Nat, s0.heap.size ≤ q → (fun q : Nat => s0.heap.size ≤ q) q := fun _ h => h
  have hbA : ¬ (fun q : Nat => s0.heap.size ≤ q) sb := Nat.not_le.mpr hbl
  have hX0 : kX s0.heap.size ad av s0.heap.size s0 := ⟨Nat.le_refl _, hE⟩
  have hI := kSim_I hrel.1.1 hrel.1.2.1
  have ho := hrel.2.2.1.2.2
  have hz := hrel.2.2.1.2.1
  have h80 := hrel.2.1.2.1
  have hv := hrel.2.1.2.2.2.1
  have hC2 := hrel.2.1.2.2.2.2
  have hC0 : C ≤ 600000 := by omega
  have hS0 : S ≤ 7302249 := by omega
  have hB : ∀ c ∈ (wC Y w a b d M N F o z P n t kd V vc).map (·.1), s0.heap.size ≤ c := lw_B (kD_r hD)
  have hCx : C ≤ 600000 := hC0
  have hSx : S ≤ 7302249 := hS0
  refine lv_aload_n hx hb dL_law_503 rfl (lv_at hl 2 rfl) ?_
  refine lv_aload_n hx hb dL_law_504 rfl (lv_at hl 3 rfl) ?_
  refine lv_iload_n hx hb dL_law_505 rfl (lv_at hl 0 rfl) ?_
  refine lv_iconst (v := 1) hx hb dL_law_506 (by decide) ?_
  refine lv_iadd hx hb dL_law_507 ?_
  refine kTop (nI_add i 1) ?_
  refine va_sld hx hb hX hbl hbA hS (vp_in_nI (by omega) (by omega)) dL_law_508 ?_
  refine kTop (y := xs (i + 1)) (congrArg xs (nI_clamp (by omega))) ?_
  refine kc_l (krV (As := [.int (xs (i + 1))]) (rest := []) (c_X7_fields l D Y w a b d M N F o z P n t kd V vc (xs (i + 1)) hI) ⟨hx, hb, hml, hown, hta⟩ (cwL_61 hta ⟨Nat.le_of_ble_eq_true rfl, Nat.le_of_ble_eq_true rfl⟩) kX0b (fun _ _ _ => trivial) hK hNs hP hD (kJ_right) (q0 := 0) rfl rfl rfl rfl hl.1 rfl (Nat.le_of_ble_eq_true rfl) dL_law_509 ⟨hC0, hS0⟩) hP hD hS hA (kJ_right) (fun _ => rfl) (fun r2 u1 H locs hw hP hD hS => ?_)
  have hw := hw
  have e1 := hw.trans (kC_fields hrel (xs (i + 1)))
  have hr2 := hrel
  have hP : va_P D vwCl (wR Y rb R ++ wC Y w a b d M N F o z P n t kd V vc) H := hP
  have hD : va_D (fun q => s0.heap.size ≤ q) (wR Y rb R ++ wC Y w a b d M N F o z P n t kd V vc) := hD
  refine lv_aload_n hx hb dL_law_512 rfl (lv_at hl 1 rfl) ?_
  refine lv_aload_n hx hb dL_law_513 rfl (lv_at hl 3 rfl) ?_
  refine lv_iload_n hx hb dL_law_514 rfl (lv_at hl 0 rfl) ?_
  refine lv_iconst (v := 1) hx hb dL_law_515 (by decide) ?_
  refine lv_iadd hx hb dL_law_516 ?_
  refine kTop (nI_add i 1) ?_
  refine va_sld hx hb hX hbl hbA hS (vp_in_nI (by omega) (by omega)) dL_law_517 ?_
  refine kTop (y := xs (i + 1)) (congrArg xs (nI_clamp (by omega))) ?_
  refine kc_l (krV (As := [.int (xs (i + 1))]) (rest := [.long r2]) (c_X8_fields l D Y rb R (xs (i + 1)) hrel.1.2.1) ⟨hx, hb, hml, hown, hta⟩ (cwL_65 hta ⟨Nat.le_of_ble_eq_true rfl, Nat.le_of_ble_eq_true rfl⟩) kX0b (fun _ _ _ => trivial) hK hNs hP hD (kJ_l) (q0 := 0) rfl rfl rfl rfl hl.1 rfl (Nat.le_of_ble_eq_true rfl) dL_law_518 ⟨hCx, hSx⟩) hP hD hS hA (kJ_l) (fun _ => rfl) (fun r4 v3 H locs hw hP hD hS => ?_)
  subst hw
  have hP : va_P D vwCl (wR Y rb R ++ wC Y w a b d M N F o z P n t kd V vc) H := hP
  have hD : va_D (fun q => s0.heap.size ≤ q) (wR Y rb R ++ wC Y w a b d M N F o z P n t kd V vc) := hD
  refine W.lcmp hx hb dL_law_521 ?_
  refine lv_if_eq (tgt := 780) hx hb dL_law_522 (by decide) (fun _ => ?_) (fun h => absurd (kcmp0.mpr e1) h)
  refine W.widen (k := C + 24) (n := S + 1518) (Nat.le_add_right C 24) (Nat.le_add_right S 1518) ?_
  exact K _ _ _ _ _ _ _ _ _ _ _ _ hr2 _ _ hP hD hS ls hl
set_option maxHeartbeats 4000000 in
set_option maxRecDepth 100000 in
theorem law_12 {p : Program} {l : Launch} {e : Env} {s0 : State} {m : MethodId} {below : List Frame} {meth : Method} {c : Code} {sb L : Nat} {xs : Nat → Int32} {D : va_G} {Y : Nat → ClassId} {Q : State → Prop} {ad av w a b d rb : Nat → Nat} (X0 : lwH p s0 m meth c sb L xs D Y ad av) {i : Nat} (hi : i + 5 ≤ L) (hL : L ≤ 2560) {C S : Nat} (hC : C + 24 ≤ 600000) (hS1 : S + 1518 ≤ 7302249) (K : lwK p l e s0 m below meth c sb Y D Q w a b d rb i (C + 24) (S + 1518)) {M N : kN} {F : kFm} {o z : Nat} {P : Nat → Int32} {n t : Nat} {kd : Int32} {V : Nat → Int32} {vc : Nat} {R : kN} (hrel : kRel M F o z P n vc R) (H : Heap) (locs : List Loc) (hP : va_P D vwCl (wR Y rb R ++ wC Y w a b d M N F o z P n t kd V vc) H) (hD : va_D (fun q => s0.heap.size ≤ q) (wR Y rb R ++ wC Y w a b d M N F o z P n t kd V vc)) (hS : va_S (fun q => s0.heap.size ≤ q) s0.heap H locs) (ls : Array Slot) (hl : lv_has ls 4 [(3, .int (nI i)), (2, .ref (rb 0)), (1, .ref (w 0)), (0, .ref sb)]) : W p l e room_1 s0 m #[Value.ref sb] below meth c H locs C S Q (F0 m 527 ls []) := by
  obtain ⟨hx, hb, hr, hml, hown, hta, hX, hbl, hK, hNs, hE⟩ := X0
  have hA : ∀ q : Nat, s0.heap.size ≤ q → (fun q : Nat => s0.heap.size ≤ q) q := fun _ h => h
  have hbA : ¬ (fun q : Nat => s0.heap.size ≤ q) sb := Nat.not_le.mpr hbl
  have hX0 : kX s0.heap.size ad av s0.heap.size s0 := ⟨Nat.le_refl _, hE⟩
  have hI := kSim_I hrel.1.1 hrel.1.2.1
  have ho := hrel.2.2.1.2.2
  have hz := hrel.2.2.1.2.1
  have h80 := hrel.2.1.2.1
  have hv := hrel.2.1.2.2.2.1
  have hC2 := hrel.2.1.2.2.2.2
  have hC0 : C ≤ 600000 := by omega
  have hS0 : S ≤ 7302249 := by omega
  have hB : ∀ c ∈ (wC Y w a b d M N F o z P n t kd V vc).map (·.1), s0.heap.size ≤ c := lw_B (kD_r hD)
  have hCx : C ≤ 600000 := hC0
  have hSx : S ≤ 7302249 := hS0
  refine lv_aload_n hx hb dL_law_527 rfl (lv_at hl 2 rfl) ?_
  refine kc_i (krV (As := []) (rest := []) (c_X7_next l D Y w a b d M N F o z P n t kd V vc  hI) ⟨hx, hb, hml, hown, hta⟩ (cwL_66 hta ⟨Nat.le_of_ble_eq_true rfl, Nat.le_of_ble_eq_true rfl⟩) kX0b (fun _ _ _ => trivial) hK hNs hP hD (kJ_right) (q0 := 0) rfl rfl rfl rfl hl.1 rfl (Nat.le_of_ble_eq_true rfl) dL_law_528 ⟨hC0, hS0⟩) hP hD hS hA (kJ_right) (fun _ => rfl) (fun r2 u1 H locs hw hP hD hS => ?_)
  have hw := hw
  have e1 := hw.trans (kC_next hrel )
  have hr2 := hrel
  have hP : va_P D vwCl (wR Y rb R ++ wC Y w a b d M N F o z P n t kd V vc) H := hP
  have hD : va_D (fun q => s0.heap.size ≤ q) (wR Y rb R ++ wC Y w a b d M N F o z P n t kd V vc) := hD
  refine lv_aload_n hx hb dL_law_531 rfl (lv_at hl 1 rfl) ?_
  refine kc_i (krV (As := []) (rest := [.int r2]) (c_X8_next l D Y rb R  hrel.1.2.1) ⟨hx, hb, hml, hown, hta⟩ (cwL_70 hta ⟨Nat.le_of_ble_eq_true rfl, Nat.le_of_ble_eq_true rfl⟩) kX0b (fun _ _ _ => trivial) hK hNs hP hD (kJ_l) (q0 := 0) rfl rfl rfl rfl hl.1 rfl (Nat.le_of_ble_eq_true rfl) dL_law_532 ⟨hCx, hSx⟩) hP hD hS hA (kJ_l) (fun _ => rfl) (fun r4 v3 H locs hw hP hD hS => ?_)
  subst hw
  have hP : va_P D vwCl (wR Y rb R ++ wC Y w a b d M N F o z P n t kd V vc) H := hP
  have hD : va_D (fun q => s0.heap.size ≤ q) (wR Y rb R ++ wC Y w a b d M N F o z P n t kd V vc) := hD
  refine lv_icmp_eq (tgt := 780) hx hb dL_law_535 (by decide) (fun _ => ?_) (fun h => absurd e1 h)
  refine W.widen (k := C + 24) (n := S + 1518) (Nat.le_add_right C 24) (Nat.le_add_right S 1518) ?_
  exact K _ _ _ _ _ _ _ _ _ _ _ _ hr2 _ _ hP hD hS ls hl
set_option maxHeartbeats 4000000 in
set_option maxRecDepth 100000 in
theorem law_13 {p : Program} {l : Launch} {e : Env} {s0 : State} {m : MethodId} {below : List Frame} {meth : Method} {c : Code} {sb L : Nat} {xs : Nat → Int32} {D : va_G} {Y : Nat → ClassId} {Q : State → Prop} {ad av w a b d rb : Nat → Nat} (X0 : lwH p s0 m meth c sb L xs D Y ad av) {i : Nat} (hi : i + 5 ≤ L) (hL : L ≤ 2560) {C S : Nat} (hC : C + 24 ≤ 600000) (hS1 : S + 1518 ≤ 7302249) (K : lwK p l e s0 m below meth c sb Y D Q w a b d rb i (C + 24) (S + 1518)) {M N : kN} {F : kFm} {o z : Nat} {P : Nat → Int32} {n t : Nat} {kd : Int32} {V : Nat → Int32} {vc : Nat} {R : kN} (hrel : kRel M F o z P n vc R) (H : Heap) (locs : List Loc) (hP : va_P D vwCl (wR Y rb R ++ wC Y w a b d M N F o z P n t kd V vc) H) (hD : va_D (fun q => s0.heap.size ≤ q) (wR Y rb R ++ wC Y w a b d M N F o z P n t kd V vc)) (hS : va_S (fun q => s0.heap.size ≤ q) s0.heap H locs) (ls : Array Slot) (hl : lv_has ls 4 [(3, .int (nI i)), (2, .ref (rb 0)), (1, .ref (w 0)), (0, .ref sb)]) : W p l e room_1 s0 m #[Value.ref sb] below meth c H locs C S Q (F0 m 540 ls []) := by
  obtain ⟨hx, hb, hr, hml, hown, hta, hX, hbl, hK, hNs, hE⟩ := X0
  have hA : ∀ q : Nat, s0.heap.size ≤ q → (fun q : Nat => s0.heap.size ≤ q) q := fun _ h => h
  have hbA : ¬ (fun q : Nat => s0.heap.size ≤ q) sb := Nat.not_le.mpr hbl
  have hX0 : kX s0.heap.size ad av s0.heap.size s0 := ⟨Nat.le_refl _, hE⟩
  have hI := kSim_I hrel.1.1 hrel.1.2.1
  have ho := hrel.2.2.1.2.2
  have hz := hrel.2.2.1.2.1
  have h80 := hrel.2.1.2.1
  have hv := hrel.2.1.2.2.2.1
  have hC2 := hrel.2.1.2.2.2.2
  have hC0 : C ≤ 600000 := by omega
  have hS0 : S ≤ 7302249 := by omega
  have hB : ∀ c ∈ (wC Y w a b d M N F o z P n t kd V vc).map (·.1), s0.heap.size ≤ c := lw_B (kD_r hD)
  have hCx : C ≤ 600000 := hC0
  have hSx : S ≤ 7302249 := hS0
  refine lv_aload_n hx hb dL_law_540 rfl (lv_at hl 2 rfl) ?_
  refine lv_aload_n hx hb dL_law_541 rfl (lv_at hl 3 rfl) ?_
  refine lv_iload_n hx hb dL_law_542 rfl (lv_at hl 0 rfl) ?_
  refine lv_iconst (v := 1) hx hb dL_law_543 (by decide) ?_
  refine lv_iadd hx hb dL_law_544 ?_
  refine kTop (nI_add i 1) ?_
  refine va_sld hx hb hX hbl hbA hS (vp_in_nI (by omega) (by omega)) dL_law_545 ?_
  refine kTop (y := xs (i + 1)) (congrArg xs (nI_clamp (by omega))) ?_
  refine lv_aload_n hx hb dL_law_546 rfl (lv_at hl 3 rfl) ?_
  refine lv_iload_n hx hb dL_law_547 rfl (lv_at hl 0 rfl) ?_
  refine lv_iconst (v := 2) hx hb dL_law_548 (by decide) ?_
  refine lv_iadd hx hb dL_law_549 ?_
  refine kTop (nI_add i 2) ?_
  refine va_sld hx hb hX hbl hbA hS (vp_in_nI (by omega) (by omega)) dL_law_550 ?_
  refine kTop (y := xs (i + 2)) (congrArg xs (nI_clamp (by omega))) ?_
  refine kc_i (krV (As := [.int (xs (i + 1)), .int (xs (i + 2))]) (rest := []) (c_X7_then l D Y w a b d M N F o z P n t kd V vc (xs (i + 1)) (xs (i + 2)) (R 0) hrel.1) ⟨hx, hb, hml, hown, hta⟩ (cwL_71 hta ⟨Nat.le_of_ble_eq_true rfl, Nat.le_of_ble_eq_true rfl⟩) kX0b (fun _ _ _ => trivial) hK hNs hP hD (kJ_right) (q0 := 0) rfl rfl rfl rfl hl.1 rfl (Nat.le_of_ble_eq_true rfl) dL_law_551 ⟨hC0, hS0⟩) hP hD hS hA (kJ_right) (fun _ => rfl) (fun r2 u1 H locs hw hP hD hS => ?_)
  have hw := hw
  have e1 := hw
  have hP : va_P D vwCl (wR Y rb R ++ wC Y w a b d M u1 F o z P n t kd V vc) H := hP
  have hD : va_D (fun q => s0.heap.size ≤ q) (wR Y rb R ++ wC Y w a b d M u1 F o z P n t kd V vc) := hD
  refine lv_aload_n hx hb dL_law_554 rfl (lv_at hl 1 rfl) ?_
  refine lv_aload_n hx hb dL_law_555 rfl (lv_at hl 3 rfl) ?_
  refine lv_iload_n hx hb dL_law_556 rfl (lv_at hl 0 rfl) ?_
  refine lv_iconst (v := 1) hx hb dL_law_557 (by decide) ?_
  refine lv_iadd hx hb dL_law_558 ?_
  refine kTop (nI_add i 1) ?_
  refine va_sld hx hb hX hbl hbA hS (vp_in_nI (by omega) (by omega)) dL_law_559 ?_
  refine kTop (y := xs (i + 1)) (congrArg xs (nI_clamp (by omega))) ?_
  refine lv_aload_n hx hb dL_law_560 rfl (lv_at hl 3 rfl) ?_
  refine lv_iload_n hx hb dL_law_561 rfl (lv_at hl 0 rfl) ?_
  refine lv_iconst (v := 2) hx hb dL_law_562 (by decide) ?_
  refine lv_iadd hx hb dL_law_563 ?_
  refine kTop (nI_add i 2) ?_
  refine va_sld hx hb hX hbl hbA hS (vp_in_nI (by omega) (by omega)) dL_law_564 ?_
  refine kTop (y := xs (i + 2)) (congrArg xs (nI_clamp (by omega))) ?_
  refine kc_i (krV (As := [.int (xs (i + 1)), .int (xs (i + 2))]) (rest := [.int r2]) (c_X8_then l D Y rb R (xs (i + 1)) (xs (i + 2)) hrel.1.2.1 hrel.1.2.2.1) ⟨hx, hb, hml, hown, hta⟩ (cwL_74 hta ⟨Nat.le_of_ble_eq_true rfl, Nat.le_of_ble_eq_true rfl⟩) kX0b (fun _ _ _ => trivial) hK hNs hP hD (kJ_l) (q0 := 0) rfl rfl rfl rfl hl.1 rfl (Nat.le_of_ble_eq_true rfl) dL_law_565 ⟨hCx, hSx⟩) hP hD hS hA (kJ_l) (fun _ => rfl) (fun r4 v3 H locs hw hP hD hS => ?_)
  obtain ⟨rfl, T9, rfl⟩ := hw
  have hr2 := kC_then (T := T9) hrel
  have hP : va_P D vwCl (wR Y rb (sR R 1 T9) ++ wC Y w a b d M u1 F o z P n t kd V vc) H := hP
  have hD : va_D (fun q => s0.heap.size ≤ q) (wR Y rb (sR R 1 T9) ++ wC Y w a b d M u1 F o z P n t kd V vc) := hD
  refine lv_icmp_eq (tgt := 780) hx hb dL_law_568 (by decide) (fun _ => ?_) (fun h => absurd e1 h)
  refine W.widen (k := C + 24) (n := S + 1518) (Nat.le_add_right C 24) (Nat.le_add_right S 1518) ?_
  exact K _ _ _ _ _ _ _ _ _ _ _ _ hr2 _ _ hP hD hS ls hl
set_option maxHeartbeats 4000000 in
set_option maxRecDepth 100000 in
theorem law_14 {p : Program} {l : Launch} {e : Env} {s0 : State} {m : MethodId} {below : List Frame} {meth : Method} {c : Code} {sb L : Nat} {xs : Nat → Int32} {D : va_G} {Y : Nat → ClassId} {Q : State → Prop} {ad av w a b d rb : Nat → Nat} (X0 : lwH p s0 m meth c sb L xs D Y ad av) {i : Nat} (hi : i + 5 ≤ L) (hL : L ≤ 2560) {C S : Nat} (hC : C + 24 ≤ 600000) (hS1 : S + 1518 ≤ 7302249) (K : lwK p l e s0 m below meth c sb Y D Q w a b d rb i (C + 24) (S + 1518)) {M N : kN} {F : kFm} {o z : Nat} {P : Nat → Int32} {n t : Nat} {kd : Int32} {V : Nat → Int32} {vc : Nat} {R : kN} (hrel : kRel M F o z P n vc R) (H : Heap) (locs : List Loc) (hP : va_P D vwCl (wR Y rb R ++ wC Y w a b d M N F o z P n t kd V vc) H) (hD : va_D (fun q => s0.heap.size ≤ q) (wR Y rb R ++ wC Y w a b d M N F o z P n t kd V vc)) (hS : va_S (fun q => s0.heap.size ≤ q) s0.heap H locs) (ls : Array Slot) (hl : lv_has ls 4 [(3, .int (nI i)), (2, .ref (rb 0)), (1, .ref (w 0)), (0, .ref sb)]) : W p l e room_1 s0 m #[Value.ref sb] below meth c H locs C S Q (F0 m 573 ls []) := by
  obtain ⟨hx, hb, hr, hml, hown, hta, hX, hbl, hK, hNs, hE⟩ := X0
  have hA : ∀ q : Nat, s0.heap.size ≤ q → (fun q : Nat => s0.heap.size ≤ q) q := fun _ h => h
  have hbA : ¬ (fun q : Nat => s0.heap.size ≤ q) sb := Nat.not_le.mpr hbl
  have hX0 : kX s0.heap.size ad av s0.heap.size s0 := ⟨Nat.le_refl _, hE⟩
  have hI := kSim_I hrel.1.1 hrel.1.2.1
  have ho := hrel.2.2.1.2.2
  have hz := hrel.2.2.1.2.1
  have h80 := hrel.2.1.2.1
  have hv := hrel.2.1.2.2.2.1
  have hC2 := hrel.2.1.2.2.2.2
  have hC0 : C ≤ 600000 := by omega
  have hS0 : S ≤ 7302249 := by omega
  have hB : ∀ c ∈ (wC Y w a b d M N F o z P n t kd V vc).map (·.1), s0.heap.size ≤ c := lw_B (kD_r hD)
  have hCx : C ≤ 600000 := hC0
  have hSx : S ≤ 7302249 := hS0
  refine lv_aload_n hx hb dL_law_573 rfl (lv_at hl 2 rfl) ?_
  refine lv_aload_n hx hb dL_law_574 rfl (lv_at hl 3 rfl) ?_
  refine lv_iload_n hx hb dL_law_575 rfl (lv_at hl 0 rfl) ?_
  refine lv_iconst (v := 1) hx hb dL_law_576 (by decide) ?_
  refine lv_iadd hx hb dL_law_577 ?_
  refine kTop (nI_add i 1) ?_
  refine va_sld hx hb hX hbl hbA hS (vp_in_nI (by omega) (by omega)) dL_law_578 ?_
  refine kTop (y := xs (i + 1)) (congrArg xs (nI_clamp (by omega))) ?_
  refine kc_i (krV (As := [.int (xs (i + 1))]) (rest := []) (c_X7_leastTrucks l D Y w a b d M N F o z P n t kd V vc (xs (i + 1)) (R 0) hrel.1) ⟨hx, hb, hml, hown, hta⟩ (cwL_75 hta ⟨Nat.le_of_ble_eq_true rfl, Nat.le_of_ble_eq_true rfl⟩) kX0b (fun _ _ _ => trivial) hK hNs hP hD (kJ_right) (q0 := 0) rfl rfl rfl rfl hl.1 rfl (Nat.le_of_ble_eq_true rfl) dL_law_579 ⟨hC0, hS0⟩) hP hD hS hA (kJ_right) (fun _ => rfl) (fun r2 u1 H locs hw hP hD hS => ?_)
  have hw := hw
  have e1 := hw
  have hP : va_P D vwCl (wR Y rb R ++ wC Y w a b d M u1 F o z P n t kd V vc) H := hP
  have hD : va_D (fun q => s0.heap.size ≤ q) (wR Y rb R ++ wC Y w a b d M u1 F o z P n t kd V vc) := hD
  refine lv_aload_n hx hb dL_law_582 rfl (lv_at hl 1 rfl) ?_
  refine lv_aload_n hx hb dL_law_583 rfl (lv_at hl 3 rfl) ?_
  refine lv_iload_n hx hb dL_law_584 rfl (lv_at hl 0 rfl) ?_
  refine lv_iconst (v := 1) hx hb dL_law_585 (by decide) ?_
  refine lv_iadd hx hb dL_law_586 ?_
  refine kTop (nI_add i 1) ?_
  refine va_sld hx hb hX hbl hbA hS (vp_in_nI (by omega) (by omega)) dL_law_587 ?_
  refine kTop (y := xs (i + 1)) (congrArg xs (nI_clamp (by omega))) ?_
  refine kc_i (krV (As := [.int (xs (i + 1))]) (rest := [.int r2]) (c_X8_leastTrucks l D Y rb R (xs (i + 1)) hrel.1.2.1 hrel.1.2.2.1) ⟨hx, hb, hml, hown, hta⟩ (cwL_78 hta ⟨Nat.le_of_ble_eq_true rfl, Nat.le_of_ble_eq_true rfl⟩) kX0b (fun _ _ _ => trivial) hK hNs hP hD (kJ_l) (q0 := 0) rfl rfl rfl rfl hl.1 rfl (Nat.le_of_ble_eq_true rfl) dL_law_588 ⟨hCx, hSx⟩) hP hD hS hA (kJ_l) (fun _ => rfl) (fun r4 v3 H locs hw hP hD hS => ?_)
  obtain ⟨rfl, T9, rfl⟩ := hw
  have hr2 := kC_then (T := T9) hrel
  have hP : va_P D vwCl (wR Y rb (sR R 1 T9) ++ wC Y w a b d M u1 F o z P n t kd V vc) H := hP
  have hD : va_D (fun q => s0.heap.size ≤ q) (wR Y rb (sR R 1 T9) ++ wC Y w a b d M u1 F o z P n t kd V vc) := hD
  refine lv_icmp_eq (tgt := 780) hx hb dL_law_591 (by decide) (fun _ => ?_) (fun h => absurd e1 h)
  refine W.widen (k := C + 24) (n := S + 1518) (Nat.le_add_right C 24) (Nat.le_add_right S 1518) ?_
  exact K _ _ _ _ _ _ _ _ _ _ _ _ hr2 _ _ hP hD hS ls hl
set_option maxHeartbeats 4000000 in
set_option maxRecDepth 100000 in
theorem law_15 {p : Program} {l : Launch} {e : Env} {s0 : State} {m : MethodId} {below : List Frame} {meth : Method} {c : Code} {sb L : Nat} {xs : Nat → Int32} {D : va_G} {Y : Nat → ClassId} {Q : State → Prop} {ad av w a b d rb : Nat → Nat} (X0 : lwH p s0 m meth c sb L xs D Y ad av) {i : Nat} (hi : i + 5 ≤ L) (hL : L ≤ 2560) {C S : Nat} (hC : C + 24 ≤ 600000) (hS1 : S + 1518 ≤ 7302249) (K : lwK p l e s0 m below meth c sb Y D Q w a b d rb i (C + 24) (S + 1518)) {M N : kN} {F : kFm} {o z : Nat} {P : Nat → Int32} {n t : Nat} {kd : Int32} {V : Nat → Int32} {vc : Nat} {R : kN} (hrel : kRel M F o z P n vc R) (H : Heap) (locs : List Loc) (hP : va_P D vwCl (wR Y rb R ++ wC Y w a b d M N F o z P n t kd V vc) H) (hD : va_D (fun q => s0.heap.size ≤ q) (wR Y rb R ++ wC Y w a b d M N F o z P n t kd V vc)) (hS : va_S (fun q => s0.heap.size ≤ q) s0.heap H locs) (ls : Array Slot) (hl : lv_has ls 4 [(3, .int (nI i)), (2, .ref (rb 0)), (1, .ref (w 0)), (0, .ref sb)]) : W p l e room_1 s0 m #[Value.ref sb] below meth c H locs C S Q (F0 m 596 ls []) := by
  obtain ⟨hx, hb, hr, hml, hown, hta, hX, hbl, hK, hNs, hE⟩ := X0
  have hA : ∀ q : Nat, s0.heap.size ≤ q → (fun q : Nat => s0.heap.size ≤ q) q := fun _ h => h
  have hbA : ¬ (fun q : Nat => s0.heap.size ≤ q) sb := Nat.not_le.mpr hbl
  have hX0 : kX s0.heap.size ad av s0.heap.size s0 := ⟨Nat.le_refl _, hE⟩
  have hI := kSim_I hrel.1.1 hrel.1.2.1
  have ho := hrel.2.2.1.2.2
  have hz := hrel.2.2.1.2.1
  have h80 := hrel.2.1.2.1
  have hv := hrel.2.1.2.2.2.1
  have hC2 := hrel.2.1.2.2.2.2
  have hC0 : C ≤ 600000 := by omega
  have hS0 : S ≤ 7302249 := by omega
  have hB : ∀ c ∈ (wC Y w a b d M N F o z P n t kd V vc).map (·.1), s0.heap.size ≤ c := lw_B (kD_r hD)
  have hCx : C ≤ 600000 := hC0
  have hSx : S ≤ 7302249 := hS0
  refine lv_aload_n hx hb dL_law_596 rfl (lv_at hl 2 rfl) ?_
  refine lv_aload_n hx hb dL_law_597 rfl (lv_at hl 3 rfl) ?_
  refine lv_iload_n hx hb dL_law_598 rfl (lv_at hl 0 rfl) ?_
  refine lv_iconst (v := 1) hx hb dL_law_599 (by decide) ?_
  refine lv_iadd hx hb dL_law_600 ?_
  refine kTop (nI_add i 1) ?_
  refine va_sld hx hb hX hbl hbA hS (vp_in_nI (by omega) (by omega)) dL_law_601 ?_
  refine kTop (y := xs (i + 1)) (congrArg xs (nI_clamp (by omega))) ?_
  refine lv_aload_n hx hb dL_law_602 rfl (lv_at hl 3 rfl) ?_
  refine lv_iload_n hx hb dL_law_603 rfl (lv_at hl 0 rfl) ?_
  refine lv_iconst (v := 2) hx hb dL_law_604 (by decide) ?_
  refine lv_iadd hx hb dL_law_605 ?_
  refine kTop (nI_add i 2) ?_
  refine va_sld hx hb hX hbl hbA hS (vp_in_nI (by omega) (by omega)) dL_law_606 ?_
  refine kTop (y := xs (i + 2)) (congrArg xs (nI_clamp (by omega))) ?_
  refine kc_i (krV (As := [.int (xs (i + 1)), .int (xs (i + 2))]) (rest := []) (c_X7_stopCosts l D Y w a b d M N F o z P n t kd V vc (xs (i + 1)) (xs (i + 2)) (R 0) hrel.1) ⟨hx, hb, hml, hown, hta⟩ (cwL_79 hta ⟨Nat.le_of_ble_eq_true rfl, Nat.le_of_ble_eq_true rfl⟩) kX0b (fun _ _ _ => trivial) hK hNs hP hD (kJ_right) (q0 := 0) rfl rfl rfl rfl hl.1 rfl (Nat.le_of_ble_eq_true rfl) dL_law_607 ⟨hC0, hS0⟩) hP hD hS hA (kJ_right) (fun _ => rfl) (fun r2 u1 H locs hw hP hD hS => ?_)
  have hw := hw
  have e1 := hw
  have hP : va_P D vwCl (wR Y rb R ++ wC Y w a b d M u1 F o z P n t kd V vc) H := hP
  have hD : va_D (fun q => s0.heap.size ≤ q) (wR Y rb R ++ wC Y w a b d M u1 F o z P n t kd V vc) := hD
  refine lv_aload_n hx hb dL_law_610 rfl (lv_at hl 1 rfl) ?_
  refine lv_aload_n hx hb dL_law_611 rfl (lv_at hl 3 rfl) ?_
  refine lv_iload_n hx hb dL_law_612 rfl (lv_at hl 0 rfl) ?_
  refine lv_iconst (v := 1) hx hb dL_law_613 (by decide) ?_
  refine lv_iadd hx hb dL_law_614 ?_
  refine kTop (nI_add i 1) ?_
  refine va_sld hx hb hX hbl hbA hS (vp_in_nI (by omega) (by omega)) dL_law_615 ?_
  refine kTop (y := xs (i + 1)) (congrArg xs (nI_clamp (by omega))) ?_
  refine lv_aload_n hx hb dL_law_616 rfl (lv_at hl 3 rfl) ?_
  refine lv_iload_n hx hb dL_law_617 rfl (lv_at hl 0 rfl) ?_
  refine lv_iconst (v := 2) hx hb dL_law_618 (by decide) ?_
  refine lv_iadd hx hb dL_law_619 ?_
  refine kTop (nI_add i 2) ?_
  refine va_sld hx hb hX hbl hbA hS (vp_in_nI (by omega) (by omega)) dL_law_620 ?_
  refine kTop (y := xs (i + 2)) (congrArg xs (nI_clamp (by omega))) ?_
  refine kc_i (krV (As := [.int (xs (i + 1)), .int (xs (i + 2))]) (rest := [.int r2]) (c_X8_stopCosts l D Y rb R (xs (i + 1)) (xs (i + 2)) hrel.1.2.1 hrel.1.2.2.1) ⟨hx, hb, hml, hown, hta⟩ (cwL_82 hta ⟨Nat.le_of_ble_eq_true rfl, Nat.le_of_ble_eq_true rfl⟩) kX0b (fun _ _ _ => trivial) hK hNs hP hD (kJ_l) (q0 := 0) rfl rfl rfl rfl hl.1 rfl (Nat.le_of_ble_eq_true rfl) dL_law_621 ⟨hCx, hSx⟩) hP hD hS hA (kJ_l) (fun _ => rfl) (fun r4 v3 H locs hw hP hD hS => ?_)
  obtain ⟨rfl, T9, rfl⟩ := hw
  have hr2 := kC_then (T := T9) hrel
  have hP : va_P D vwCl (wR Y rb (sR R 1 T9) ++ wC Y w a b d M u1 F o z P n t kd V vc) H := hP
  have hD : va_D (fun q => s0.heap.size ≤ q) (wR Y rb (sR R 1 T9) ++ wC Y w a b d M u1 F o z P n t kd V vc) := hD
  refine lv_icmp_eq (tgt := 780) hx hb dL_law_624 (by decide) (fun _ => ?_) (fun h => absurd e1 h)
  refine W.widen (k := C + 24) (n := S + 1518) (Nat.le_add_right C 24) (Nat.le_add_right S 1518) ?_
  exact K _ _ _ _ _ _ _ _ _ _ _ _ hr2 _ _ hP hD hS ls hl
set_option maxHeartbeats 4000000 in
set_option maxRecDepth 100000 in
theorem law_16 {p : Program} {l : Launch} {e : Env} {s0 : State} {m : MethodId} {below : List Frame} {meth : Method} {c : Code} {sb L : Nat} {xs : Nat → Int32} {D : va_G} {Y : Nat → ClassId} {Q : State → Prop} {ad av w a b d rb : Nat → Nat} (X0 : lwH p s0 m meth c sb L xs D Y ad av) {i : Nat} (hi : i + 5 ≤ L) (hL : L ≤ 2560) {C S : Nat} (hC : C + 24 ≤ 600000) (hS1 : S + 1518 ≤ 7302249) (K : lwK p l e s0 m below meth c sb Y D Q w a b d rb i (C + 24) (S + 1518)) {M N : kN} {F : kFm} {o z : Nat} {P : Nat → Int32} {n t : Nat} {kd : Int32} {V : Nat → Int32} {vc : Nat} {R : kN} (hrel : kRel M F o z P n vc R) (H : Heap) (locs : List Loc) (hP : va_P D vwCl (wR Y rb R ++ wC Y w a b d M N F o z P n t kd V vc) H) (hD : va_D (fun q => s0.heap.size ≤ q) (wR Y rb R ++ wC Y w a b d M N F o z P n t kd V vc)) (hS : va_S (fun q => s0.heap.size ≤ q) s0.heap H locs) (ls : Array Slot) (hl : lv_has ls 4 [(3, .int (nI i)), (2, .ref (rb 0)), (1, .ref (w 0)), (0, .ref sb)]) : W p l e room_1 s0 m #[Value.ref sb] below meth c H locs C S Q (F0 m 629 ls []) := by
  obtain ⟨hx, hb, hr, hml, hown, hta, hX, hbl, hK, hNs, hE⟩ := X0
  have hA : ∀ q : Nat, s0.heap.size ≤ q → (fun q : Nat => s0.heap.size ≤ q) q := fun _ h => h
  have hbA : ¬ (fun q : Nat => s0.heap.size ≤ q) sb := Nat.not_le.mpr hbl
  have hX0 : kX s0.heap.size ad av s0.heap.size s0 := ⟨Nat.le_refl _, hE⟩
  have hI := kSim_I hrel.1.1 hrel.1.2.1
  have ho := hrel.2.2.1.2.2
  have hz := hrel.2.2.1.2.1
  have h80 := hrel.2.1.2.1
  have hv := hrel.2.1.2.2.2.1
  have hC2 := hrel.2.1.2.2.2.2
  have hC0 : C ≤ 600000 := by omega
  have hS0 : S ≤ 7302249 := by omega
  have hB : ∀ c ∈ (wC Y w a b d M N F o z P n t kd V vc).map (·.1), s0.heap.size ≤ c := lw_B (kD_r hD)
  have hCx : C ≤ 600000 := hC0
  have hSx : S ≤ 7302249 := hS0
  refine lv_aload_n hx hb dL_law_629 rfl (lv_at hl 2 rfl) ?_
  refine lv_aload_n hx hb dL_law_630 rfl (lv_at hl 3 rfl) ?_
  refine lv_iload_n hx hb dL_law_631 rfl (lv_at hl 0 rfl) ?_
  refine lv_iconst (v := 1) hx hb dL_law_632 (by decide) ?_
  refine lv_iadd hx hb dL_law_633 ?_
  refine kTop (nI_add i 1) ?_
  refine va_sld hx hb hX hbl hbA hS (vp_in_nI (by omega) (by omega)) dL_law_634 ?_
  refine kTop (y := xs (i + 1)) (congrArg xs (nI_clamp (by omega))) ?_
  refine lv_i2l (v := (xs (i + 1)).toInt64) hx hb dL_law_635 rfl ?_
  refine lv_bipush (v := 32) hx hb dL_law_636 (by decide) ?_
  refine lv_lshl (v := ((xs (i + 1)).toInt64) <<< ((32 : Int32).toInt64 &&& 63)) hx hb dL_law_638 rfl ?_
  refine lv_aload_n hx hb dL_law_639 rfl (lv_at hl 3 rfl) ?_
  refine lv_iload_n hx hb dL_law_640 rfl (lv_at hl 0 rfl) ?_
  refine lv_iconst (v := 2) hx hb dL_law_641 (by decide) ?_
  refine lv_iadd hx hb dL_law_642 ?_
  refine kTop (nI_add i 2) ?_
  refine va_sld hx hb hX hbl hbA hS (vp_in_nI (by omega) (by omega)) dL_law_643 ?_
  refine kTop (y := xs (i + 2)) (congrArg xs (nI_clamp (by omega))) ?_
  refine lv_i2l (v := (xs (i + 2)).toInt64) hx hb dL_law_644 rfl ?_
  refine lv_ldc2 hx hb hown (hta _ al_16) dL_law_645 ?_
  refine lv_land hx hb dL_law_648 ?_
  refine lv_lor hx hb dL_law_649 ?_
  refine kc_i (krV (As := [.long ((((xs (i + 1)).toInt64) <<< ((32 : Int32).toInt64 &&& 63)) ||| (((xs (i + 2)).toInt64) &&& 4294967295))]) (rest := []) (c_X7_put l D Y w a b d M N F o z P n t kd V vc ((((xs (i + 1)).toInt64) <<< ((32 : Int32).toInt64 &&& 63)) ||| (((xs (i + 2)).toInt64) &&& 4294967295)) h80) ⟨hx, hb, hml, hown, hta⟩ (cwL_85 hta ⟨Nat.le_of_ble_eq_true rfl, Nat.le_of_ble_eq_true rfl⟩) kX0b (fun _ _ _ => trivial) hK hNs hP hD (kJ_right) (q0 := 0) rfl rfl rfl rfl hl.1 rfl (Nat.le_of_ble_eq_true rfl) dL_law_650 ⟨hC0, hS0⟩) hP hD hS hA (kJ_right) (fun _ => rfl) (fun r2 u1 H locs hw hP hD hS => ?_)
  have hw := hw
  obtain ⟨e0, rfl⟩ := hw
  have hr1 := kRel_put hrel ((((xs (i + 1)).toInt64) <<< ((32 : Int32).toInt64 &&& 63)) ||| (((xs (i + 2)).toInt64) &&& 4294967295))
  have e1 := e0.trans hr1.1
  have hr2 := hr1.2
  have hP : va_P D vwCl (wR Y rb R ++ wC Y w a b d M N F o z ((cApp P n ((((xs (i + 1)).toInt64) <<< ((32 : Int32).toInt64 &&& 63)) ||| (((xs (i + 2)).toInt64) &&& 4294967295))).2.1) ((cApp P n ((((xs (i + 1)).toInt64) <<< ((32 : Int32).toInt64 &&& 63)) ||| (((xs (i + 2)).toInt64) &&& 4294967295))).2.2) t kd V vc) H := hP
  have hD : va_D (fun q => s0.heap.size ≤ q) (wR Y rb R ++ wC Y w a b d M N F o z ((cApp P n ((((xs (i + 1)).toInt64) <<< ((32 : Int32).toInt64 &&& 63)) ||| (((xs (i + 2)).toInt64) &&& 4294967295))).2.1) ((cApp P n ((((xs (i + 1)).toInt64) <<< ((32 : Int32).toInt64 &&& 63)) ||| (((xs (i + 2)).toInt64) &&& 4294967295))).2.2) t kd V vc) := hD
  refine lv_aload_n hx hb dL_law_653 rfl (lv_at hl 1 rfl) ?_
  refine lv_aload_n hx hb dL_law_654 rfl (lv_at hl 3 rfl) ?_
  refine lv_iload_n hx hb dL_law_655 rfl (lv_at hl 0 rfl) ?_
  refine lv_iconst (v := 1) hx hb dL_law_656 (by decide) ?_
  refine lv_iadd hx hb dL_law_657 ?_
  refine kTop (nI_add i 1) ?_
  refine va_sld hx hb hX hbl hbA hS (vp_in_nI (by omega) (by omega)) dL_law_658 ?_
  refine kTop (y := xs (i + 1)) (congrArg xs (nI_clamp (by omega))) ?_
  refine lv_i2l (v := (xs (i + 1)).toInt64) hx hb dL_law_659 rfl ?_
  refine lv_bipush (v := 32) hx hb dL_law_660 (by decide) ?_
  refine lv_lshl (v := ((xs (i + 1)).toInt64) <<< ((32 : Int32).toInt64 &&& 63)) hx hb dL_law_662 rfl ?_
  refine lv_aload_n hx hb dL_law_663 rfl (lv_at hl 3 rfl) ?_
  refine lv_iload_n hx hb dL_law_664 rfl (lv_at hl 0 rfl) ?_
  refine lv_iconst (v := 2) hx hb dL_law_665 (by decide) ?_
  refine lv_iadd hx hb dL_law_666 ?_
  refine kTop (nI_add i 2) ?_
  refine va_sld hx hb hX hbl hbA hS (vp_in_nI (by omega) (by omega)) dL_law_667 ?_
  refine kTop (y := xs (i + 2)) (congrArg xs (nI_clamp (by omega))) ?_
  refine lv_i2l (v := (xs (i + 2)).toInt64) hx hb dL_law_668 rfl ?_
  refine lv_ldc2 hx hb hown (hta _ al_16) dL_law_669 ?_
  refine lv_land hx hb dL_law_672 ?_
  refine lv_lor hx hb dL_law_673 ?_
  refine kc_i (krV (As := [.long ((((xs (i + 1)).toInt64) <<< ((32 : Int32).toInt64 &&& 63)) ||| (((xs (i + 2)).toInt64) &&& 4294967295))]) (rest := [.int r2]) (c_X8_put l D Y rb R ((((xs (i + 1)).toInt64) <<< ((32 : Int32).toInt64 &&& 63)) ||| (((xs (i + 2)).toInt64) &&& 4294967295)) (kRel_hn hrel).1 (kRel_hn hrel).2) ⟨hx, hb, hml, hown, hta⟩ (cwL_89 hta ⟨Nat.le_of_ble_eq_true rfl, Nat.le_of_ble_eq_true rfl⟩) kX0b (fun _ _ _ => trivial) hK hNs hP hD (kJ_l) (q0 := 0) rfl rfl rfl rfl hl.1 rfl (Nat.le_of_ble_eq_true rfl) dL_law_674 ⟨hCx, hSx⟩) hP hD hS hA (kJ_l) (fun _ => rfl) (fun r4 v3 H locs hw hP hD hS => ?_)
  obtain ⟨rfl, rfl⟩ := hw
  have hP : va_P D vwCl (wR Y rb ((mPut R ((((xs (i + 1)).toInt64) <<< ((32 : Int32).toInt64 &&& 63)) ||| (((xs (i + 2)).toInt64) &&& 4294967295))).2) ++ wC Y w a b d M N F o z ((cApp P n ((((xs (i + 1)).toInt64) <<< ((32 : Int32).toInt64 &&& 63)) ||| (((xs (i + 2)).toInt64) &&& 4294967295))).2.1) ((cApp P n ((((xs (i + 1)).toInt64) <<< ((32 : Int32).toInt64 &&& 63)) ||| (((xs (i + 2)).toInt64) &&& 4294967295))).2.2) t kd V vc) H := hP
  have hD : va_D (fun q => s0.heap.size ≤ q) (wR Y rb ((mPut R ((((xs (i + 1)).toInt64) <<< ((32 : Int32).toInt64 &&& 63)) ||| (((xs (i + 2)).toInt64) &&& 4294967295))).2) ++ wC Y w a b d M N F o z ((cApp P n ((((xs (i + 1)).toInt64) <<< ((32 : Int32).toInt64 &&& 63)) ||| (((xs (i + 2)).toInt64) &&& 4294967295))).2.1) ((cApp P n ((((xs (i + 1)).toInt64) <<< ((32 : Int32).toInt64 &&& 63)) ||| (((xs (i + 2)).toInt64) &&& 4294967295))).2.2) t kd V vc) := hD
  refine lv_icmp_eq (tgt := 780) hx hb dL_law_677 (by decide) (fun _ => ?_) (fun h => absurd e1 h)
  refine W.widen (k := C + 24) (n := S + 1518) (Nat.le_add_right C 24) (Nat.le_add_right S 1518) ?_
  exact K _ _ _ _ _ _ _ _ _ _ _ _ hr2 _ _ hP hD hS ls hl
set_option maxHeartbeats 4000000 in
set_option maxRecDepth 100000 in
theorem law_17 {p : Program} {l : Launch} {e : Env} {s0 : State} {m : MethodId} {below : List Frame} {meth : Method} {c : Code} {sb L : Nat} {xs : Nat → Int32} {D : va_G} {Y : Nat → ClassId} {Q : State → Prop} {ad av w a b d rb : Nat → Nat} (X0 : lwH p s0 m meth c sb L xs D Y ad av) {i : Nat} (hi : i + 5 ≤ L) (hL : L ≤ 2560) {C S : Nat} (hC : C + 24 ≤ 600000) (hS1 : S + 1518 ≤ 7302249) (K : lwK p l e s0 m below meth c sb Y D Q w a b d rb i (C + 24) (S + 1518)) {M N : kN} {F : kFm} {o z : Nat} {P : Nat → Int32} {n t : Nat} {kd : Int32} {V : Nat → Int32} {vc : Nat} {R : kN} (hrel : kRel M F o z P n vc R) (H : Heap) (locs : List Loc) (hP : va_P D vwCl (wR Y rb R ++ wC Y w a b d M N F o z P n t kd V vc) H) (hD : va_D (fun q => s0.heap.size ≤ q) (wR Y rb R ++ wC Y w a b d M N F o z P n t kd V vc)) (hS : va_S (fun q => s0.heap.size ≤ q) s0.heap H locs) (ls : Array Slot) (hl : lv_has ls 4 [(3, .int (nI i)), (2, .ref (rb 0)), (1, .ref (w 0)), (0, .ref sb)]) : W p l e room_1 s0 m #[Value.ref sb] below meth c H locs C S Q (F0 m 682 ls []) := by
  obtain ⟨hx, hb, hr, hml, hown, hta, hX, hbl, hK, hNs, hE⟩ := X0
  have hA : ∀ q : Nat, s0.heap.size ≤ q → (fun q : Nat => s0.heap.size ≤ q) q := fun _ h => h
  have hbA : ¬ (fun q : Nat => s0.heap.size ≤ q) sb := Nat.not_le.mpr hbl
  have hX0 : kX s0.heap.size ad av s0.heap.size s0 := ⟨Nat.le_refl _, hE⟩
  have hI := kSim_I hrel.1.1 hrel.1.2.1
  have ho := hrel.2.2.1.2.2
  have hz := hrel.2.2.1.2.1
  have h80 := hrel.2.1.2.1
  have hv := hrel.2.1.2.2.2.1
  have hC2 := hrel.2.1.2.2.2.2
  have hC0 : C ≤ 600000 := by omega
  have hS0 : S ≤ 7302249 := by omega
  have hB : ∀ c ∈ (wC Y w a b d M N F o z P n t kd V vc).map (·.1), s0.heap.size ≤ c := lw_B (kD_r hD)
  have hCx : C ≤ 600000 := hC0
  have hSx : S ≤ 7302249 := hS0
  refine lv_aload_n hx hb dL_law_682 rfl (lv_at hl 2 rfl) ?_
  refine kc_i (krV (As := []) (rest := []) (c_X7_wipe l D Y w a b d M N F o z P n t kd V vc ) ⟨hx, hb, hml, hown, hta⟩ (cwL_90 hta ⟨Nat.le_of_ble_eq_true rfl, Nat.le_of_ble_eq_true rfl⟩) kX0b (fun _ _ _ => trivial) hK hNs hP hD (kJ_right) (q0 := 0) rfl rfl rfl rfl hl.1 rfl (Nat.le_of_ble_eq_true rfl) dL_law_683 ⟨hC0, hS0⟩) hP hD hS hA (kJ_right) (fun _ => rfl) (fun r2 u1 H locs hw hP hD hS => ?_)
  have hw := hw
  have hr1 := kRel_wipe hrel
  have e1 := hw.trans hr1.1
  have hr2 := hr1.2
  have hP : va_P D vwCl (wR Y rb R ++ wC Y w a b d M N F o z P 0 t kd V vc) H := hP
  have hD : va_D (fun q => s0.heap.size ≤ q) (wR Y rb R ++ wC Y w a b d M N F o z P 0 t kd V vc) := hD
  refine lv_aload_n hx hb dL_law_686 rfl (lv_at hl 1 rfl) ?_
  refine kc_i (krV (As := []) (rest := [.int r2]) (c_X8_wipe l D Y rb R ) ⟨hx, hb, hml, hown, hta⟩ (cwL_93 hta ⟨Nat.le_of_ble_eq_true rfl, Nat.le_of_ble_eq_true rfl⟩) kX0b (fun _ _ _ => trivial) hK hNs hP hD (kJ_l) (q0 := 0) rfl rfl rfl rfl hl.1 rfl (Nat.le_of_ble_eq_true rfl) dL_law_687 ⟨hCx, hSx⟩) hP hD hS hA (kJ_l) (fun _ => rfl) (fun r4 v3 H locs hw hP hD hS => ?_)
  obtain ⟨rfl, rfl⟩ := hw
  have hP : va_P D vwCl (wR Y rb (sM R 7 1 0) ++ wC Y w a b d M N F o z P 0 t kd V vc) H := hP
  have hD : va_D (fun q => s0.heap.size ≤ q) (wR Y rb (sM R 7 1 0) ++ wC Y w a b d M N F o z P 0 t kd V vc) := hD
  refine lv_icmp_eq (tgt := 780) hx hb dL_law_690 (by decide) (fun _ => ?_) (fun h => absurd e1 h)
  refine W.widen (k := C + 24) (n := S + 1518) (Nat.le_add_right C 24) (Nat.le_add_right S 1518) ?_
  exact K _ _ _ _ _ _ _ _ _ _ _ _ hr2 _ _ hP hD hS ls hl
set_option maxHeartbeats 4000000 in
set_option maxRecDepth 100000 in
theorem law_18 {p : Program} {l : Launch} {e : Env} {s0 : State} {m : MethodId} {below : List Frame} {meth : Method} {c : Code} {sb L : Nat} {xs : Nat → Int32} {D : va_G} {Y : Nat → ClassId} {Q : State → Prop} {ad av w a b d rb : Nat → Nat} (X0 : lwH p s0 m meth c sb L xs D Y ad av) {i : Nat} (hi : i + 5 ≤ L) (hL : L ≤ 2560) {C S : Nat} (hC : C + 24 ≤ 600000) (hS1 : S + 1518 ≤ 7302249) (K : lwK p l e s0 m below meth c sb Y D Q w a b d rb i (C + 24) (S + 1518)) {M N : kN} {F : kFm} {o z : Nat} {P : Nat → Int32} {n t : Nat} {kd : Int32} {V : Nat → Int32} {vc : Nat} {R : kN} (hrel : kRel M F o z P n vc R) (H : Heap) (locs : List Loc) (hP : va_P D vwCl (wR Y rb R ++ wC Y w a b d M N F o z P n t kd V vc) H) (hD : va_D (fun q => s0.heap.size ≤ q) (wR Y rb R ++ wC Y w a b d M N F o z P n t kd V vc)) (hS : va_S (fun q => s0.heap.size ≤ q) s0.heap H locs) (ls : Array Slot) (hl : lv_has ls 4 [(3, .int (nI i)), (2, .ref (rb 0)), (1, .ref (w 0)), (0, .ref sb)]) : W p l e room_1 s0 m #[Value.ref sb] below meth c H locs C S Q (F0 m 695 ls []) := by
  obtain ⟨hx, hb, hr, hml, hown, hta, hX, hbl, hK, hNs, hE⟩ := X0
  have hA : ∀ q : Nat, s0.heap.size ≤ q → (fun q : Nat => s0.heap.size ≤ q) q := fun _ h => h
  have hbA : ¬ (fun q : Nat => s0.heap.size ≤ q) sb := Nat.not_le.mpr hbl
  have hX0 : kX s0.heap.size ad av s0.heap.size s0 := ⟨Nat.le_refl _, hE⟩
  have hI := kSim_I hrel.1.1 hrel.1.2.1
  have ho := hrel.2.2.1.2.2
  have hz := hrel.2.2.1.2.1
  have h80 := hrel.2.1.2.1
  have hv := hrel.2.1.2.2.2.1
  have hC2 := hrel.2.1.2.2.2.2
  have hC0 : C ≤ 600000 := by omega
  have hS0 : S ≤ 7302249 := by omega
  have hB : ∀ c ∈ (wC Y w a b d M N F o z P n t kd V vc).map (·.1), s0.heap.size ≤ c := lw_B (kD_r hD)
  have hCx : C ≤ 600000 := hC0
  have hSx : S ≤ 7302249 := hS0
  refine lv_aload_n hx hb dL_law_695 rfl (lv_at hl 2 rfl) ?_
  refine kc_i (krV (As := []) (rest := []) (c_X7_fault l D Y w a b d M N F o z P n t kd V vc s0.heap.size ad av h80 hv hC2 hB) ⟨hx, hb, hml, hown, hta⟩ (cwL_94 hta ⟨Nat.le_of_ble_eq_true rfl, Nat.le_of_ble_eq_true rfl⟩) kXb_E (kX_go hX0 hS (fun q h => h)) hK hNs hP hD (kJ_right) (q0 := 0) rfl rfl rfl rfl hl.1 rfl (Nat.le_of_ble_eq_true rfl) dL_law_696 ⟨hC0, hS0⟩) hP hD hS hA (kJ_right) (fun _ => rfl) (fun r2 u1 H locs hw hP hD hS => ?_)
  have hw := hw
  obtain ⟨e0, rfl⟩ := hw
  have hr1 := kRel_fault (kd := kd) (V := V) hrel
  have e1 := e0.trans hr1.1
  have hr2 := hr1.2
  have hP : va_P D vwCl (wR Y rb R ++ wC Y w a b d M N F o z P n ((cFa P n 80 (0, kd, V, vc)).2.1) ((cFa P n 80 (0, kd, V, vc)).2.2.1) ((cFa P n 80 (0, kd, V, vc)).2.2.2.1) ((cFa P n 80 (0, kd, V, vc)).2.2.2.2)) H := hP
  have hD : va_D (fun q => s0.heap.size ≤ q) (wR Y rb R ++ wC Y w a b d M N F o z P n ((cFa P n 80 (0, kd, V, vc)).2.1) ((cFa P n 80 (0, kd, V, vc)).2.2.1) ((cFa P n 80 (0, kd, V, vc)).2.2.2.1) ((cFa P n 80 (0, kd, V, vc)).2.2.2.2)) := hD
  refine lv_aload_n hx hb dL_law_699 rfl (lv_at hl 1 rfl) ?_
  refine kc_i (krV (As := []) (rest := [.int r2]) (c_X8_fault l D Y rb R (kRel_hn hrel).1 (kRel_hn hrel).2) ⟨hx, hb, hml, hown, hta⟩ (cwL_97 hta ⟨Nat.le_of_ble_eq_true rfl, Nat.le_of_ble_eq_true rfl⟩) kX0b (fun _ _ _ => trivial) hK hNs hP hD (kJ_l) (q0 := 0) rfl rfl rfl rfl hl.1 rfl (Nat.le_of_ble_eq_true rfl) dL_law_700 ⟨hCx, hSx⟩) hP hD hS hA (kJ_l) (fun _ => rfl) (fun r4 v3 H locs hw hP hD hS => ?_)
  subst hw
  have hP : va_P D vwCl (wR Y rb (pWr R (mText R).2.1 (mText R).2.2.1 (mText R).2.2.2) ++ wC Y w a b d M N F o z P n ((cFa P n 80 (0, kd, V, vc)).2.1) ((cFa P n 80 (0, kd, V, vc)).2.2.1) ((cFa P n 80 (0, kd, V, vc)).2.2.2.1) ((cFa P n 80 (0, kd, V, vc)).2.2.2.2)) H := hP
  have hD : va_D (fun q => s0.heap.size ≤ q) (wR Y rb (pWr R (mText R).2.1 (mText R).2.2.1 (mText R).2.2.2) ++ wC Y w a b d M N F o z P n ((cFa P n 80 (0, kd, V, vc)).2.1) ((cFa P n 80 (0, kd, V, vc)).2.2.1) ((cFa P n 80 (0, kd, V, vc)).2.2.2.1) ((cFa P n 80 (0, kd, V, vc)).2.2.2.2)) := hD
  refine lv_icmp_eq (tgt := 780) hx hb dL_law_703 (by decide) (fun _ => ?_) (fun h => absurd e1 h)
  refine W.widen (k := C + 24) (n := S + 1518) (Nat.le_add_right C 24) (Nat.le_add_right S 1518) ?_
  exact K _ _ _ _ _ _ _ _ _ _ _ _ hr2 _ _ hP hD hS ls hl
set_option maxHeartbeats 4000000 in
set_option maxRecDepth 100000 in
theorem law_19 {p : Program} {l : Launch} {e : Env} {s0 : State} {m : MethodId} {below : List Frame} {meth : Method} {c : Code} {sb L : Nat} {xs : Nat → Int32} {D : va_G} {Y : Nat → ClassId} {Q : State → Prop} {ad av w a b d rb : Nat → Nat} (X0 : lwH p s0 m meth c sb L xs D Y ad av) {i : Nat} (hi : i + 5 ≤ L) (hL : L ≤ 2560) {C S : Nat} (hC : C + 24 ≤ 600000) (hS1 : S + 1518 ≤ 7302249) (K : lwK p l e s0 m below meth c sb Y D Q w a b d rb i (C + 24) (S + 1518)) {M N : kN} {F : kFm} {o z : Nat} {P : Nat → Int32} {n t : Nat} {kd : Int32} {V : Nat → Int32} {vc : Nat} {R : kN} (hrel : kRel M F o z P n vc R) (H : Heap) (locs : List Loc) (hP : va_P D vwCl (wR Y rb R ++ wC Y w a b d M N F o z P n t kd V vc) H) (hD : va_D (fun q => s0.heap.size ≤ q) (wR Y rb R ++ wC Y w a b d M N F o z P n t kd V vc)) (hS : va_S (fun q => s0.heap.size ≤ q) s0.heap H locs) (ls : Array Slot) (hl : lv_has ls 4 [(3, .int (nI i)), (2, .ref (rb 0)), (1, .ref (w 0)), (0, .ref sb)]) : W p l e room_1 s0 m #[Value.ref sb] below meth c H locs C S Q (F0 m 708 ls []) := by
  obtain ⟨hx, hb, hr, hml, hown, hta, hX, hbl, hK, hNs, hE⟩ := X0
  have hA : ∀ q : Nat, s0.heap.size ≤ q → (fun q : Nat => s0.heap.size ≤ q) q := fun _ h => h
  have hbA : ¬ (fun q : Nat => s0.heap.size ≤ q) sb := Nat.not_le.mpr hbl
  have hX0 : kX s0.heap.size ad av s0.heap.size s0 := ⟨Nat.le_refl _, hE⟩
  have hI := kSim_I hrel.1.1 hrel.1.2.1
  have ho := hrel.2.2.1.2.2
  have hz := hrel.2.2.1.2.1
  have h80 := hrel.2.1.2.1
  have hv := hrel.2.1.2.2.2.1
  have hC2 := hrel.2.1.2.2.2.2
  have hC0 : C ≤ 600000 := by omega
  have hS0 : S ≤ 7302249 := by omega
  have hB : ∀ c ∈ (wC Y w a b d M N F o z P n t kd V vc).map (·.1), s0.heap.size ≤ c := lw_B (kD_r hD)
  have hCx : C + 24 ≤ 600000 := hC
  have hSx : S + 1518 ≤ 7302249 := hS1
  refine lv_aload_n hx hb dL_law_708 rfl (lv_at hl 2 rfl) ?_
  refine kc_in (krV (As := []) (rest := []) (c_X7_carryOut l D Y w a b d M N F o z P n t kd V vc s0.heap.size ad av hI ho hz h80 hv hC2 hB) ⟨hx, hb, hml, hown, hta⟩ (cwL_98 hta ⟨Nat.le_of_ble_eq_true rfl, Nat.le_of_ble_eq_true rfl⟩) kXb_E (kX_go hX0 hS (fun q h => h)) hK hNs hP hD (kJ_right) (q0 := 0) rfl rfl rfl rfl hl.1 rfl (Nat.le_of_ble_eq_true rfl) dL_law_709 ⟨hC, hS1⟩) hP hD hS hA (kJn_r) (fun r2 u1 H locs hw hP hD hS => ?_)
  have hw := hw
  obtain ⟨e1, hr2⟩ := kRel_carry hrel hw
  have hP : va_P D vwCl (wR Y rb R ++ wC Y w a b d u1.1.1 N u1.1.2.1 u1.1.2.2.1 u1.1.2.2.2 P u1.2.2 u1.2.1.1 u1.2.1.2.1 u1.2.1.2.2.1 u1.2.1.2.2.2) H := hP
  have hD : va_D (fun q => s0.heap.size ≤ q) (wR Y rb R ++ wC Y w a b d u1.1.1 N u1.1.2.1 u1.1.2.2.1 u1.1.2.2.2 P u1.2.2 u1.2.1.1 u1.2.1.2.1 u1.2.1.2.2.1 u1.2.1.2.2.2) := hD
  refine lv_aload_n hx hb dL_law_712 rfl (lv_at hl 1 rfl) ?_
  refine kc_i (krV (As := []) (rest := [.int r2]) (c_X8_carryOut l D Y rb R (kRel_hn hrel).1 (kRel_hn hrel).2 hrel.1.2.1 hrel.1.2.2.1 (kRel_hk hrel)) ⟨hx, hb, hml, hown, hta⟩ (cwL_101 hta ⟨Nat.le_of_ble_eq_true rfl, Nat.le_of_ble_eq_true rfl⟩) kX0b (fun _ _ _ => trivial) hK hNs hP hD (kJ_l) (q0 := 0) rfl rfl rfl rfl hl.1 rfl (Nat.le_of_ble_eq_true rfl) dL_law_713 ⟨hCx, hSx⟩) hP hD hS hA (kJ_l) (fun _ => rfl) (fun r4 v3 H locs hw hP hD hS => ?_)
  obtain ⟨rfl, rfl⟩ := hw
  have hP : va_P D vwCl (wR Y rb ((mCarry R).2) ++ wC Y w a b d u1.1.1 N u1.1.2.1 u1.1.2.2.1 u1.1.2.2.2 P u1.2.2 u1.2.1.1 u1.2.1.2.1 u1.2.1.2.2.1 u1.2.1.2.2.2) H := hP
  have hD : va_D (fun q => s0.heap.size ≤ q) (wR Y rb ((mCarry R).2) ++ wC Y w a b d u1.1.1 N u1.1.2.1 u1.1.2.2.1 u1.1.2.2.2 P u1.2.2 u1.2.1.1 u1.2.1.2.1 u1.2.1.2.2.1 u1.2.1.2.2.2) := hD
  refine lv_icmp_eq (tgt := 780) hx hb dL_law_716 (by decide) (fun _ => ?_) (fun h => absurd e1 h)
  refine W.widen (k := C + 24) (n := S + 1518) (Nat.le_refl (C + 24)) (Nat.le_refl (S + 1518)) ?_
  exact K _ _ _ _ _ _ _ _ _ _ _ _ hr2 _ _ hP hD hS ls hl
set_option maxHeartbeats 4000000 in
set_option maxRecDepth 100000 in
theorem law_20 {p : Program} {l : Launch} {e : Env} {s0 : State} {m : MethodId} {below : List Frame} {meth : Method} {c : Code} {sb L : Nat} {xs : Nat → Int32} {D : va_G} {Y : Nat → ClassId} {Q : State → Prop} {ad av w a b d rb : Nat → Nat} (X0 : lwH p s0 m meth c sb L xs D Y ad av) {i : Nat} (hi : i + 5 ≤ L) (hL : L ≤ 2560) {C S : Nat} (hC : C + 24 ≤ 600000) (hS1 : S + 1518 ≤ 7302249) (K : lwK p l e s0 m below meth c sb Y D Q w a b d rb i (C + 24) (S + 1518)) {M N : kN} {F : kFm} {o z : Nat} {P : Nat → Int32} {n t : Nat} {kd : Int32} {V : Nat → Int32} {vc : Nat} {R : kN} (hrel : kRel M F o z P n vc R) (H : Heap) (locs : List Loc) (hP : va_P D vwCl (wR Y rb R ++ wC Y w a b d M N F o z P n t kd V vc) H) (hD : va_D (fun q => s0.heap.size ≤ q) (wR Y rb R ++ wC Y w a b d M N F o z P n t kd V vc)) (hS : va_S (fun q => s0.heap.size ≤ q) s0.heap H locs) (ls : Array Slot) (hl : lv_has ls 4 [(3, .int (nI i)), (2, .ref (rb 0)), (1, .ref (w 0)), (0, .ref sb)]) : W p l e room_1 s0 m #[Value.ref sb] below meth c H locs C S Q (F0 m 721 ls []) := by
  obtain ⟨hx, hb, hr, hml, hown, hta, hX, hbl, hK, hNs, hE⟩ := X0
  have hA : ∀ q : Nat, s0.heap.size ≤ q → (fun q : Nat => s0.heap.size ≤ q) q := fun _ h => h
  have hbA : ¬ (fun q : Nat => s0.heap.size ≤ q) sb := Nat.not_le.mpr hbl
  have hX0 : kX s0.heap.size ad av s0.heap.size s0 := ⟨Nat.le_refl _, hE⟩
  have hI := kSim_I hrel.1.1 hrel.1.2.1
  have ho := hrel.2.2.1.2.2
  have hz := hrel.2.2.1.2.1
  have h80 := hrel.2.1.2.1
  have hv := hrel.2.1.2.2.2.1
  have hC2 := hrel.2.1.2.2.2.2
  have hC0 : C ≤ 600000 := by omega
  have hS0 : S ≤ 7302249 := by omega
  have hB : ∀ c ∈ (wC Y w a b d M N F o z P n t kd V vc).map (·.1), s0.heap.size ≤ c := lw_B (kD_r hD)
  have hCx : C ≤ 600000 := hC0
  have hSx : S ≤ 7302249 := hS0
  refine lv_aload_n hx hb dL_law_721 rfl (lv_at hl 2 rfl) ?_
  refine kc_i (krV (As := []) (rest := []) (c_X7_undo l D Y w a b d M N F o z P n t kd V vc ho hz (kC_hU hrel)) ⟨hx, hb, hml, hown, hta⟩ (cwL_102 hta ⟨Nat.le_of_ble_eq_true rfl, Nat.le_of_ble_eq_true rfl⟩) kX0b (fun _ _ _ => trivial) hK hNs hP hD (kJ_right) (q0 := 0) rfl rfl rfl rfl hl.1 rfl (Nat.le_of_ble_eq_true rfl) dL_law_722 ⟨hC0, hS0⟩) hP hD hS hA (kJ_right) (fun _ => rfl) (fun r2 u1 H locs hw hP hD hS => ?_)
  have hw := hw
  obtain ⟨e1, hr2⟩ := kRel_undo hrel hw
  have hP : va_P D vwCl (wR Y rb R ++ wC Y w a b d u1.1 N F o u1.2 P n t kd V vc) H := hP
  have hD : va_D (fun q => s0.heap.size ≤ q) (wR Y rb R ++ wC Y w a b d u1.1 N F o u1.2 P n t kd V vc) := hD
  refine lv_aload_n hx hb dL_law_725 rfl (lv_at hl 1 rfl) ?_
  refine kc_i (krV (As := []) (rest := [.int r2]) (c_X8_undo l D Y rb R (kRel_hk hrel)) ⟨hx, hb, hml, hown, hta⟩ (cwL_105 hta ⟨Nat.le_of_ble_eq_true rfl, Nat.le_of_ble_eq_true rfl⟩) kX0b (fun _ _ _ => trivial) hK hNs hP hD (kJ_l) (q0 := 0) rfl rfl rfl rfl hl.1 rfl (Nat.le_of_ble_eq_true rfl) dL_law_726 ⟨hCx, hSx⟩) hP hD hS hA (kJ_l) (fun _ => rfl) (fun r4 v3 H locs hw hP hD hS => ?_)
  obtain ⟨rfl, rfl⟩ := hw
  have hP : va_P D vwCl (wR Y rb ((mUndo R).2) ++ wC Y w a b d u1.1 N F o u1.2 P n t kd V vc) H := hP
  have hD : va_D (fun q => s0.heap.size ≤ q) (wR Y rb ((mUndo R).2) ++ wC Y w a b d u1.1 N F o u1.2 P n t kd V vc) := hD
  refine lv_icmp_eq (tgt := 780) hx hb dL_law_729 (by decide) (fun _ => ?_) (fun h => absurd e1 h)
  refine W.widen (k := C + 24) (n := S + 1518) (Nat.le_add_right C 24) (Nat.le_add_right S 1518) ?_
  exact K _ _ _ _ _ _ _ _ _ _ _ _ hr2 _ _ hP hD hS ls hl
set_option maxHeartbeats 4000000 in
set_option maxRecDepth 100000 in
theorem law_21 {p : Program} {l : Launch} {e : Env} {s0 : State} {m : MethodId} {below : List Frame} {meth : Method} {c : Code} {sb L : Nat} {xs : Nat → Int32} {D : va_G} {Y : Nat → ClassId} {Q : State → Prop} {ad av w a b d rb : Nat → Nat} (X0 : lwH p s0 m meth c sb L xs D Y ad av) {i : Nat} (hi : i + 5 ≤ L) (hL : L ≤ 2560) {C S : Nat} (hC : C + 24 ≤ 600000) (hS1 : S + 1518 ≤ 7302249) (K : lwK p l e s0 m below meth c sb Y D Q w a b d rb i (C + 24) (S + 1518)) {M N : kN} {F : kFm} {o z : Nat} {P : Nat → Int32} {n t : Nat} {kd : Int32} {V : Nat → Int32} {vc : Nat} {R : kN} (hrel : kRel M F o z P n vc R) (H : Heap) (locs : List Loc) (hP : va_P D vwCl (wR Y rb R ++ wC Y w a b d M N F o z P n t kd V vc) H) (hD : va_D (fun q => s0.heap.size ≤ q) (wR Y rb R ++ wC Y w a b d M N F o z P n t kd V vc)) (hS : va_S (fun q => s0.heap.size ≤ q) s0.heap H locs) (ls : Array Slot) (hl : lv_has ls 4 [(3, .int (nI i)), (2, .ref (rb 0)), (1, .ref (w 0)), (0, .ref sb)]) : W p l e room_1 s0 m #[Value.ref sb] below meth c H locs C S Q (F0 m 734 ls []) := by
  obtain ⟨hx, hb, hr, hml, hown, hta, hX, hbl, hK, hNs, hE⟩ := X0
  have hA : ∀ q : Nat, s0.heap.size ≤ q → (fun q : Nat => s0.heap.size ≤ q) q := fun _ h => h
  have hbA : ¬ (fun q : Nat => s0.heap.size ≤ q) sb := Nat.not_le.mpr hbl
  have hX0 : kX s0.heap.size ad av s0.heap.size s0 := ⟨Nat.le_refl _, hE⟩
  have hI := kSim_I hrel.1.1 hrel.1.2.1
  have ho := hrel.2.2.1.2.2
  have hz := hrel.2.2.1.2.1
  have h80 := hrel.2.1.2.1
  have hv := hrel.2.1.2.2.2.1
  have hC2 := hrel.2.1.2.2.2.2
  have hC0 : C ≤ 600000 := by omega
  have hS0 : S ≤ 7302249 := by omega
  have hB : ∀ c ∈ (wC Y w a b d M N F o z P n t kd V vc).map (·.1), s0.heap.size ≤ c := lw_B (kD_r hD)
  have hCx : C + 24 ≤ 600000 := hC
  have hSx : S + 1518 ≤ 7302249 := hS1
  refine lv_aload_n hx hb dL_law_734 rfl (lv_at hl 2 rfl) ?_
  refine lv_aload_n hx hb dL_law_735 rfl (lv_at hl 3 rfl) ?_
  refine lv_iload_n hx hb dL_law_736 rfl (lv_at hl 0 rfl) ?_
  refine lv_iconst (v := 1) hx hb dL_law_737 (by decide) ?_
  refine lv_iadd hx hb dL_law_738 ?_
  refine kTop (nI_add i 1) ?_
  refine va_sld hx hb hX hbl hbA hS (vp_in_nI (by omega) (by omega)) dL_law_739 ?_
  refine kTop (y := xs (i + 1)) (congrArg xs (nI_clamp (by omega))) ?_
  refine kc_in (krV (As := [.int (xs (i + 1))]) (rest := []) (c_X7_save l D Y w a b d M N F o z P n t kd V vc (xs (i + 1)) hI) ⟨hx, hb, hml, hown, hta⟩ (cwL_106 hta ⟨Nat.le_of_ble_eq_true rfl, Nat.le_of_ble_eq_true rfl⟩) kX0b (fun _ _ _ => trivial) hK hNs hP hD (kJ_right) (q0 := 0) rfl rfl rfl rfl hl.1 rfl (Nat.le_of_ble_eq_true rfl) dL_law_740 ⟨hC, hS1⟩) hP hD hS hA (kJn_r) (fun r2 u1 H locs hw hP hD hS => ?_)
  have hw := hw
  obtain ⟨e1, hr2⟩ := kRel_save hrel hw
  have hP : va_P D vwCl (wR Y rb R ++ wC Y w a b d M N u1 o z P n t kd V vc) H := hP
  have hD : va_D (fun q => s0.heap.size ≤ q) (wR Y rb R ++ wC Y w a b d M N u1 o z P n t kd V vc) := hD
  refine lv_aload_n hx hb dL_law_743 rfl (lv_at hl 1 rfl) ?_
  refine lv_aload_n hx hb dL_law_744 rfl (lv_at hl 3 rfl) ?_
  refine lv_iload_n hx hb dL_law_745 rfl (lv_at hl 0 rfl) ?_
  refine lv_iconst (v := 1) hx hb dL_law_746 (by decide) ?_
  refine lv_iadd hx hb dL_law_747 ?_
  refine kTop (nI_add i 1) ?_
  refine va_sld hx hb hX hbl hbA hS (vp_in_nI (by omega) (by omega)) dL_law_748 ?_
  refine kTop (y := xs (i + 1)) (congrArg xs (nI_clamp (by omega))) ?_
  refine kc_i (krV (As := [.int (xs (i + 1))]) (rest := [.int r2]) (c_X8_save l D Y rb R (xs (i + 1))) ⟨hx, hb, hml, hown, hta⟩ (cwL_109 hta ⟨Nat.le_of_ble_eq_true rfl, Nat.le_of_ble_eq_true rfl⟩) kX0b (fun _ _ _ => trivial) hK hNs hP hD (kJ_l) (q0 := 0) rfl rfl rfl rfl hl.1 rfl (Nat.le_of_ble_eq_true rfl) dL_law_749 ⟨hCx, hSx⟩) hP hD hS hA (kJ_l) (fun _ => rfl) (fun r4 v3 H locs hw hP hD hS => ?_)
  obtain ⟨rfl, rfl⟩ := hw
  have hP : va_P D vwCl (wR Y rb ((mSave R (xs (i + 1))).2) ++ wC Y w a b d M N u1 o z P n t kd V vc) H := hP
  have hD : va_D (fun q => s0.heap.size ≤ q) (wR Y rb ((mSave R (xs (i + 1))).2) ++ wC Y w a b d M N u1 o z P n t kd V vc) := hD
  refine lv_icmp_eq (tgt := 780) hx hb dL_law_752 (by decide) (fun _ => ?_) (fun h => absurd e1 h)
  refine W.widen (k := C + 24) (n := S + 1518) (Nat.le_refl (C + 24)) (Nat.le_refl (S + 1518)) ?_
  exact K _ _ _ _ _ _ _ _ _ _ _ _ hr2 _ _ hP hD hS ls hl
set_option maxHeartbeats 4000000 in
set_option maxRecDepth 100000 in
theorem law_22 {p : Program} {l : Launch} {e : Env} {s0 : State} {m : MethodId} {below : List Frame} {meth : Method} {c : Code} {sb L : Nat} {xs : Nat → Int32} {D : va_G} {Y : Nat → ClassId} {Q : State → Prop} {ad av w a b d rb : Nat → Nat} (X0 : lwH p s0 m meth c sb L xs D Y ad av) {i : Nat} (hi : i + 5 ≤ L) (hL : L ≤ 2560) {C S : Nat} (hC : C + 24 ≤ 600000) (hS1 : S + 1518 ≤ 7302249) (K : lwK p l e s0 m below meth c sb Y D Q w a b d rb i (C + 24) (S + 1518)) {M N : kN} {F : kFm} {o z : Nat} {P : Nat → Int32} {n t : Nat} {kd : Int32} {V : Nat → Int32} {vc : Nat} {R : kN} (hrel : kRel M F o z P n vc R) (H : Heap) (locs : List Loc) (hP : va_P D vwCl (wR Y rb R ++ wC Y w a b d M N F o z P n t kd V vc) H) (hD : va_D (fun q => s0.heap.size ≤ q) (wR Y rb R ++ wC Y w a b d M N F o z P n t kd V vc)) (hS : va_S (fun q => s0.heap.size ≤ q) s0.heap H locs) (ls : Array Slot) (hl : lv_has ls 4 [(3, .int (nI i)), (2, .ref (rb 0)), (1, .ref (w 0)), (0, .ref sb)]) : W p l e room_1 s0 m #[Value.ref sb] below meth c H locs C S Q (F0 m 757 ls []) := by
  obtain ⟨hx, hb, hr, hml, hown, hta, hX, hbl, hK, hNs, hE⟩ := X0
  have hA : ∀ q : Nat, s0.heap.size ≤ q → (fun q : Nat => s0.heap.size ≤ q) q := fun _ h => h
  have hbA : ¬ (fun q : Nat => s0.heap.size ≤ q) sb := Nat.not_le.mpr hbl
  have hX0 : kX s0.heap.size ad av s0.heap.size s0 := ⟨Nat.le_refl _, hE⟩
  have hI := kSim_I hrel.1.1 hrel.1.2.1
  have ho := hrel.2.2.1.2.2
  have hz := hrel.2.2.1.2.1
  have h80 := hrel.2.1.2.1
  have hv := hrel.2.1.2.2.2.1
  have hC2 := hrel.2.1.2.2.2.2
  have hC0 : C ≤ 600000 := by omega
  have hS0 : S ≤ 7302249 := by omega
  have hB : ∀ c ∈ (wC Y w a b d M N F o z P n t kd V vc).map (·.1), s0.heap.size ≤ c := lw_B (kD_r hD)
  have hCx : C + 24 ≤ 600000 := hC
  have hSx : S + 1518 ≤ 7302249 := hS1
  refine lv_aload_n hx hb dL_law_757 rfl (lv_at hl 2 rfl) ?_
  refine lv_aload_n hx hb dL_law_758 rfl (lv_at hl 3 rfl) ?_
  refine lv_iload_n hx hb dL_law_759 rfl (lv_at hl 0 rfl) ?_
  refine lv_iconst (v := 1) hx hb dL_law_760 (by decide) ?_
  refine lv_iadd hx hb dL_law_761 ?_
  refine kTop (nI_add i 1) ?_
  refine va_sld hx hb hX hbl hbA hS (vp_in_nI (by omega) (by omega)) dL_law_762 ?_
  refine kTop (y := xs (i + 1)) (congrArg xs (nI_clamp (by omega))) ?_
  refine kc_in (krV (As := [.int (xs (i + 1))]) (rest := []) (c_X7_restore l D Y w a b d M N F o z P n t kd V vc (xs (i + 1)) hI ho hz (kC_hFI hrel)) ⟨hx, hb, hml, hown, hta⟩ (cwL_110 hta ⟨Nat.le_of_ble_eq_true rfl, Nat.le_of_ble_eq_true rfl⟩) kX0b (fun _ _ _ => trivial) hK hNs hP hD (kJ_right) (q0 := 0) rfl rfl rfl rfl hl.1 rfl (Nat.le_of_ble_eq_true rfl) dL_law_763 ⟨hC, hS1⟩) hP hD hS hA (kJn_r) (fun r2 u1 H locs hw hP hD hS => ?_)
  have hw := hw
  obtain ⟨e1, hr2⟩ := kRel_restore hrel hw
  have hP : va_P D vwCl (wR Y rb R ++ wC Y w a b d u1.1 N u1.2.1 u1.2.2.1 u1.2.2.2 P n t kd V vc) H := hP
  have hD : va_D (fun q => s0.heap.size ≤ q) (wR Y rb R ++ wC Y w a b d u1.1 N u1.2.1 u1.2.2.1 u1.2.2.2 P n t kd V vc) := hD
  refine lv_aload_n hx hb dL_law_766 rfl (lv_at hl 1 rfl) ?_
  refine lv_aload_n hx hb dL_law_767 rfl (lv_at hl 3 rfl) ?_
  refine lv_iload_n hx hb dL_law_768 rfl (lv_at hl 0 rfl) ?_
  refine lv_iconst (v := 1) hx hb dL_law_769 (by decide) ?_
  refine lv_iadd hx hb dL_law_770 ?_
  refine kTop (nI_add i 1) ?_
  refine va_sld hx hb hX hbl hbA hS (vp_in_nI (by omega) (by omega)) dL_law_771 ?_
  refine kTop (y := xs (i + 1)) (congrArg xs (nI_clamp (by omega))) ?_
  refine kc_i (krV (As := [.int (xs (i + 1))]) (rest := [.int r2]) (c_X8_restore l D Y rb R (xs (i + 1)) (kRel_hk hrel)) ⟨hx, hb, hml, hown, hta⟩ (cwL_113 hta ⟨Nat.le_of_ble_eq_true rfl, Nat.le_of_ble_eq_true rfl⟩) kX0b (fun _ _ _ => trivial) hK hNs hP hD (kJ_l) (q0 := 0) rfl rfl rfl rfl hl.1 rfl (Nat.le_of_ble_eq_true rfl) dL_law_772 ⟨hCx, hSx⟩) hP hD hS hA (kJ_l) (fun _ => rfl) (fun r4 v3 H locs hw hP hD hS => ?_)
  obtain ⟨rfl, rfl⟩ := hw
  have hP : va_P D vwCl (wR Y rb ((mRestore R (xs (i + 1))).2) ++ wC Y w a b d u1.1 N u1.2.1 u1.2.2.1 u1.2.2.2 P n t kd V vc) H := hP
  have hD : va_D (fun q => s0.heap.size ≤ q) (wR Y rb ((mRestore R (xs (i + 1))).2) ++ wC Y w a b d u1.1 N u1.2.1 u1.2.2.1 u1.2.2.2 P n t kd V vc) := hD
  refine lv_icmp_eq (tgt := 780) hx hb dL_law_775 (by decide) (fun _ => ?_) (fun h => absurd e1 h)
  refine W.widen (k := C + 24) (n := S + 1518) (Nat.le_refl (C + 24)) (Nat.le_refl (S + 1518)) ?_
  exact K _ _ _ _ _ _ _ _ _ _ _ _ hr2 _ _ hP hD hS ls hl
