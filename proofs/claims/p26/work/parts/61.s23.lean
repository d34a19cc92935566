set_option maxHeartbeats 4000000 in
set_option maxRecDepth 100000 in
theorem c_X7_stopCosts (l : Launch) (D : va_G) (Y : Nat → ClassId) (w a b d : Nat → Nat) (M N : kN) (F : kFm) (o z : Nat) (P : Nat → Int32) (n t : Nat) (kd : Int32) (V : Nat → Int32) (vc : Nat) (x y : Int32) (s : kS) (hOK : kOK M s) : kM l yX7_stopCosts wX7_stopCosts rX7_stopCosts D Y (wC Y w a b d M N F o z P n t kd V vc) [.ref (w 0), .int x, .int y] kX0 (kQi D (fun r (_ : kN) => r = mCosts s x y) (fun u => wC Y w a b d M u F o z P n t kd V vc)) := by
  refine kentry (cc := cX7_stopCosts) (maxL := 4) (ret := (some .int)) (by decide +kernel) rfl (Nat.le_of_ble_eq_true rfl) ?_
  intro p e s0 m args below meth c A Q ls hQ hx hb hr hlocks hml hown hin hta hA hX0 hK hNs hP hD hS hl
  have hown : s0.vm.findClass RX7 = some m.cls := hown
  have hl : lv_has ls 4 [(0, .ref (w 0)), (1, .int x), (2, .int y)] := hl
  have hP : va_P D vwCl (kw Y [[(w 0, .inr (7, [.ref (a 0), .ref (b 0), .ref (w 1), .ref (w 2), .ref (d 0)]))], [(w 1, .inr (2, [.ref (w 3), .int (nI o), .int (nI z)]))], [(w 2, .inl (Y 3, 2, .inr (.inr (.inr (.inr (kAn F 7 2))))))], [(w 3, .inl (Y 3, 7, .inr (.inr (.inr (.inr (kAn F 0 7))))))], wM Y a M, wM Y b N, wP Y d P n t kd V vc] F) s0.heap := hP
  have hD : va_D A (kw Y [[(w 0, .inr (7, [.ref (a 0), .ref (b 0), .ref (w 1), .ref (w 2), .ref (d 0)]))], [(w 1, .inr (2, [.ref (w 3), .int (nI o), .int (nI z)]))], [(w 2, .inl (Y 3, 2, .inr (.inr (.inr (.inr (kAn F 7 2))))))], [(w 3, .inl (Y 3, 7, .inr (.inr (.inr (.inr (kAn F 0 7))))))], wM Y a M, wM Y b N, wP Y d P n t kd V vc] F) := hD
  have hI := kSim_I hOK.1 hOK.2.1
  refine lv_iload_n hx hb dX7_stopCosts_0 rfl (lv_at hl 1 rfl) ?_
  refine lv_iconst (v := 1) hx hb dX7_stopCosts_1 (by decide) ?_
  refine lv_sipush (v := 300) hx hb dX7_stopCosts_2 (by decide) ?_
  refine kc_i (krS (As := [.int x, .int 1, .int 300]) (rest := []) (c_X7_isWithin l D Y x 1 300) ⟨hx, hb, hml, hown, hta⟩ (cwX7_100 hta ⟨Nat.le_of_ble_eq_true rfl, Nat.le_of_ble_eq_true rfl⟩) kX0b (fun _ _ _ => trivial) hK hNs hP hD (kJ_nil) rfl hl.1 rfl (Nat.le_of_ble_eq_true rfl) dX7_stopCosts_5 ⟨Nat.le_of_ble_eq_true rfl, Nat.le_of_ble_eq_true rfl⟩) hP hD hS hA (kJ_nil) (fun _ => rfl) (fun r1 u H locs hw hP hD hS => ?_)
  subst hw
  have hP : va_P D vwCl (kw Y [[(w 0, .inr (7, [.ref (a 0), .ref (b 0), .ref (w 1), .ref (w 2), .ref (d 0)]))], [(w 1, .inr (2, [.ref (w 3), .int (nI o), .int (nI z)]))], [(w 2, .inl (Y 3, 2, .inr (.inr (.inr (.inr (kAn F 7 2))))))], [(w 3, .inl (Y 3, 7, .inr (.inr (.inr (.inr (kAn F 0 7))))))], wM Y a M, wM Y b N, wP Y d P n t kd V vc] F) H := hP
  have hD : va_D A (kw Y [[(w 0, .inr (7, [.ref (a 0), .ref (b 0), .ref (w 1), .ref (w 2), .ref (d 0)]))], [(w 1, .inr (2, [.ref (w 3), .int (nI o), .int (nI z)]))], [(w 2, .inl (Y 3, 2, .inr (.inr (.inr (.inr (kAn F 7 2))))))], [(w 3, .inl (Y 3, 7, .inr (.inr (.inr (.inr (kAn F 0 7))))))], wM Y a M, wM Y b N, wP Y d P n t kd V vc] F) := hD
  by_cases c2 : pIn x 1 300
  · refine kTop (kb_t c2) ?_
    refine lv_if_eq (tgt := 20) hx hb dX7_stopCosts_8 (by decide) (fun h => False.elim (by revert h; decide)) (fun _ => ?_)
    refine lv_iload_n hx hb dX7_stopCosts_11 rfl (lv_at hl 2 rfl) ?_
    refine lv_iconst (v := 0) hx hb dX7_stopCosts_12 (by decide) ?_
    refine lv_iload_n hx hb dX7_stopCosts_13 rfl (lv_at hl 1 rfl) ?_
    refine kc_i (krS (As := [.int y, .int 0, .int x]) (rest := []) (c_X7_isWithin l D Y y 0 x) ⟨hx, hb, hml, hown, hta⟩ (cwX7_100 hta ⟨Nat.le_of_ble_eq_true rfl, Nat.le_of_ble_eq_true rfl⟩) kX0b (fun _ _ _ => trivial) hK hNs hP hD (kJ_nil) rfl hl.1 rfl (Nat.le_of_ble_eq_true rfl) dX7_stopCosts_14 ⟨Nat.le_of_ble_eq_true rfl, Nat.le_of_ble_eq_true rfl⟩) hP hD hS hA (kJ_nil) (fun _ => rfl) (fun r3 u H locs hw hP hD hS => ?_)
    subst hw
    have hP : va_P D vwCl (kw Y [[(w 0, .inr (7, [.ref (a 0), .ref (b 0), .ref (w 1), .ref (w 2), .ref (d 0)]))], [(w 1, .inr (2, [.ref (w 3), .int (nI o), .int (nI z)]))], [(w 2, .inl (Y 3, 2, .inr (.inr (.inr (.inr (kAn F 7 2))))))], [(w 3, .inl (Y 3, 7, .inr (.inr (.inr (.inr (kAn F 0 7))))))], wM Y a M, wM Y b N, wP Y d P n t kd V vc] F) H := hP
    have hD : va_D A (kw Y [[(w 0, .inr (7, [.ref (a 0), .ref (b 0), .ref (w 1), .ref (w 2), .ref (d 0)]))], [(w 1, .inr (2, [.ref (w 3), .int (nI o), .int (nI z)]))], [(w 2, .inl (Y 3, 2, .inr (.inr (.inr (.inr (kAn F 7 2))))))], [(w 3, .inl (Y 3, 7, .inr (.inr (.inr (.inr (kAn F 0 7))))))], wM Y a M, wM Y b N, wP Y d P n t kd V vc] F) := hD
    by_cases c4 : pIn y 0 x
    · refine kTop (kb_t c4) ?_
      refine lv_if_ne (tgt := 23) hx hb dX7_stopCosts_17 (by decide) (fun _ => ?_) (fun h => False.elim (by revert h; decide))
      obtain ⟨dn, rfl, hd1, hd3⟩ := pIn_nat c2 (show (1 : Int32) = nI 1 from rfl) (show (300 : Int32) = nI 300 from rfl) (by omega) (by omega)
      refine lv_aload_n hx hb dX7_stopCosts_23 rfl (lv_at hl 0 rfl) ?_
      refine lv_iload_n hx hb dX7_stopCosts_24 rfl (lv_at hl 1 rfl) ?_
      refine lv_iconst (v := 0) hx hb dX7_stopCosts_25 (by decide) ?_
      refine kc_v (krV (As := [.int (nI dn), .int 0]) (rest := []) (c_X7_tryDays l D Y w a b d M N F o z P n t kd V vc dn 0 hI (by omega)) ⟨hx, hb, hml, hown, hta⟩ (cwX7_123 hta ⟨Nat.le_of_ble_eq_true rfl, Nat.le_of_ble_eq_true rfl⟩) kX0b (fun _ _ _ => trivial) hK hNs hP hD (kJ_all) (q0 := 0) rfl rfl rfl rfl hl.1 rfl (Nat.le_of_ble_eq_true rfl) dX7_stopCosts_26 ⟨Nat.le_of_ble_eq_true rfl, Nat.le_of_ble_eq_true rfl⟩) hP hD hS hA (kJ_all) (fun _ => rfl) (fun u H locs hw hP hD hS => ?_)
      subst hw
      have hP : va_P D vwCl (kw Y [[(w 0, .inr (7, [.ref (a 0), .ref (b 0), .ref (w 1), .ref (w 2), .ref (d 0)]))], [(w 1, .inr (2, [.ref (w 3), .int (nI o), .int (nI z)]))], [(w 2, .inl (Y 3, 2, .inr (.inr (.inr (.inr (kAn F 7 2))))))], [(w 3, .inl (Y 3, 7, .inr (.inr (.inr (.inr (kAn F 0 7))))))], wM Y a M, wM Y b (cDays (cCopy M N) 0 dn), wP Y d P n t kd V vc] F) H := hP
      have hD : va_D A (kw Y [[(w 0, .inr (7, [.ref (a 0), .ref (b 0), .ref (w 1), .ref (w 2), .ref (d 0)]))], [(w 1, .inr (2, [.ref (w 3), .int (nI o), .int (nI z)]))], [(w 2, .inl (Y 3, 2, .inr (.inr (.inr (.inr (kAn F 7 2))))))], [(w 3, .inl (Y 3, 7, .inr (.inr (.inr (.inr (kAn F 0 7))))))], wM Y a M, wM Y b (cDays (cCopy M N) 0 dn), wP Y d P n t kd V vc] F) := hD
      refine lv_aload_n hx hb dX7_stopCosts_29 rfl (lv_at hl 0 rfl) ?_
      refine gfX7_16 (v := .ref (b 0)) hx hb hta hown hK hP 0 rfl rfl dX7_stopCosts_30 ?_
      refine gfX7_136 (v := .int ((cDays (cCopy M N) 0 dn) 19 1)) hx hb hta hown hK hP 28 rfl rfl dX7_stopCosts_33 ?_
      refine lv_istore_n (lv' := [(3, .int ((cDays (cCopy M N) 0 dn) 19 1)), (0, .ref (w 0)), (1, .int (nI dn)), (2, .int y)]) hx hb dX7_stopCosts_36 rfl hl (by decide) rfl (fun ls hl => ?_)
      refine lv_aload_n hx hb dX7_stopCosts_37 rfl (lv_at hl 1 rfl) ?_
      refine lv_iload_n hx hb dX7_stopCosts_38 rfl (lv_at hl 2 rfl) ?_
      refine lv_iload_n hx hb dX7_stopCosts_39 rfl (lv_at hl 3 rfl) ?_
      refine kc_v (krV (As := [.int (nI dn), .int y]) (rest := []) (c_X7_tryDays l D Y w a b d M (cDays (cCopy M N) 0 dn) F o z P n t kd V vc dn y hI (by omega)) ⟨hx, hb, hml, hown, hta⟩ (cwX7_123 hta ⟨Nat.le_of_ble_eq_true rfl, Nat.le_of_ble_eq_true rfl⟩) kX0b (fun _ _ _ => trivial) hK hNs hP hD (kJ_all) (q0 := 0) rfl rfl rfl rfl hl.1 rfl (Nat.le_of_ble_eq_true rfl) dX7_stopCosts_40 ⟨Nat.le_of_ble_eq_true rfl, Nat.le_of_ble_eq_true rfl⟩) hP hD hS hA (kJ_all) (fun _ => rfl) (fun u H locs hw hP hD hS => ?_)
      subst hw
      have hP : va_P D vwCl (kw Y [[(w 0, .inr (7, [.ref (a 0), .ref (b 0), .ref (w 1), .ref (w 2), .ref (d 0)]))], [(w 1, .inr (2, [.ref (w 3), .int (nI o), .int (nI z)]))], [(w 2, .inl (Y 3, 2, .inr (.inr (.inr (.inr (kAn F 7 2))))))], [(w 3, .inl (Y 3, 7, .inr (.inr (.inr (.inr (kAn F 0 7))))))], wM Y a M, wM Y b (cDays (cCopy M (cDays (cCopy M N) 0 dn)) y dn), wP Y d P n t kd V vc] F) H := hP
      have hD : va_D A (kw Y [[(w 0, .inr (7, [.ref (a 0), .ref (b 0), .ref (w 1), .ref (w 2), .ref (d 0)]))], [(w 1, .inr (2, [.ref (w 3), .int (nI o), .int (nI z)]))], [(w 2, .inl (Y 3, 2, .inr (.inr (.inr (.inr (kAn F 7 2))))))], [(w 3, .inl (Y 3, 7, .inr (.inr (.inr (.inr (kAn F 0 7))))))], wM Y a M, wM Y b (cDays (cCopy M (cDays (cCopy M N) 0 dn)) y dn), wP Y d P n t kd V vc] F) := hD
      refine lv_iload_n hx hb dX7_stopCosts_43 rfl (lv_at hl 0 rfl) ?_
      refine lv_aload_n hx hb dX7_stopCosts_44 rfl (lv_at hl 1 rfl) ?_
      refine gfX7_16 (v := .ref (b 0)) hx hb hta hown hK hP 0 rfl rfl dX7_stopCosts_45 ?_
      refine gfX7_136 (v := .int ((cDays (cCopy M (cDays (cCopy M N) 0 dn)) y dn) 19 1)) hx hb hta hown hK hP 28 rfl rfl dX7_stopCosts_48 ?_
      refine lv_isub hx hb dX7_stopCosts_51 ?_
      refine lv_ldc hx hb hown (hta _ al_582) dX7_stopCosts_52 ?_
      refine lv_iadd hx hb dX7_stopCosts_54 ?_
      exact kiret (cDays (cCopy M (cDays (cCopy M N) 0 dn)) y dn) hQ hx hb hr hlocks hP hS dX7_stopCosts_55 (by unfold mCosts; rw [if_pos c2, if_pos c4, nI_clamp (by omega)]; rw [(kTry hOK (T := cCopy M N) (kSim_copy hOK.1 hOK.2.1) 0 (d := dn) (by omega)).1.sug, (kTry hOK (T := cCopy M (cDays (cCopy M N) 0 dn)) (kSim_copy hOK.1 hOK.2.1) y (d := dn) (by omega)).1.sug])
    · refine kTop (kb_f c4) ?_
      refine lv_if_ne (tgt := 23) hx hb dX7_stopCosts_17 (by decide) (fun h => False.elim (by revert h; decide)) (fun _ => ?_)
      refine lv_bipush (v := (-2)) hx hb dX7_stopCosts_20 (by decide) ?_
      exact kiret (N) hQ hx hb hr hlocks hP hS dX7_stopCosts_22 (by unfold mCosts; rw [if_pos c2, if_neg c4])
  · refine kTop (kb_f c2) ?_
    refine lv_if_eq (tgt := 20) hx hb dX7_stopCosts_8 (by decide) (fun _ => ?_) (fun h => False.elim (by revert h; decide))
    refine lv_bipush (v := (-2)) hx hb dX7_stopCosts_20 (by decide) ?_
    exact kiret (N) hQ hx hb hr hlocks hP hS dX7_stopCosts_22 (by unfold mCosts; rw [if_neg c2])
