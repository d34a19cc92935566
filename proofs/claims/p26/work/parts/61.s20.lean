set_option maxHeartbeats 4000000 in
set_option maxRecDepth 100000 in
theorem c_X7_then (l : Launch) (D : va_G) (Y : Nat → ClassId) (w a b d : Nat → Nat) (M N : kN) (F : kFm) (o z : Nat) (P : Nat → Int32) (n t : Nat) (kd : Int32) (V : Nat → Int32) (vc : Nat) (x y : Int32) (s : kS) (hOK : kOK M s) : kM l yX7_then wX7_then rX7_then D Y (wC Y w a b d M N F o z P n t kd V vc) [.ref (w 0), .int x, .int y] kX0 (kQi D (fun r (_ : kN) => r = mThen s x y) (fun u => wC Y w a b d M u F o z P n t kd V vc)) := by
  refine kentry (cc := cX7_then) (maxL := 3) (ret := (some .int)) (by decide +kernel) rfl (Nat.le_of_ble_eq_true rfl) ?_
  intro p e s0 m args below meth c A Q ls hQ hx hb hr hlocks hml hown hin hta hA hX0 hK hNs hP hD hS hl
  have hown : s0.vm.findClass RX7 = some m.cls := hown
  have hl : lv_has ls 3 [(0, .ref (w 0)), (1, .int x), (2, .int y)] := hl
  have hP : va_P D vwCl (kw Y [[(w 0, .inr (7, [.ref (a 0), .ref (b 0), .ref (w 1), .ref (w 2), .ref (d 0)]))], [(w 1, .inr (2, [.ref (w 3), .int (nI o), .int (nI z)]))], [(w 2, .inl (Y 3, 2, .inr (.inr (.inr (.inr (kAn F 7 2))))))], [(w 3, .inl (Y 3, 7, .inr (.inr (.inr (.inr (kAn F 0 7))))))], wM Y a M, wM Y b N, wP Y d P n t kd V vc] F) s0.heap := hP
  have hD : va_D A (kw Y [[(w 0, .inr (7, [.ref (a 0), .ref (b 0), .ref (w 1), .ref (w 2), .ref (d 0)]))], [(w 1, .inr (2, [.ref (w 3), .int (nI o), .int (nI z)]))], [(w 2, .inl (Y 3, 2, .inr (.inr (.inr (.inr (kAn F 7 2))))))], [(w 3, .inl (Y 3, 7, .inr (.inr (.inr (.inr (kAn F 0 7))))))], wM Y a M, wM Y b N, wP Y d P n t kd V vc] F) := hD
  have hI := kSim_I hOK.1 hOK.2.1
  refine lv_iload_n hx hb dX7_then_0 rfl (lv_at hl 1 rfl) ?_
  refine lv_iconst (v := 1) hx hb dX7_then_1 (by decide) ?_
  refine lv_sipush (v := 300) hx hb dX7_then_2 (by decide) ?_
  refine kc_i (krS (As := [.int x, .int 1, .int 300]) (rest := []) (c_X7_isWithin l D Y x 1 300) ⟨hx, hb, hml, hown, hta⟩ (cwX7_100 hta ⟨Nat.le_of_ble_eq_true rfl, Nat.le_of_ble_eq_true rfl⟩) kX0b (fun _ _ _ => trivial) hK hNs hP hD (kJ_nil) rfl hl.1 rfl (Nat.le_of_ble_eq_true rfl) dX7_then_5 ⟨Nat.le_of_ble_eq_true rfl, Nat.le_of_ble_eq_true rfl⟩) hP hD hS hA (kJ_nil) (fun _ => rfl) (fun r1 u H locs hw hP hD hS => ?_)
  subst hw
  have hP : va_P D vwCl (kw Y [[(w 0, .inr (7, [.ref (a 0), .ref (b 0), .ref (w 1), .ref (w 2), .ref (d 0)]))], [(w 1, .inr (2, [.ref (w 3), .int (nI o), .int (nI z)]))], [(w 2, .inl (Y 3, 2, .inr (.inr (.inr (.inr (kAn F 7 2))))))], [(w 3, .inl (Y 3, 7, .inr (.inr (.inr (.inr (kAn F 0 7))))))], wM Y a M, wM Y b N, wP Y d P n t kd V vc] F) H := hP
  have hD : va_D A (kw Y [[(w 0, .inr (7, [.ref (a 0), .ref (b 0), .ref (w 1), .ref (w 2), .ref (d 0)]))], [(w 1, .inr (2, [.ref (w 3), .int (nI o), .int (nI z)]))], [(w 2, .inl (Y 3, 2, .inr (.inr (.inr (.inr (kAn F 7 2))))))], [(w 3, .inl (Y 3, 7, .inr (.inr (.inr (.inr (kAn F 0 7))))))], wM Y a M, wM Y b N, wP Y d P n t kd V vc] F) := hD
  by_cases c2 : pIn x 1 300
  · refine kTop (kb_t c2) ?_
    refine lv_if_eq (tgt := 20) hx hb dX7_then_8 (by decide) (fun h => False.elim (by revert h; decide)) (fun _ => ?_)
    refine lv_iload_n hx hb dX7_then_11 rfl (lv_at hl 2 rfl) ?_
    refine lv_iconst (v := 0) hx hb dX7_then_12 (by decide) ?_
    refine lv_iconst (v := 2) hx hb dX7_then_13 (by decide) ?_
    refine kc_i (krS (As := [.int y, .int 0, .int 2]) (rest := []) (c_X7_isWithin l D Y y 0 2) ⟨hx, hb, hml, hown, hta⟩ (cwX7_100 hta ⟨Nat.le_of_ble_eq_true rfl, Nat.le_of_ble_eq_true rfl⟩) kX0b (fun _ _ _ => trivial) hK hNs hP hD (kJ_nil) rfl hl.1 rfl (Nat.le_of_ble_eq_true rfl) dX7_then_14 ⟨Nat.le_of_ble_eq_true rfl, Nat.le_of_ble_eq_true rfl⟩) hP hD hS hA (kJ_nil) (fun _ => rfl) (fun r3 u H locs hw hP hD hS => ?_)
    subst hw
    have hP : va_P D vwCl (kw Y [[(w 0, .inr (7, [.ref (a 0), .ref (b 0), .ref (w 1), .ref (w 2), .ref (d 0)]))], [(w 1, .inr (2, [.ref (w 3), .int (nI o), .int (nI z)]))], [(w 2, .inl (Y 3, 2, .inr (.inr (.inr (.inr (kAn F 7 2))))))], [(w 3, .inl (Y 3, 7, .inr (.inr (.inr (.inr (kAn F 0 7))))))], wM Y a M, wM Y b N, wP Y d P n t kd V vc] F) H := hP
    have hD : va_D A (kw Y [[(w 0, .inr (7, [.ref (a 0), .ref (b 0), .ref (w 1), .ref (w 2), .ref (d 0)]))], [(w 1, .inr (2, [.ref (w 3), .int (nI o), .int (nI z)]))], [(w 2, .inl (Y 3, 2, .inr (.inr (.inr (.inr (kAn F 7 2))))))], [(w 3, .inl (Y 3, 7, .inr (.inr (.inr (.inr (kAn F 0 7))))))], wM Y a M, wM Y b N, wP Y d P n t kd V vc] F) := hD
    by_cases c4 : pIn y 0 2
    · refine kTop (kb_t c4) ?_
      refine lv_if_ne (tgt := 23) hx hb dX7_then_17 (by decide) (fun _ => ?_) (fun h => False.elim (by revert h; decide))
      obtain ⟨dn, rfl, hd1, hd3⟩ := pIn_nat c2 (show (1 : Int32) = nI 1 from rfl) (show (300 : Int32) = nI 300 from rfl) (by omega) (by omega)
      refine lv_aload_n hx hb dX7_then_23 rfl (lv_at hl 0 rfl) ?_
      refine lv_iload_n hx hb dX7_then_24 rfl (lv_at hl 1 rfl) ?_
      refine lv_iconst (v := 0) hx hb dX7_then_25 (by decide) ?_
      refine kc_v (krV (As := [.int (nI dn), .int 0]) (rest := []) (c_X7_tryDays l D Y w a b d M N F o z P n t kd V vc dn 0 hI (by omega)) ⟨hx, hb, hml, hown, hta⟩ (cwX7_123 hta ⟨Nat.le_of_ble_eq_true rfl, Nat.le_of_ble_eq_true rfl⟩) kX0b (fun _ _ _ => trivial) hK hNs hP hD (kJ_all) (q0 := 0) rfl rfl rfl rfl hl.1 rfl (Nat.le_of_ble_eq_true rfl) dX7_then_26 ⟨Nat.le_of_ble_eq_true rfl, Nat.le_of_ble_eq_true rfl⟩) hP hD hS hA (kJ_all) (fun _ => rfl) (fun u H locs hw hP hD hS => ?_)
      subst hw
      have hP : va_P D vwCl (kw Y [[(w 0, .inr (7, [.ref (a 0), .ref (b 0), .ref (w 1), .ref (w 2), .ref (d 0)]))], [(w 1, .inr (2, [.ref (w 3), .int (nI o), .int (nI z)]))], [(w 2, .inl (Y 3, 2, .inr (.inr (.inr (.inr (kAn F 7 2))))))], [(w 3, .inl (Y 3, 7, .inr (.inr (.inr (.inr (kAn F 0 7))))))], wM Y a M, wM Y b (cDays (cCopy M N) 0 dn), wP Y d P n t kd V vc] F) H := hP
      have hD : va_D A (kw Y [[(w 0, .inr (7, [.ref (a 0), .ref (b 0), .ref (w 1), .ref (w 2), .ref (d 0)]))], [(w 1, .inr (2, [.ref (w 3), .int (nI o), .int (nI z)]))], [(w 2, .inl (Y 3, 2, .inr (.inr (.inr (.inr (kAn F 7 2))))))], [(w 3, .inl (Y 3, 7, .inr (.inr (.inr (.inr (kAn F 0 7))))))], wM Y a M, wM Y b (cDays (cCopy M N) 0 dn), wP Y d P n t kd V vc] F) := hD
      refine lv_iload_n hx hb dX7_then_29 rfl (lv_at hl 2 rfl) ?_
      by_cases c7 : y = 0
      · refine lv_lookup (off := 26) (tgt := 56) hx hb dX7_then_30 (by decide) (by rw [c7]; decide) (by decide) ?_
        refine lv_aload_n hx hb dX7_then_56 rfl (lv_at hl 0 rfl) ?_
        refine gfX7_16 (v := .ref (b 0)) hx hb hta hown hK hP 0 rfl rfl dX7_then_57 ?_
        refine gfX7_127 (v := .ref (b 2)) hx hb hta hown hK hP 28 rfl rfl dX7_then_60 ?_
        refine kc_i (krV (As := []) (rest := []) (c_X1_totalLost l D Y b (cDays (cCopy M N) 0 dn)) ⟨hx, hb, hml, hown, hta⟩ (cwX7_131 hta ⟨Nat.le_of_ble_eq_true rfl, Nat.le_of_ble_eq_true rfl⟩) kX0b (fun _ _ _ => trivial) hK hNs hP hD (kJ_w 5 rfl) (q0 := 2) rfl rfl rfl rfl hl.1 rfl (Nat.le_of_ble_eq_true rfl) dX7_then_63 ⟨Nat.le_of_ble_eq_true rfl, Nat.le_of_ble_eq_true rfl⟩) hP hD hS hA (kJ_w 5 rfl) (fun _ => rfl) (fun r8 u H locs hw hP hD hS => ?_)
        subst hw
        have hP : va_P D vwCl (kw Y [[(w 0, .inr (7, [.ref (a 0), .ref (b 0), .ref (w 1), .ref (w 2), .ref (d 0)]))], [(w 1, .inr (2, [.ref (w 3), .int (nI o), .int (nI z)]))], [(w 2, .inl (Y 3, 2, .inr (.inr (.inr (.inr (kAn F 7 2))))))], [(w 3, .inl (Y 3, 7, .inr (.inr (.inr (.inr (kAn F 0 7))))))], wM Y a M, wM Y b (cDays (cCopy M N) 0 dn), wP Y d P n t kd V vc] F) H := hP
        have hD : va_D A (kw Y [[(w 0, .inr (7, [.ref (a 0), .ref (b 0), .ref (w 1), .ref (w 2), .ref (d 0)]))], [(w 1, .inr (2, [.ref (w 3), .int (nI o), .int (nI z)]))], [(w 2, .inl (Y 3, 2, .inr (.inr (.inr (.inr (kAn F 7 2))))))], [(w 3, .inl (Y 3, 7, .inr (.inr (.inr (.inr (kAn F 0 7))))))], wM Y a M, wM Y b (cDays (cCopy M N) 0 dn), wP Y d P n t kd V vc] F) := hD
        refine lv_aload_n hx hb dX7_then_66 rfl (lv_at hl 0 rfl) ?_
        refine gfX7_10 (v := .ref (a 0)) hx hb hta hown hK hP 0 rfl rfl dX7_then_67 ?_
        refine gfX7_127 (v := .ref (a 2)) hx hb hta hown hK hP 4 rfl rfl dX7_then_70 ?_
        refine kc_i (krV (As := []) (rest := [.int (sTo ((cDays (cCopy M N) 0 dn) 4) 6)]) (c_X1_totalLost l D Y a M) ⟨hx, hb, hml, hown, hta⟩ (cwX7_131 hta ⟨Nat.le_of_ble_eq_true rfl, Nat.le_of_ble_eq_true rfl⟩) kX0b (fun _ _ _ => trivial) hK hNs hP hD (kJ_w 4 rfl) (q0 := 2) rfl rfl rfl rfl hl.1 rfl (Nat.le_of_ble_eq_true rfl) dX7_then_73 ⟨Nat.le_of_ble_eq_true rfl, Nat.le_of_ble_eq_true rfl⟩) hP hD hS hA (kJ_w 4 rfl) (fun _ => rfl) (fun r9 u H locs hw hP hD hS => ?_)
        subst hw
        have hP : va_P D vwCl (kw Y [[(w 0, .inr (7, [.ref (a 0), .ref (b 0), .ref (w 1), .ref (w 2), .ref (d 0)]))], [(w 1, .inr (2, [.ref (w 3), .int (nI o), .int (nI z)]))], [(w 2, .inl (Y 3, 2, .inr (.inr (.inr (.inr (kAn F 7 2))))))], [(w 3, .inl (Y 3, 7, .inr (.inr (.inr (.inr (kAn F 0 7))))))], wM Y a M, wM Y b (cDays (cCopy M N) 0 dn), wP Y d P n t kd V vc] F) H := hP
        have hD : va_D A (kw Y [[(w 0, .inr (7, [.ref (a 0), .ref (b 0), .ref (w 1), .ref (w 2), .ref (d 0)]))], [(w 1, .inr (2, [.ref (w 3), .int (nI o), .int (nI z)]))], [(w 2, .inl (Y 3, 2, .inr (.inr (.inr (.inr (kAn F 7 2))))))], [(w 3, .inl (Y 3, 7, .inr (.inr (.inr (.inr (kAn F 0 7))))))], wM Y a M, wM Y b (cDays (cCopy M N) 0 dn), wP Y d P n t kd V vc] F) := hD
        refine lv_isub hx hb dX7_then_76 ?_
        exact kiret (cDays (cCopy M N) 0 dn) hQ hx hb hr hlocks hP hS dX7_then_77 (by have e := cThen_m hOK (T := cCopy M N) (kSim_copy hOK.1 hOK.2.1) (d := dn) (by omega) y; unfold cThen at e; unfold mThen; rw [if_pos c2, if_pos c4, nI_clamp (by omega), if_pos c7]; rw [if_pos c7, if_pos c7] at e; exact e)
      · by_cases c10 : y = 1
        · refine lv_lookup (off := 48) (tgt := 78) hx hb dX7_then_30 (by decide) (by rw [c10]; decide) (by decide) ?_
          refine lv_aload_n hx hb dX7_then_78 rfl (lv_at hl 0 rfl) ?_
          refine gfX7_16 (v := .ref (b 0)) hx hb hta hown hK hP 0 rfl rfl dX7_then_79 ?_
          refine gfX7_136 (v := .int ((cDays (cCopy M N) 0 dn) 19 1)) hx hb hta hown hK hP 28 rfl rfl dX7_then_82 ?_
          refine lv_aload_n hx hb dX7_then_85 rfl (lv_at hl 0 rfl) ?_
          refine gfX7_10 (v := .ref (a 0)) hx hb hta hown hK hP 0 rfl rfl dX7_then_86 ?_
          refine gfX7_136 (v := .int (M 19 1)) hx hb hta hown hK hP 4 rfl rfl dX7_then_89 ?_
          refine lv_isub hx hb dX7_then_92 ?_
          exact kiret (cDays (cCopy M N) 0 dn) hQ hx hb hr hlocks hP hS dX7_then_93 (by have e := cThen_m hOK (T := cCopy M N) (kSim_copy hOK.1 hOK.2.1) (d := dn) (by omega) y; unfold cThen at e; unfold mThen; rw [if_pos c2, if_pos c4, nI_clamp (by omega), if_neg c7, if_pos c10]; rw [if_neg c7, if_neg c7, if_pos c10, if_pos c10] at e; exact e)
        · refine lv_lookup (off := 64) (tgt := 94) hx hb dX7_then_30 (by decide) (by have q0 : ¬ y.toInt = 0 := fun h => c7 (Int32.toInt_inj.mp (h.trans (by decide))); have q1 : ¬ y.toInt = 1 := fun h => c10 (Int32.toInt_inj.mp (h.trans (by decide))); simp [Op.lookupswitch.offset, q0, Ne.symm q0, q1, Ne.symm q1]) (by decide) ?_
          refine lv_aload_n hx hb dX7_then_94 rfl (lv_at hl 0 rfl) ?_
          refine gfX7_16 (v := .ref (b 0)) hx hb hta hown hK hP 0 rfl rfl dX7_then_95 ?_
          refine gfX7_127 (v := .ref (b 2)) hx hb hta hown hK hP 28 rfl rfl dX7_then_98 ?_
          refine kc_i (krV (As := []) (rest := []) (c_X1_totalPaid l D Y b (cDays (cCopy M N) 0 dn)) ⟨hx, hb, hml, hown, hta⟩ (cwX7_139 hta ⟨Nat.le_of_ble_eq_true rfl, Nat.le_of_ble_eq_true rfl⟩) kX0b (fun _ _ _ => trivial) hK hNs hP hD (kJ_w 5 rfl) (q0 := 2) rfl rfl rfl rfl hl.1 rfl (Nat.le_of_ble_eq_true rfl) dX7_then_101 ⟨Nat.le_of_ble_eq_true rfl, Nat.le_of_ble_eq_true rfl⟩) hP hD hS hA (kJ_w 5 rfl) (fun _ => rfl) (fun r11 u H locs hw hP hD hS => ?_)
          subst hw
          have hP : va_P D vwCl (kw Y [[(w 0, .inr (7, [.ref (a 0), .ref (b 0), .ref (w 1), .ref (w 2), .ref (d 0)]))], [(w 1, .inr (2, [.ref (w 3), .int (nI o), .int (nI z)]))], [(w 2, .inl (Y 3, 2, .inr (.inr (.inr (.inr (kAn F 7 2))))))], [(w 3, .inl (Y 3, 7, .inr (.inr (.inr (.inr (kAn F 0 7))))))], wM Y a M, wM Y b (cDays (cCopy M N) 0 dn), wP Y d P n t kd V vc] F) H := hP
          have hD : va_D A (kw Y [[(w 0, .inr (7, [.ref (a 0), .ref (b 0), .ref (w 1), .ref (w 2), .ref (d 0)]))], [(w 1, .inr (2, [.ref (w 3), .int (nI o), .int (nI z)]))], [(w 2, .inl (Y 3, 2, .inr (.inr (.inr (.inr (kAn F 7 2))))))], [(w 3, .inl (Y 3, 7, .inr (.inr (.inr (.inr (kAn F 0 7))))))], wM Y a M, wM Y b (cDays (cCopy M N) 0 dn), wP Y d P n t kd V vc] F) := hD
          refine lv_aload_n hx hb dX7_then_104 rfl (lv_at hl 0 rfl) ?_
          refine gfX7_10 (v := .ref (a 0)) hx hb hta hown hK hP 0 rfl rfl dX7_then_105 ?_
          refine gfX7_127 (v := .ref (a 2)) hx hb hta hown hK hP 4 rfl rfl dX7_then_108 ?_
          refine kc_i (krV (As := []) (rest := [.int (sTo ((cDays (cCopy M N) 0 dn) 5) 6)]) (c_X1_totalPaid l D Y a M) ⟨hx, hb, hml, hown, hta⟩ (cwX7_139 hta ⟨Nat.le_of_ble_eq_true rfl, Nat.le_of_ble_eq_true rfl⟩) kX0b (fun _ _ _ => trivial) hK hNs hP hD (kJ_w 4 rfl) (q0 := 2) rfl rfl rfl rfl hl.1 rfl (Nat.le_of_ble_eq_true rfl) dX7_then_111 ⟨Nat.le_of_ble_eq_true rfl, Nat.le_of_ble_eq_true rfl⟩) hP hD hS hA (kJ_w 4 rfl) (fun _ => rfl) (fun r12 u H locs hw hP hD hS => ?_)
          subst hw
          have hP : va_P D vwCl (kw Y [[(w 0, .inr (7, [.ref (a 0), .ref (b 0), .ref (w 1), .ref (w 2), .ref (d 0)]))], [(w 1, .inr (2, [.ref (w 3), .int (nI o), .int (nI z)]))], [(w 2, .inl (Y 3, 2, .inr (.inr (.inr (.inr (kAn F 7 2))))))], [(w 3, .inl (Y 3, 7, .inr (.inr (.inr (.inr (kAn F 0 7))))))], wM Y a M, wM Y b (cDays (cCopy M N) 0 dn), wP Y d P n t kd V vc] F) H := hP
          have hD : va_D A (kw Y [[(w 0, .inr (7, [.ref (a 0), .ref (b 0), .ref (w 1), .ref (w 2), .ref (d 0)]))], [(w 1, .inr (2, [.ref (w 3), .int (nI o), .int (nI z)]))], [(w 2, .inl (Y 3, 2, .inr (.inr (.inr (.inr (kAn F 7 2))))))], [(w 3, .inl (Y 3, 7, .inr (.inr (.inr (.inr (kAn F 0 7))))))], wM Y a M, wM Y b (cDays (cCopy M N) 0 dn), wP Y d P n t kd V vc] F) := hD
          refine lv_isub hx hb dX7_then_114 ?_
          exact kiret (cDays (cCopy M N) 0 dn) hQ hx hb hr hlocks hP hS dX7_then_115 (by have e := cThen_m hOK (T := cCopy M N) (kSim_copy hOK.1 hOK.2.1) (d := dn) (by omega) y; unfold cThen at e; unfold mThen; rw [if_pos c2, if_pos c4, nI_clamp (by omega), if_neg c7, if_neg c10]; rw [if_neg c7, if_neg c7, if_neg c10, if_neg c10] at e; exact e)
    · refine kTop (kb_f c4) ?_
      refine lv_if_ne (tgt := 23) hx hb dX7_then_17 (by decide) (fun h => False.elim (by revert h; decide)) (fun _ => ?_)
      refine lv_bipush (v := (-2)) hx hb dX7_then_20 (by decide) ?_
      exact kiret (N) hQ hx hb hr hlocks hP hS dX7_then_22 (by unfold mThen; rw [if_pos c2, if_neg c4])
  · refine kTop (kb_f c2) ?_
    refine lv_if_eq (tgt := 20) hx hb dX7_then_8 (by decide) (fun _ => ?_) (fun h => False.elim (by revert h; decide))
    refine lv_bipush (v := (-2)) hx hb dX7_then_20 (by decide) ?_
    exact kiret (N) hQ hx hb hr hlocks hP hS dX7_then_22 (by unfold mThen; rw [if_neg c2])
