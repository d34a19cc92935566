set_option maxHeartbeats 4000000 in
set_option maxRecDepth 100000 in
theorem c_X7_carryOutOrder (l : Launch) (D : va_G) (Y : Nat → ClassId) (w a b d : Nat → Nat) (M N : kN) (F : kFm) (o z : Nat) (P : Nat → Int32) (n t : Nat) (kd : Int32) (V : Nat → Int32) (vc : Nat) (hI : cI M) : kM l yX7_carryOutOrder wX7_carryOutOrder rX7_carryOutOrder D Y (wC Y w a b d M N F o z P n t kd V vc) [.ref (w 0)] kX0 (kQi D (fun r u => r = (cDo M kd V).1 ∧ u = (cDo M kd V).2) (fun u => wC Y w a b d u N F o z P n t kd V vc)) := by
  refine kentry (cc := cX7_carryOutOrder) (maxL := 2) (ret := (some .int)) (by decide +kernel) rfl (Nat.le_of_ble_eq_true rfl) ?_
  intro p e s0 m args below meth c A Q ls hQ hx hb hr hlocks hml hown hin hta hA hX0 hK hNs hP hD hS hl
  have hown : s0.vm.findClass RX7 = some m.cls := hown
  have hl : lv_has ls 2 [(0, .ref (w 0))] := hl
  have hP : va_P D vwCl (kw Y [[(w 0, .inr (7, [.ref (a 0), .ref (b 0), .ref (w 1), .ref (w 2), .ref (d 0)]))], [(w 1, .inr (2, [.ref (w 3), .int (nI o), .int (nI z)]))], [(w 2, .inl (Y 3, 2, .inr (.inr (.inr (.inr (kAn F 7 2))))))], [(w 3, .inl (Y 3, 7, .inr (.inr (.inr (.inr (kAn F 0 7))))))], wM Y a M, wM Y b N, wP Y d P n t kd V vc] F) s0.heap := hP
  have hD : va_D A (kw Y [[(w 0, .inr (7, [.ref (a 0), .ref (b 0), .ref (w 1), .ref (w 2), .ref (d 0)]))], [(w 1, .inr (2, [.ref (w 3), .int (nI o), .int (nI z)]))], [(w 2, .inl (Y 3, 2, .inr (.inr (.inr (.inr (kAn F 7 2))))))], [(w 3, .inl (Y 3, 7, .inr (.inr (.inr (.inr (kAn F 0 7))))))], wM Y a M, wM Y b N, wP Y d P n t kd V vc] F) := hD
  refine lv_aload_n hx hb dX7_carryOutOrder_0 rfl (lv_at hl 0 rfl) ?_
  refine gfX7_33 (v := .ref (d 0)) hx hb hta hown hK hP 0 rfl rfl dX7_carryOutOrder_1 ?_
  refine gfX7_182 (v := .ref (d 2)) hx hb hta hown hK hP 52 rfl rfl dX7_carryOutOrder_4 ?_
  refine lv_astore_n (lv' := [(1, .ref (d 2)), (0, .ref (w 0))]) hx hb dX7_carryOutOrder_7 rfl hl (by decide) rfl (fun ls hl => ?_)
  refine lv_aload_n hx hb dX7_carryOutOrder_8 rfl (lv_at hl 1 rfl) ?_
  refine gfX7_33 (v := .ref (d 0)) hx hb hta hown hK hP 0 rfl rfl dX7_carryOutOrder_9 ?_
  refine gfX7_185 (v := .int kd) hx hb hta hown hK hP 52 rfl rfl dX7_carryOutOrder_12 ?_
  by_cases c1 : kd = 102
  · refine lv_lookup (off := 41) (tgt := 56) hx hb dX7_carryOutOrder_15 (by decide) (by rw [c1]; decide) (by decide) ?_
    refine lv_aload_n hx hb dX7_carryOutOrder_56 rfl (lv_at hl 1 rfl) ?_
    refine gfX7_10 (v := .ref (a 0)) hx hb hta hown hK hP 0 rfl rfl dX7_carryOutOrder_57 ?_
    refine lv_aload_n hx hb dX7_carryOutOrder_60 rfl (lv_at hl 0 rfl) ?_
    refine lv_iconst (v := 0) hx hb dX7_carryOutOrder_61 (by decide) ?_
    refine kiald (f := V) hx hb hK hP 54 rfl 0 rfl (by omega) (by omega) dX7_carryOutOrder_62 ?_
    refine lv_aload_n hx hb dX7_carryOutOrder_63 rfl (lv_at hl 0 rfl) ?_
    refine lv_iconst (v := 1) hx hb dX7_carryOutOrder_64 (by decide) ?_
    refine kiald (f := V) hx hb hK hP 54 rfl 1 rfl (by omega) (by omega) dX7_carryOutOrder_65 ?_
    refine lv_aload_n hx hb dX7_carryOutOrder_66 rfl (lv_at hl 0 rfl) ?_
    refine lv_iconst (v := 2) hx hb dX7_carryOutOrder_67 (by decide) ?_
    refine kiald (f := V) hx hb hK hP 54 rfl 2 rfl (by omega) (by omega) dX7_carryOutOrder_68 ?_
    refine lv_aload_n hx hb dX7_carryOutOrder_69 rfl (lv_at hl 0 rfl) ?_
    refine lv_iconst (v := 3) hx hb dX7_carryOutOrder_70 (by decide) ?_
    refine kiald (f := V) hx hb hK hP 54 rfl 3 rfl (by omega) (by omega) dX7_carryOutOrder_71 ?_
    refine kc_i (krV (As := [.int (V 0), .int (V 1), .int (V 2), .int (V 3)]) (rest := []) (c_X3_addField l D Y a M (V 0) (V 1) (V 2) (V 3) hI) ⟨hx, hb, hml, hown, hta⟩ (cwX7_56 hta ⟨Nat.le_of_ble_eq_true rfl, Nat.le_of_ble_eq_true rfl⟩) kX0b (fun _ _ _ => trivial) hK hNs hP hD (kJ_w 4 rfl) (q0 := 0) rfl rfl rfl rfl hl.1 rfl (Nat.le_of_ble_eq_true rfl) dX7_carryOutOrder_72 ⟨Nat.le_of_ble_eq_true rfl, Nat.le_of_ble_eq_true rfl⟩) hP hD hS hA (kJ_w 4 rfl) (fun _ => rfl) (fun r2 u H locs hw hP hD hS => ?_)
    obtain ⟨rfl, rfl⟩ := hw
    have hP : va_P D vwCl (kw Y [[(w 0, .inr (7, [.ref (a 0), .ref (b 0), .ref (w 1), .ref (w 2), .ref (d 0)]))], [(w 1, .inr (2, [.ref (w 3), .int (nI o), .int (nI z)]))], [(w 2, .inl (Y 3, 2, .inr (.inr (.inr (.inr (kAn F 7 2))))))], [(w 3, .inl (Y 3, 7, .inr (.inr (.inr (.inr (kAn F 0 7))))))], wM Y a ((cField M (V 0) (V 1) (V 2) (V 3)).2), wM Y b N, wP Y d P n t kd V vc] F) H := hP
    have hD : va_D A (kw Y [[(w 0, .inr (7, [.ref (a 0), .ref (b 0), .ref (w 1), .ref (w 2), .ref (d 0)]))], [(w 1, .inr (2, [.ref (w 3), .int (nI o), .int (nI z)]))], [(w 2, .inl (Y 3, 2, .inr (.inr (.inr (.inr (kAn F 7 2))))))], [(w 3, .inl (Y 3, 7, .inr (.inr (.inr (.inr (kAn F 0 7))))))], wM Y a ((cField M (V 0) (V 1) (V 2) (V 3)).2), wM Y b N, wP Y d P n t kd V vc] F) := hD
    exact kiret ((cField M (V 0) (V 1) (V 2) (V 3)).2) hQ hx hb hr hlocks hP hS dX7_carryOutOrder_75 (by unfold cDo; rw [if_pos c1]; exact ⟨rfl, rfl⟩)
  · by_cases c3 : kd = 108
    · refine lv_lookup (off := 75) (tgt := 90) hx hb dX7_carryOutOrder_15 (by decide) (by rw [c3]; decide) (by decide) ?_
      refine lv_aload_n hx hb dX7_carryOutOrder_90 rfl (lv_at hl 1 rfl) ?_
      refine gfX7_10 (v := .ref (a 0)) hx hb hta hown hK hP 0 rfl rfl dX7_carryOutOrder_91 ?_
      refine lv_aload_n hx hb dX7_carryOutOrder_94 rfl (lv_at hl 0 rfl) ?_
      refine lv_iconst (v := 0) hx hb dX7_carryOutOrder_95 (by decide) ?_
      refine kiald (f := V) hx hb hK hP 54 rfl 0 rfl (by omega) (by omega) dX7_carryOutOrder_96 ?_
      refine lv_aload_n hx hb dX7_carryOutOrder_97 rfl (lv_at hl 0 rfl) ?_
      refine lv_iconst (v := 1) hx hb dX7_carryOutOrder_98 (by decide) ?_
      refine kiald (f := V) hx hb hK hP 54 rfl 1 rfl (by omega) (by omega) dX7_carryOutOrder_99 ?_
      refine lv_aload_n hx hb dX7_carryOutOrder_100 rfl (lv_at hl 0 rfl) ?_
      refine lv_iconst (v := 2) hx hb dX7_carryOutOrder_101 (by decide) ?_
      refine kiald (f := V) hx hb hK hP 54 rfl 2 rfl (by omega) (by omega) dX7_carryOutOrder_102 ?_
      refine kc_i (krV (As := [.int (V 0), .int (V 1), .int (V 2)]) (rest := []) (c_X3_lendQuota l D Y a M (V 0) (V 1) (V 2)) ⟨hx, hb, hml, hown, hta⟩ (cwX7_52 hta ⟨Nat.le_of_ble_eq_true rfl, Nat.le_of_ble_eq_true rfl⟩) kX0b (fun _ _ _ => trivial) hK hNs hP hD (kJ_w 4 rfl) (q0 := 0) rfl rfl rfl rfl hl.1 rfl (Nat.le_of_ble_eq_true rfl) dX7_carryOutOrder_103 ⟨Nat.le_of_ble_eq_true rfl, Nat.le_of_ble_eq_true rfl⟩) hP hD hS hA (kJ_w 4 rfl) (fun _ => rfl) (fun r4 u H locs hw hP hD hS => ?_)
      obtain ⟨rfl, rfl⟩ := hw
      have hP : va_P D vwCl (kw Y [[(w 0, .inr (7, [.ref (a 0), .ref (b 0), .ref (w 1), .ref (w 2), .ref (d 0)]))], [(w 1, .inr (2, [.ref (w 3), .int (nI o), .int (nI z)]))], [(w 2, .inl (Y 3, 2, .inr (.inr (.inr (.inr (kAn F 7 2))))))], [(w 3, .inl (Y 3, 7, .inr (.inr (.inr (.inr (kAn F 0 7))))))], wM Y a ((cLend M (V 0) (V 1) (V 2)).2), wM Y b N, wP Y d P n t kd V vc] F) H := hP
      have hD : va_D A (kw Y [[(w 0, .inr (7, [.ref (a 0), .ref (b 0), .ref (w 1), .ref (w 2), .ref (d 0)]))], [(w 1, .inr (2, [.ref (w 3), .int (nI o), .int (nI z)]))], [(w 2, .inl (Y 3, 2, .inr (.inr (.inr (.inr (kAn F 7 2))))))], [(w 3, .inl (Y 3, 7, .inr (.inr (.inr (.inr (kAn F 0 7))))))], wM Y a ((cLend M (V 0) (V 1) (V 2)).2), wM Y b N, wP Y d P n t kd V vc] F) := hD
      exact kiret ((cLend M (V 0) (V 1) (V 2)).2) hQ hx hb hr hlocks hP hS dX7_carryOutOrder_106 (by unfold cDo; rw [if_neg c1, if_pos c3]; exact ⟨rfl, rfl⟩)
    · by_cases c5 : kd = 113
      · refine lv_lookup (off := 61) (tgt := 76) hx hb dX7_carryOutOrder_15 (by decide) (by rw [c5]; decide) (by decide) ?_
        refine lv_aload_n hx hb dX7_carryOutOrder_76 rfl (lv_at hl 1 rfl) ?_
        refine gfX7_10 (v := .ref (a 0)) hx hb hta hown hK hP 0 rfl rfl dX7_carryOutOrder_77 ?_
        refine lv_aload_n hx hb dX7_carryOutOrder_80 rfl (lv_at hl 0 rfl) ?_
        refine lv_iconst (v := 0) hx hb dX7_carryOutOrder_81 (by decide) ?_
        refine kiald (f := V) hx hb hK hP 54 rfl 0 rfl (by omega) (by omega) dX7_carryOutOrder_82 ?_
        refine lv_aload_n hx hb dX7_carryOutOrder_83 rfl (lv_at hl 0 rfl) ?_
        refine lv_iconst (v := 1) hx hb dX7_carryOutOrder_84 (by decide) ?_
        refine kiald (f := V) hx hb hK hP 54 rfl 1 rfl (by omega) (by omega) dX7_carryOutOrder_85 ?_
        refine kc_i (krV (As := [.int (V 0), .int (V 1)]) (rest := []) (c_X3_changeQuota l D Y a M (V 0) (V 1)) ⟨hx, hb, hml, hown, hta⟩ (cwX7_49 hta ⟨Nat.le_of_ble_eq_true rfl, Nat.le_of_ble_eq_true rfl⟩) kX0b (fun _ _ _ => trivial) hK hNs hP hD (kJ_w 4 rfl) (q0 := 0) rfl rfl rfl rfl hl.1 rfl (Nat.le_of_ble_eq_true rfl) dX7_carryOutOrder_86 ⟨Nat.le_of_ble_eq_true rfl, Nat.le_of_ble_eq_true rfl⟩) hP hD hS hA (kJ_w 4 rfl) (fun _ => rfl) (fun r6 u H locs hw hP hD hS => ?_)
        obtain ⟨rfl, rfl⟩ := hw
        have hP : va_P D vwCl (kw Y [[(w 0, .inr (7, [.ref (a 0), .ref (b 0), .ref (w 1), .ref (w 2), .ref (d 0)]))], [(w 1, .inr (2, [.ref (w 3), .int (nI o), .int (nI z)]))], [(w 2, .inl (Y 3, 2, .inr (.inr (.inr (.inr (kAn F 7 2))))))], [(w 3, .inl (Y 3, 7, .inr (.inr (.inr (.inr (kAn F 0 7))))))], wM Y a ((cQuota M (V 0) (V 1)).2), wM Y b N, wP Y d P n t kd V vc] F) H := hP
        have hD : va_D A (kw Y [[(w 0, .inr (7, [.ref (a 0), .ref (b 0), .ref (w 1), .ref (w 2), .ref (d 0)]))], [(w 1, .inr (2, [.ref (w 3), .int (nI o), .int (nI z)]))], [(w 2, .inl (Y 3, 2, .inr (.inr (.inr (.inr (kAn F 7 2))))))], [(w 3, .inl (Y 3, 7, .inr (.inr (.inr (.inr (kAn F 0 7))))))], wM Y a ((cQuota M (V 0) (V 1)).2), wM Y b N, wP Y d P n t kd V vc] F) := hD
        exact kiret ((cQuota M (V 0) (V 1)).2) hQ hx hb hr hlocks hP hS dX7_carryOutOrder_89 (by unfold cDo; rw [if_neg c1, if_neg c3, if_pos c5]; exact ⟨rfl, rfl⟩)
      · by_cases c7 : kd = 115
        · refine lv_lookup (off := 92) (tgt := 107) hx hb dX7_carryOutOrder_15 (by decide) (by rw [c7]; decide) (by decide) ?_
          refine lv_aload_n hx hb dX7_carryOutOrder_107 rfl (lv_at hl 1 rfl) ?_
          refine gfX7_10 (v := .ref (a 0)) hx hb hta hown hK hP 0 rfl rfl dX7_carryOutOrder_108 ?_
          refine gfX7_60 (v := .ref (a 17)) hx hb hta hown hK hP 4 rfl rfl dX7_carryOutOrder_111 ?_
          refine lv_aload_n hx hb dX7_carryOutOrder_114 rfl (lv_at hl 0 rfl) ?_
          refine lv_iconst (v := 0) hx hb dX7_carryOutOrder_115 (by decide) ?_
          refine kiald (f := V) hx hb hK hP 54 rfl 0 rfl (by omega) (by omega) dX7_carryOutOrder_116 ?_
          refine lv_aload_n hx hb dX7_carryOutOrder_117 rfl (lv_at hl 0 rfl) ?_
          refine lv_iconst (v := 1) hx hb dX7_carryOutOrder_118 (by decide) ?_
          refine kiald (f := V) hx hb hK hP 54 rfl 1 rfl (by omega) (by omega) dX7_carryOutOrder_119 ?_
          refine kc_i (krV (As := [.int (V 0), .int (V 1)]) (rest := []) (c_X5_addStop l D Y a M (V 0) (V 1) hI) ⟨hx, hb, hml, hown, hta⟩ (cwX7_64 hta ⟨Nat.le_of_ble_eq_true rfl, Nat.le_of_ble_eq_true rfl⟩) kX0b (fun _ _ _ => trivial) hK hNs hP hD (kJ_w 4 rfl) (q0 := 17) rfl rfl rfl rfl hl.1 rfl (Nat.le_of_ble_eq_true rfl) dX7_carryOutOrder_120 ⟨Nat.le_of_ble_eq_true rfl, Nat.le_of_ble_eq_true rfl⟩) hP hD hS hA (kJ_w 4 rfl) (fun _ => rfl) (fun r8 u H locs hw hP hD hS => ?_)
          obtain ⟨rfl, rfl⟩ := hw
          have hP : va_P D vwCl (kw Y [[(w 0, .inr (7, [.ref (a 0), .ref (b 0), .ref (w 1), .ref (w 2), .ref (d 0)]))], [(w 1, .inr (2, [.ref (w 3), .int (nI o), .int (nI z)]))], [(w 2, .inl (Y 3, 2, .inr (.inr (.inr (.inr (kAn F 7 2))))))], [(w 3, .inl (Y 3, 7, .inr (.inr (.inr (.inr (kAn F 0 7))))))], wM Y a ((cStop M (V 0) (V 1)).2), wM Y b N, wP Y d P n t kd V vc] F) H := hP
          have hD : va_D A (kw Y [[(w 0, .inr (7, [.ref (a 0), .ref (b 0), .ref (w 1), .ref (w 2), .ref (d 0)]))], [(w 1, .inr (2, [.ref (w 3), .int (nI o), .int (nI z)]))], [(w 2, .inl (Y 3, 2, .inr (.inr (.inr (.inr (kAn F 7 2))))))], [(w 3, .inl (Y 3, 7, .inr (.inr (.inr (.inr (kAn F 0 7))))))], wM Y a ((cStop M (V 0) (V 1)).2), wM Y b N, wP Y d P n t kd V vc] F) := hD
          exact kiret ((cStop M (V 0) (V 1)).2) hQ hx hb hr hlocks hP hS dX7_carryOutOrder_123 (by unfold cDo; rw [if_neg c1, if_neg c3, if_neg c5, if_pos c7]; exact ⟨rfl, rfl⟩)
        · refine lv_lookup (off := 109) (tgt := 124) hx hb dX7_carryOutOrder_15 (by decide) (by have q0 : ¬ kd.toInt = 102 := fun h => c1 (Int32.toInt_inj.mp (h.trans (by decide))); have q1 : ¬ kd.toInt = 108 := fun h => c3 (Int32.toInt_inj.mp (h.trans (by decide))); have q2 : ¬ kd.toInt = 113 := fun h => c5 (Int32.toInt_inj.mp (h.trans (by decide))); have q3 : ¬ kd.toInt = 115 := fun h => c7 (Int32.toInt_inj.mp (h.trans (by decide))); simp [Op.lookupswitch.offset, q0, Ne.symm q0, q1, Ne.symm q1, q2, Ne.symm q2, q3, Ne.symm q3]) (by decide) ?_
          refine lv_aload_n hx hb dX7_carryOutOrder_124 rfl (lv_at hl 1 rfl) ?_
          refine gfX7_10 (v := .ref (a 0)) hx hb hta hown hK hP 0 rfl rfl dX7_carryOutOrder_125 ?_
          refine lv_aload_n hx hb dX7_carryOutOrder_128 rfl (lv_at hl 0 rfl) ?_
          refine lv_iconst (v := 0) hx hb dX7_carryOutOrder_129 (by decide) ?_
          refine kiald (f := V) hx hb hK hP 54 rfl 0 rfl (by omega) (by omega) dX7_carryOutOrder_130 ?_
          refine kc_i (krV (As := [.int (V 0)]) (rest := []) (c_X3_passDays l D Y a M (V 0) hI) ⟨hx, hb, hml, hown, hta⟩ (cwX7_72 hta ⟨Nat.le_of_ble_eq_true rfl, Nat.le_of_ble_eq_true rfl⟩) kX0b (fun _ _ _ => trivial) hK hNs hP hD (kJ_w 4 rfl) (q0 := 0) rfl rfl rfl rfl hl.1 rfl (Nat.le_of_ble_eq_true rfl) dX7_carryOutOrder_131 ⟨Nat.le_of_ble_eq_true rfl, Nat.le_of_ble_eq_true rfl⟩) hP hD hS hA (kJ_w 4 rfl) (fun _ => rfl) (fun r9 u H locs hw hP hD hS => ?_)
          obtain ⟨rfl, rfl⟩ := hw
          have hP : va_P D vwCl (kw Y [[(w 0, .inr (7, [.ref (a 0), .ref (b 0), .ref (w 1), .ref (w 2), .ref (d 0)]))], [(w 1, .inr (2, [.ref (w 3), .int (nI o), .int (nI z)]))], [(w 2, .inl (Y 3, 2, .inr (.inr (.inr (.inr (kAn F 7 2))))))], [(w 3, .inl (Y 3, 7, .inr (.inr (.inr (.inr (kAn F 0 7))))))], wM Y a ((cPass M (V 0)).2), wM Y b N, wP Y d P n t kd V vc] F) H := hP
          have hD : va_D A (kw Y [[(w 0, .inr (7, [.ref (a 0), .ref (b 0), .ref (w 1), .ref (w 2), .ref (d 0)]))], [(w 1, .inr (2, [.ref (w 3), .int (nI o), .int (nI z)]))], [(w 2, .inl (Y 3, 2, .inr (.inr (.inr (.inr (kAn F 7 2))))))], [(w 3, .inl (Y 3, 7, .inr (.inr (.inr (.inr (kAn F 0 7))))))], wM Y a ((cPass M (V 0)).2), wM Y b N, wP Y d P n t kd V vc] F) := hD
          exact kiret ((cPass M (V 0)).2) hQ hx hb hr hlocks hP hS dX7_carryOutOrder_134 (by unfold cDo; rw [if_neg c1, if_neg c3, if_neg c5, if_neg c7]; exact ⟨rfl, rfl⟩)
