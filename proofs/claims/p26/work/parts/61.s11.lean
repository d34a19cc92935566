set_option maxHeartbeats 4000000 in
set_option maxRecDepth 100000 in
theorem c_X7_count (l : Launch) (D : va_G) (Y : Nat → ClassId) (w a b d : Nat → Nat) (M N : kN) (F : kFm) (o z : Nat) (P : Nat → Int32) (n t : Nat) (kd : Int32) (V : Nat → Int32) (vc : Nat) (q : Int32) (hI : cI M) : kM l yX7_count wX7_count rX7_count D Y (wC Y w a b d M N F o z P n t kd V vc) [.ref (w 0), .int q] kX0 (kQi D (fun r (_ : Unit) => r = cCt M n z q) (fun _ => wC Y w a b d M N F o z P n t kd V vc)) := by
  refine kentry (cc := cX7_count) (maxL := 2) (ret := (some .int)) (by decide +kernel) rfl (Nat.le_of_ble_eq_true rfl) ?_
  intro p e s0 m args below meth c A Q ls hQ hx hb hr hlocks hml hown hin hta hA hX0 hK hNs hP hD hS hl
  have hown : s0.vm.findClass RX7 = some m.cls := hown
  have hl : lv_has ls 2 [(0, .ref (w 0)), (1, .int q)] := hl
  have hP : va_P D vwCl (kw Y [[(w 0, .inr (7, [.ref (a 0), .ref (b 0), .ref (w 1), .ref (w 2), .ref (d 0)]))], [(w 1, .inr (2, [.ref (w 3), .int (nI o), .int (nI z)]))], [(w 2, .inl (Y 3, 2, .inr (.inr (.inr (.inr (kAn F 7 2))))))], [(w 3, .inl (Y 3, 7, .inr (.inr (.inr (.inr (kAn F 0 7))))))], wM Y a M, wM Y b N, wP Y d P n t kd V vc] F) s0.heap := hP
  have hD : va_D A (kw Y [[(w 0, .inr (7, [.ref (a 0), .ref (b 0), .ref (w 1), .ref (w 2), .ref (d 0)]))], [(w 1, .inr (2, [.ref (w 3), .int (nI o), .int (nI z)]))], [(w 2, .inl (Y 3, 2, .inr (.inr (.inr (.inr (kAn F 7 2))))))], [(w 3, .inl (Y 3, 7, .inr (.inr (.inr (.inr (kAn F 0 7))))))], wM Y a M, wM Y b N, wP Y d P n t kd V vc] F) := hD
  refine lv_iload_n hx hb dX7_count_0 rfl (lv_at hl 1 rfl) ?_
  by_cases c1 : q = 18
  · refine lv_lookup (off := 27) (tgt := 28) hx hb dX7_count_1 (by decide) (by rw [c1]; decide) (by decide) ?_
    refine lv_aload_n hx hb dX7_count_28 rfl (lv_at hl 0 rfl) ?_
    refine gfX7_33 (v := .ref (d 0)) hx hb hta hown hK hP 0 rfl rfl dX7_count_29 ?_
    refine gfX7_90 (v := .int (nI n)) hx hb hta hown hK hP 52 rfl rfl dX7_count_32 ?_
    exact kiret (()) hQ hx hb hr hlocks hP hS dX7_count_35 (by unfold cCt; rw [if_pos c1])
  · by_cases c2 : q = 19
    · refine lv_lookup (off := 35) (tgt := 36) hx hb dX7_count_1 (by decide) (by rw [c2]; decide) (by decide) ?_
      refine lv_aload_n hx hb dX7_count_36 rfl (lv_at hl 0 rfl) ?_
      refine gfX7_22 (v := .ref (w 1)) hx hb hta hown hK hP 0 rfl rfl dX7_count_37 ?_
      refine gfX7_94 (v := .int (nI z)) hx hb hta hown hK hP 1 rfl rfl dX7_count_40 ?_
      exact kiret (()) hQ hx hb hr hlocks hP hS dX7_count_43 (by unfold cCt; rw [if_neg c1, if_pos c2])
    · refine lv_lookup (off := 43) (tgt := 44) hx hb dX7_count_1 (by decide) (by have q0 : ¬ q.toInt = 18 := fun h => c1 (Int32.toInt_inj.mp (h.trans (by decide))); have q1 : ¬ q.toInt = 19 := fun h => c2 (Int32.toInt_inj.mp (h.trans (by decide))); simp [Op.lookupswitch.offset, q0, Ne.symm q0, q1, Ne.symm q1]) (by decide) ?_
      refine lv_aload_n hx hb dX7_count_44 rfl (lv_at hl 0 rfl) ?_
      refine gfX7_10 (v := .ref (a 0)) hx hb hta hown hK hP 0 rfl rfl dX7_count_45 ?_
      refine lv_iload_n hx hb dX7_count_48 rfl (lv_at hl 1 rfl) ?_
      refine kc_i (krV (As := [.int q]) (rest := []) (c_X3_numberOfAll l D Y a M q) ⟨hx, hb, hml, hown, hta⟩ (cwX7_97 hta ⟨Nat.le_of_ble_eq_true rfl, Nat.le_of_ble_eq_true rfl⟩) kX0b (fun _ _ _ => trivial) hK hNs hP hD (kJ_w 4 rfl) (q0 := 0) rfl rfl rfl rfl hl.1 rfl (Nat.le_of_ble_eq_true rfl) dX7_count_49 ⟨Nat.le_of_ble_eq_true rfl, Nat.le_of_ble_eq_true rfl⟩) hP hD hS hA (kJ_w 4 rfl) (fun _ => rfl) (fun r3 u H locs hw hP hD hS => ?_)
      subst hw
      have hP : va_P D vwCl (kw Y [[(w 0, .inr (7, [.ref (a 0), .ref (b 0), .ref (w 1), .ref (w 2), .ref (d 0)]))], [(w 1, .inr (2, [.ref (w 3), .int (nI o), .int (nI z)]))], [(w 2, .inl (Y 3, 2, .inr (.inr (.inr (.inr (kAn F 7 2))))))], [(w 3, .inl (Y 3, 7, .inr (.inr (.inr (.inr (kAn F 0 7))))))], wM Y a M, wM Y b N, wP Y d P n t kd V vc] F) H := hP
      have hD : va_D A (kw Y [[(w 0, .inr (7, [.ref (a 0), .ref (b 0), .ref (w 1), .ref (w 2), .ref (d 0)]))], [(w 1, .inr (2, [.ref (w 3), .int (nI o), .int (nI z)]))], [(w 2, .inl (Y 3, 2, .inr (.inr (.inr (.inr (kAn F 7 2))))))], [(w 3, .inl (Y 3, 7, .inr (.inr (.inr (.inr (kAn F 0 7))))))], wM Y a M, wM Y b N, wP Y d P n t kd V vc] F) := hD
      exact kiret (()) hQ hx hb hr hlocks hP hS dX7_count_52 (by unfold cCt; rw [if_neg c1, if_neg c2])
