set_option maxHeartbeats 4000000 in
set_option maxRecDepth 100000 in
theorem c_X2_recordUnlessError (l : Launch) (D : va_G) (Y : Nat → ClassId) (w a b d : Nat → Nat) (M N : kN) (F : kFm) (o z : Nat) (P : Nat → Int32) (n t : Nat) (kd : Int32) (V : Nat → Int32) (vc : Nat) (v : Int32) (ho : o < 7) (hz : z ≤ 6) : kM l yX2_recordUnlessError wX2_recordUnlessError rX2_recordUnlessError D Y (wC Y w a b d M N F o z P n t kd V vc) [.ref (w 1), .int v] kX0 (kQi D (fun r u => r = v ∧ u = cRecd v o z) (fun u => wC Y w a b d M N F u.1 u.2 P n t kd V vc)) := by
  refine kentry (cc := cX2_recordUnlessError) (maxL := 2) (ret := (some .int)) (by decide +kernel) rfl (Nat.le_of_ble_eq_true rfl) ?_
  intro p e s0 m args below meth c A Q ls hQ hx hb hr hlocks hml hown hin hta hA hX0 hK hNs hP hD hS hl
  have hown : s0.vm.findClass RX2 = some m.cls := hown
  have hl : lv_has ls 2 [(0, .ref (w 1)), (1, .int v)] := hl
  have hP : va_P D vwCl (kw Y [[(w 0, .inr (7, [.ref (a 0), .ref (b 0), .ref (w 1), .ref (w 2), .ref (d 0)]))], [(w 1, .inr (2, [.ref (w 3), .int (nI o), .int (nI z)]))], [(w 2, .inl (Y 3, 2, .inr (.inr (.inr (.inr (kAn F 7 2))))))], [(w 3, .inl (Y 3, 7, .inr (.inr (.inr (.inr (kAn F 0 7))))))], wM Y a M, wM Y b N, wP Y d P n t kd V vc] F) s0.heap := hP
  have hD : va_D A (kw Y [[(w 0, .inr (7, [.ref (a 0), .ref (b 0), .ref (w 1), .ref (w 2), .ref (d 0)]))], [(w 1, .inr (2, [.ref (w 3), .int (nI o), .int (nI z)]))], [(w 2, .inl (Y 3, 2, .inr (.inr (.inr (.inr (kAn F 7 2))))))], [(w 3, .inl (Y 3, 7, .inr (.inr (.inr (.inr (kAn F 0 7))))))], wM Y a M, wM Y b N, wP Y d P n t kd V vc] F) := hD
  refine lv_iload_n hx hb dX2_recordUnlessError_0 rfl (lv_at hl 1 rfl) ?_
  refine lv_if_ge (tgt := 6) hx hb dX2_recordUnlessError_1 (by decide) (fun c1 => ?_) (fun c1 => ?_)
  · refine lv_aload_n hx hb dX2_recordUnlessError_6 rfl (lv_at hl 0 rfl) ?_
    refine gfX2_21 (v := .int (nI z)) hx hb hta hown hK hP 1 rfl rfl dX2_recordUnlessError_7 ?_
    refine lv_bipush (v := 6) hx hb dX2_recordUnlessError_10 (by decide) ?_
    refine lv_icmp_ge (tgt := 28) hx hb dX2_recordUnlessError_12 (by decide) (fun c2 => ?_) (fun c2 => ?_)
    · have c2n : 6 ≤ z := (nI_leI (a := 6) (b := z) (by omega) (by omega)).mp c2
      refine lv_aload_n hx hb dX2_recordUnlessError_28 rfl (lv_at hl 0 rfl) ?_
      refine lv_aload_n hx hb dX2_recordUnlessError_29 rfl (lv_at hl 0 rfl) ?_
      refine gfX2_17 (v := .int (nI o)) hx hb hta hown hK hP 1 rfl rfl dX2_recordUnlessError_30 ?_
      refine lv_iconst (v := 1) hx hb dX2_recordUnlessError_33 (by decide) ?_
      refine lv_iadd hx hb dX2_recordUnlessError_34 ?_
      refine kTop (nI_add o 1) ?_
      refine lv_bipush (v := 7) hx hb dX2_recordUnlessError_35 (by decide) ?_
      refine lv_irem hx hb dX2_recordUnlessError_37 (by decide) ?_
      refine kTop (kRem7 (a := o + 1) (by omega)) ?_
      refine pfX2_17 (ws1 := kw Y [[(w 0, .inr (7, [.ref (a 0), .ref (b 0), .ref (w 1), .ref (w 2), .ref (d 0)]))], [(w 1, .inr (2, [.ref (w 3), .int (nI ((o + 1) % 7)), .int (nI z)]))], [(w 2, .inl (Y 3, 2, .inr (.inr (.inr (.inr (kAn F 7 2))))))], [(w 3, .inl (Y 3, 7, .inr (.inr (.inr (.inr (kAn F 0 7))))))], wM Y a M, wM Y b N, wP Y d P n t kd V vc] F) hx hb hta hown hK hP hD hS 1 rfl (Nat.le_of_ble_eq_true rfl) rfl dX2_recordUnlessError_38 (fun H locs hP hD hS => ?_)
      refine lv_iload_n hx hb dX2_recordUnlessError_41 rfl (lv_at hl 1 rfl) ?_
      exact kiret (((o + 1) % 7, z)) hQ hx hb hr hlocks hP hS dX2_recordUnlessError_42 (by unfold cRecd; rw [if_neg (Int32.not_lt.mpr c1), if_neg (by omega)]; exact ⟨rfl, rfl⟩)
    · have c2n : ¬ 6 ≤ z := fun h => c2 ((nI_leI (a := 6) (b := z) (by omega) (by omega)).mpr h)
      refine lv_aload_n hx hb dX2_recordUnlessError_15 rfl (lv_at hl 0 rfl) ?_
      refine lv_dup hx hb dX2_recordUnlessError_16 rfl ?_
      refine gfX2_21 (v := .int (nI z)) hx hb hta hown hK hP 1 rfl rfl dX2_recordUnlessError_17 ?_
      refine lv_iconst (v := 1) hx hb dX2_recordUnlessError_20 (by decide) ?_
      refine lv_iadd hx hb dX2_recordUnlessError_21 ?_
      refine kTop (nI_add z 1) ?_
      refine pfX2_21 (ws1 := kw Y [[(w 0, .inr (7, [.ref (a 0), .ref (b 0), .ref (w 1), .ref (w 2), .ref (d 0)]))], [(w 1, .inr (2, [.ref (w 3), .int (nI o), .int (nI (z + 1))]))], [(w 2, .inl (Y 3, 2, .inr (.inr (.inr (.inr (kAn F 7 2))))))], [(w 3, .inl (Y 3, 7, .inr (.inr (.inr (.inr (kAn F 0 7))))))], wM Y a M, wM Y b N, wP Y d P n t kd V vc] F) hx hb hta hown hK hP hD hS 1 rfl (Nat.le_of_ble_eq_true rfl) rfl dX2_recordUnlessError_22 (fun H locs hP hD hS => ?_)
      refine lv_goto (tgt := 41) hx hb dX2_recordUnlessError_25 (by decide) ?_
      refine lv_iload_n hx hb dX2_recordUnlessError_41 rfl (lv_at hl 1 rfl) ?_
      exact kiret ((o, z + 1)) hQ hx hb hr hlocks hP hS dX2_recordUnlessError_42 (by unfold cRecd; rw [if_neg (Int32.not_lt.mpr c1), if_pos (by omega)]; exact ⟨rfl, rfl⟩)
  · refine lv_iload_n hx hb dX2_recordUnlessError_4 rfl (lv_at hl 1 rfl) ?_
    exact kiret ((o, z)) hQ hx hb hr hlocks hP hS dX2_recordUnlessError_5 (by unfold cRecd; rw [if_pos (Int32.not_le.mp c1)]; exact ⟨rfl, rfl⟩)
