set_option maxHeartbeats 4000000 in
set_option maxRecDepth 100000 in
theorem c_X7_undo (l : Launch) (D : va_G) (Y : Nat → ClassId) (w a b d : Nat → Nat) (M N : kN) (F : kFm) (o z : Nat) (P : Nat → Int32) (n t : Nat) (kd : Int32) (V : Nat → Int32) (vc : Nat) (ho : o < 7) (hz : z ≤ 6) (hU : 0 < z → ∃ (α : Nat → Nat) (X : kN), F ((o + (z - 1)) % 7) = some (α, X) ∧ cI X) : kM l yX7_undo wX7_undo rX7_undo D Y (wC Y w a b d M N F o z P n t kd V vc) [.ref (w 0)] kX0 (kQi D (fun r u => cUndoP M F o z r u) (fun u => wC Y w a b d u.1 N F o u.2 P n t kd V vc)) := by
  refine kentry (cc := cX7_undo) (maxL := 1) (ret := (some .int)) (by decide +kernel) rfl (Nat.le_of_ble_eq_true rfl) ?_
  intro p e s0 m args below meth c A Q ls hQ hx hb hr hlocks hml hown hin hta hA hX0 hK hNs hP hD hS hl
  have hown : s0.vm.findClass RX7 = some m.cls := hown
  have hl : lv_has ls 1 [(0, .ref (w 0))] := hl
  have hP : va_P D vwCl (kw Y [[(w 0, .inr (7, [.ref (a 0), .ref (b 0), .ref (w 1), .ref (w 2), .ref (d 0)]))], [(w 1, .inr (2, [.ref (w 3), .int (nI o), .int (nI z)]))], [(w 2, .inl (Y 3, 2, .inr (.inr (.inr (.inr (kAn F 7 2))))))], [(w 3, .inl (Y 3, 7, .inr (.inr (.inr (.inr (kAn F 0 7))))))], wM Y a M, wM Y b N, wP Y d P n t kd V vc] F) s0.heap := hP
  have hD : va_D A (kw Y [[(w 0, .inr (7, [.ref (a 0), .ref (b 0), .ref (w 1), .ref (w 2), .ref (d 0)]))], [(w 1, .inr (2, [.ref (w 3), .int (nI o), .int (nI z)]))], [(w 2, .inl (Y 3, 2, .inr (.inr (.inr (.inr (kAn F 7 2))))))], [(w 3, .inl (Y 3, 7, .inr (.inr (.inr (.inr (kAn F 0 7))))))], wM Y a M, wM Y b N, wP Y d P n t kd V vc] F) := hD
  refine lv_aload_n hx hb dX7_undo_0 rfl (lv_at hl 0 rfl) ?_
  refine gfX7_22 (v := .ref (w 1)) hx hb hta hown hK hP 0 rfl rfl dX7_undo_1 ?_
  refine gfX7_94 (v := .int (nI z)) hx hb hta hown hK hP 1 rfl rfl dX7_undo_4 ?_
  refine lv_if_ne (tgt := 13) hx hb dX7_undo_7 (by decide) (fun c1 => ?_) (fun c1 => ?_)
  · have c1n : ¬ z = 0 := fun h => c1 ((nI_eq (a := z) (b := 0) (by omega) (by omega)).mpr h)
    have hz0 : 0 < z := by omega
    obtain ⟨α, X, hF, hXI⟩ := hU hz0
    refine lv_aload_n hx hb dX7_undo_13 rfl (lv_at hl 0 rfl) ?_
    refine gfX7_22 (v := .ref (w 1)) hx hb hta hown hK hP 0 rfl rfl dX7_undo_14 ?_
    refine lv_aload_n hx hb dX7_undo_17 rfl (lv_at hl 0 rfl) ?_
    refine gfX7_10 (v := .ref (a 0)) hx hb hta hown hK hP 0 rfl rfl dX7_undo_18 ?_
    refine kc_v (krV (As := [.ref (a 0)]) (rest := []) (c_X2_bringBackLatest l D Y w a b d M N F o z P n t kd V vc α X hXI ho hz hz0 hF) ⟨hx, hb, hml, hown, hta⟩ (cwX7_189 hta ⟨Nat.le_of_ble_eq_true rfl, Nat.le_of_ble_eq_true rfl⟩) kX0b (fun _ _ _ => trivial) hK hNs hP hD (kJ_all) (q0 := 1) rfl rfl rfl rfl hl.1 rfl (Nat.le_of_ble_eq_true rfl) dX7_undo_21 ⟨Nat.le_of_ble_eq_true rfl, Nat.le_of_ble_eq_true rfl⟩) hP hD hS hA (kJ_all) (fun _ => rfl) (fun u H locs hw hP hD hS => ?_)
    subst hw
    have hP : va_P D vwCl (kw Y [[(w 0, .inr (7, [.ref (a 0), .ref (b 0), .ref (w 1), .ref (w 2), .ref (d 0)]))], [(w 1, .inr (2, [.ref (w 3), .int (nI o), .int (nI (z - 1))]))], [(w 2, .inl (Y 3, 2, .inr (.inr (.inr (.inr (kAn F 7 2))))))], [(w 3, .inl (Y 3, 7, .inr (.inr (.inr (.inr (kAn F 0 7))))))], wM Y a (cCopy X M), wM Y b N, wP Y d P n t kd V vc] F) H := hP
    have hD : va_D A (kw Y [[(w 0, .inr (7, [.ref (a 0), .ref (b 0), .ref (w 1), .ref (w 2), .ref (d 0)]))], [(w 1, .inr (2, [.ref (w 3), .int (nI o), .int (nI (z - 1))]))], [(w 2, .inl (Y 3, 2, .inr (.inr (.inr (.inr (kAn F 7 2))))))], [(w 3, .inl (Y 3, 7, .inr (.inr (.inr (.inr (kAn F 0 7))))))], wM Y a (cCopy X M), wM Y b N, wP Y d P n t kd V vc] F) := hD
    refine lv_aload_n hx hb dX7_undo_24 rfl (lv_at hl 0 rfl) ?_
    refine gfX7_22 (v := .ref (w 1)) hx hb hta hown hK hP 0 rfl rfl dX7_undo_25 ?_
    refine gfX7_94 (v := .int (nI (z - 1))) hx hb hta hown hK hP 1 rfl rfl dX7_undo_28 ?_
    exact kiret ((cCopy X M, z - 1)) hQ hx hb hr hlocks hP hS dX7_undo_31 (by unfold cUndoP; rw [if_neg (by omega)]; exact ⟨rfl, rfl, α, X, hF, rfl⟩)
  · have c1n : z = 0 := (nI_eq (a := z) (b := 0) (by omega) (by omega)).mp c1
    refine lv_bipush (v := (-5)) hx hb dX7_undo_10 (by decide) ?_
    exact kiret ((M, z)) hQ hx hb hr hlocks hP hS dX7_undo_12 (by unfold cUndoP; rw [if_pos (by omega)]; exact ⟨rfl, rfl⟩)
