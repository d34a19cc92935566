set_option maxHeartbeats 4000000 in
set_option maxRecDepth 100000 in
theorem c_X2_prepare (l : Launch) (D : va_G) (Y : Nat → ClassId) (w a b d : Nat → Nat) (M N : kN) (F : kFm) (o z : Nat) (P : Nat → Int32) (n t : Nat) (kd : Int32) (V : Nat → Int32) (vc : Nat) (hI : cI M) (ho : o < 7) (hz : z ≤ 6) : kM l yX2_prepare wX2_prepare rX2_prepare D Y (wC Y w a b d M N F o z P n t kd V vc) [.ref (w 1), .ref (a 0)] kX0 (kQvn D (fun u => kPrep M F ((o + z) % 7) u) (fun u => wC Y w a b d M N u o z P n t kd V vc)) := by
  refine kentry (cc := cX2_prepare) (maxL := 4) (ret := none) (by decide +kernel) rfl (Nat.le_of_ble_eq_true rfl) ?_
  intro p e s0 m args below meth c A Q ls hQ hx hb hr hlocks hml hown hin hta hA hX0 hK hNs hP hD hS hl
  have hown : s0.vm.findClass RX2 = some m.cls := hown
  have hl : lv_has ls 4 [(0, .ref (w 1)), (1, .ref (a 0))] := hl
  have hP : va_P D vwCl (kw Y [[(w 0, .inr (7, [.ref (a 0), .ref (b 0), .ref (w 1), .ref (w 2), .ref (d 0)]))], [(w 1, .inr (2, [.ref (w 3), .int (nI o), .int (nI z)]))], [(w 2, .inl (Y 3, 2, .inr (.inr (.inr (.inr (kAn F 7 2))))))], [(w 3, .inl (Y 3, 7, .inr (.inr (.inr (.inr (kAn F 0 7))))))], wM Y a M, wM Y b N, wP Y d P n t kd V vc] F) s0.heap := hP
  have hD : va_D A (kw Y [[(w 0, .inr (7, [.ref (a 0), .ref (b 0), .ref (w 1), .ref (w 2), .ref (d 0)]))], [(w 1, .inr (2, [.ref (w 3), .int (nI o), .int (nI z)]))], [(w 2, .inl (Y 3, 2, .inr (.inr (.inr (.inr (kAn F 7 2))))))], [(w 3, .inl (Y 3, 7, .inr (.inr (.inr (.inr (kAn F 0 7))))))], wM Y a M, wM Y b N, wP Y d P n t kd V vc] F) := hD
  have hpl : (o + z) % 7 < 7 := Nat.mod_lt _ (by decide)
  refine lv_aload_n hx hb dX2_prepare_0 rfl (lv_at hl 0 rfl) ?_
  refine gfX2_17 (v := .int (nI o)) hx hb hta hown hK hP 1 rfl rfl dX2_prepare_1 ?_
  refine lv_aload_n hx hb dX2_prepare_4 rfl (lv_at hl 0 rfl) ?_
  refine gfX2_21 (v := .int (nI z)) hx hb hta hown hK hP 1 rfl rfl dX2_prepare_5 ?_
  refine lv_iadd hx hb dX2_prepare_8 ?_
  refine kTop (nI_add o z) ?_
  refine lv_bipush (v := 7) hx hb dX2_prepare_9 (by decide) ?_
  refine lv_irem hx hb dX2_prepare_11 (by decide) ?_
  refine kTop (kRem7 (a := o + z) (by omega)) ?_
  refine lv_istore_n (lv' := [(2, .int (nI ((o + z) % 7))), (0, .ref (w 1)), (1, .ref (a 0))]) hx hb dX2_prepare_12 rfl hl (by decide) rfl (fun ls hl => ?_)
  refine lv_aload_n hx hb dX2_prepare_13 rfl (lv_at hl 1 rfl) ?_
  refine gfX2_13 (v := .ref (w 3)) hx hb hta hown hK hP 1 rfl rfl dX2_prepare_14 ?_
  refine lv_iload_n hx hb dX2_prepare_17 rfl (lv_at hl 0 rfl) ?_
  refine kaald (f := kAn F 0 7) hx hb hK hP 3 rfl ((o + z) % 7) rfl (by omega) (by omega) dX2_prepare_18 ?_
  cases hF1 : F ((o + z) % 7) with
  | none =>
    refine kTopv (kAn_n (i := 0) (q := ((o + z) % 7)) (by omega) (by rw [Nat.zero_add]; exact hF1)) ?_
    refine lv_astore_nN (lv' := [(3, .null), (2, .int (nI ((o + z) % 7))), (0, .ref (w 1)), (1, .ref (a 0))]) hx hb dX2_prepare_19 rfl hl (by decide) rfl (fun ls hl => ?_)
    refine lv_aload_nN hx hb dX2_prepare_20 rfl (lv_at hl 0 rfl) ?_
    refine lv_ifnonnullN hx hb dX2_prepare_21 ?_
    refine va_new (ci := 3) (fs := [.null, .null, .null, .null, .null, .int 0, .int 0, .int 0, .int 0]) (C := RX3) (T := TX3) (N := 9) hx hb hta inA3 tyX3 tyX3_ok hown (hta _ al_91) (hta _ al_24) (hta _ al_25) hK hP hD hS hA rfl (fun j hj => by rcases (show j = 0 ∨ j = 1 ∨ j = 2 ∨ j = 3 ∨ j = 4 ∨ j = 5 ∨ j = 6 ∨ j = 7 ∨ j = 8 by omega) with rfl | rfl | rfl | rfl | rfl | rfl | rfl | rfl | rfl <;> rfl) (Nat.le_of_ble_eq_true rfl) (Nat.le_of_ble_eq_true rfl) dX2_prepare_24 (fun q2 H hP hD hS => ?_)
    refine lv_dup hx hb dX2_prepare_27 rfl ?_
    refine kc_vn (krIN (As := []) (rest := [.ref q2]) (c_X3_init l D Y q2) ⟨hx, hb, hml, hown, hta⟩ (cwX2_24 hta hNs ⟨Nat.le_of_ble_eq_true rfl, Nat.le_of_ble_eq_true rfl⟩) kX0b (fun _ _ _ => trivial) hK hNs hP hD (kJ_of (List.Perm.refl _)) rfl hl.1 rfl (Nat.le_of_ble_eq_true rfl) dX2_prepare_28 ⟨Nat.le_of_ble_eq_true rfl, Nat.le_of_ble_eq_true rfl⟩) hP hD hS hA (kJn_r) (fun u3 H locs hw hP hD hS => ?_)
    rw [← hw]
    have hP : va_P D vwCl (kw Y [[(w 0, .inr (7, [.ref (a 0), .ref (b 0), .ref (w 1), .ref (w 2), .ref (d 0)]))], [(w 1, .inr (2, [.ref (w 3), .int (nI o), .int (nI z)]))], [(w 2, .inl (Y 3, 2, .inr (.inr (.inr (.inr (kAn F 7 2))))))], [(w 3, .inl (Y 3, 7, .inr (.inr (.inr (.inr (kAn F 0 7))))))], wM Y a M, wM Y b N, wP Y d P n t kd V vc] F ++ wM Y u3 cNew) H := hP
    have hD : va_D A (kw Y [[(w 0, .inr (7, [.ref (a 0), .ref (b 0), .ref (w 1), .ref (w 2), .ref (d 0)]))], [(w 1, .inr (2, [.ref (w 3), .int (nI o), .int (nI z)]))], [(w 2, .inl (Y 3, 2, .inr (.inr (.inr (.inr (kAn F 7 2))))))], [(w 3, .inl (Y 3, 7, .inr (.inr (.inr (.inr (kAn F 0 7))))))], wM Y a M, wM Y b N, wP Y d P n t kd V vc] F ++ wM Y u3 cNew) := hD
    refine lv_astore_n (lv' := [(3, .ref (u3 0)), (2, .int (nI ((o + z) % 7))), (0, .ref (w 1)), (1, .ref (a 0))]) hx hb dX2_prepare_31 rfl hl (by decide) rfl (fun ls hl => ?_)
    refine lv_aload_n hx hb dX2_prepare_32 rfl (lv_at hl 2 rfl) ?_
    refine gfX2_13 (v := .ref (w 3)) hx hb hta hown hK hP 1 rfl rfl dX2_prepare_33 ?_
    refine lv_iload_n hx hb dX2_prepare_36 rfl (lv_at hl 1 rfl) ?_
    refine lv_aload_n hx hb dX2_prepare_37 rfl (lv_at hl 0 rfl) ?_
    refine kaast (f := kAn F 0 7) hx hb hK hP hD hS 3 (kw Y [[(w 0, .inr (7, [.ref (a 0), .ref (b 0), .ref (w 1), .ref (w 2), .ref (d 0)]))], [(w 1, .inr (2, [.ref (w 3), .int (nI o), .int (nI z)]))], [(w 2, .inl (Y 3, 2, .inr (.inr (.inr (.inr (kAn F 7 2))))))], [(w 3, .inl (Y 3, 7, .inr (.inr (.inr (.inr (kAn F 0 7))))))], wM Y a M, wM Y b N, wP Y d P n t kd V vc] F).length rfl (by rw [List.getElem?_append_right (Nat.le_refl _), Nat.sub_self]; rfl) ((o + z) % 7) rfl (by omega) (by omega) dX2_prepare_38 (kw Y [[(w 0, .inr (7, [.ref (a 0), .ref (b 0), .ref (w 1), .ref (w 2), .ref (d 0)]))], [(w 1, .inr (2, [.ref (w 3), .int (nI o), .int (nI z)]))], [(w 2, .inl (Y 3, 2, .inr (.inr (.inr (.inr (kAn F 7 2))))))], [(w 3, .inl (Y 3, 7, .inr (.inr (.inr (.inr (va_up (kAn F 0 7) ((o + z) % 7) (some (u3 0))))))))], wM Y a M, wM Y b N, wP Y d P n t kd V vc] F ++ wM Y u3 cNew) rfl (fun H locs hP hD hS => ?_)
    have hP := kP_perm (kw_new (x := (u3, cNew)) (q := (o + z) % 7) (by omega) hF1) hP
    have hD := kD_perm (kw_new (Y := Y) (x := (u3, cNew)) (q := (o + z) % 7) (by omega) hF1) hD
    have hP : va_P D vwCl (kw Y [[(w 0, .inr (7, [.ref (a 0), .ref (b 0), .ref (w 1), .ref (w 2), .ref (d 0)]))], [(w 1, .inr (2, [.ref (w 3), .int (nI o), .int (nI z)]))], [(w 2, .inl (Y 3, 2, .inr (.inr (.inr (.inr (kAn F 7 2))))))], [(w 3, .inl (Y 3, 7, .inr (.inr (.inr (.inr (va_up (kAn F 0 7) ((o + z) % 7) (some (u3 0))))))))], wM Y a M, wM Y b N, wP Y d P n t kd V vc] (kUp F ((o + z) % 7) (u3, cNew))) H := hP
    have hD : va_D A (kw Y [[(w 0, .inr (7, [.ref (a 0), .ref (b 0), .ref (w 1), .ref (w 2), .ref (d 0)]))], [(w 1, .inr (2, [.ref (w 3), .int (nI o), .int (nI z)]))], [(w 2, .inl (Y 3, 2, .inr (.inr (.inr (.inr (kAn F 7 2))))))], [(w 3, .inl (Y 3, 7, .inr (.inr (.inr (.inr (va_up (kAn F 0 7) ((o + z) % 7) (some (u3 0))))))))], wM Y a M, wM Y b N, wP Y d P n t kd V vc] (kUp F ((o + z) % 7) (u3, cNew))) := hD
    refine lv_aload_n hx hb dX2_prepare_39 rfl (lv_at hl 0 rfl) ?_
    refine lv_aload_n hx hb dX2_prepare_40 rfl (lv_at hl 3 rfl) ?_
    refine kc_v (krV (As := [.ref (a 0)]) (rest := []) (c_X3_copyFrom l D Y a M u3 cNew hI) ⟨hx, hb, hml, hown, hta⟩ (cwX2_25 hta ⟨Nat.le_of_ble_eq_true rfl, Nat.le_of_ble_eq_true rfl⟩) kX0b (fun _ _ _ => trivial) hK hNs hP hD (kJ_mF 4 rfl (by omega) rfl (q := ((o + z) % 7)) (by omega) (kUp_s _ _ _)) (q0 := 24) rfl rfl rfl rfl hl.1 rfl (Nat.le_of_ble_eq_true rfl) dX2_prepare_41 ⟨Nat.le_of_ble_eq_true rfl, Nat.le_of_ble_eq_true rfl⟩) hP hD hS hA (kJ_mF 4 rfl (by omega) rfl (q := ((o + z) % 7)) (by omega) (kUp_s _ _ _)) (fun _ => rfl) (fun u H locs hw hP hD hS => ?_)
    subst hw
    rw [kw_mF 4 rfl (by omega) rfl (q := ((o + z) % 7)) (by omega)] at hP hD
    have hP : va_P D vwCl (kw Y [[(w 0, .inr (7, [.ref (a 0), .ref (b 0), .ref (w 1), .ref (w 2), .ref (d 0)]))], [(w 1, .inr (2, [.ref (w 3), .int (nI o), .int (nI z)]))], [(w 2, .inl (Y 3, 2, .inr (.inr (.inr (.inr (kAn F 7 2))))))], [(w 3, .inl (Y 3, 7, .inr (.inr (.inr (.inr (va_up (kAn F 0 7) ((o + z) % 7) (some (u3 0))))))))], wM Y a M, wM Y b N, wP Y d P n t kd V vc] (kUp (kUp F ((o + z) % 7) (u3, cNew)) ((o + z) % 7) (u3, cCopy M cNew))) H := hP
    have hD : va_D A (kw Y [[(w 0, .inr (7, [.ref (a 0), .ref (b 0), .ref (w 1), .ref (w 2), .ref (d 0)]))], [(w 1, .inr (2, [.ref (w 3), .int (nI o), .int (nI z)]))], [(w 2, .inl (Y 3, 2, .inr (.inr (.inr (.inr (kAn F 7 2))))))], [(w 3, .inl (Y 3, 7, .inr (.inr (.inr (.inr (va_up (kAn F 0 7) ((o + z) % 7) (some (u3 0))))))))], wM Y a M, wM Y b N, wP Y d P n t kd V vc] (kUp (kUp F ((o + z) % 7) (u3, cNew)) ((o + z) % 7) (u3, cCopy M cNew))) := hD
    rw [kUp_up] at hP hD
    have e1 : va_up (kAn F 0 7) ((o + z) % 7) (some (u3 0)) = kAn (kUp F ((o + z) % 7) (u3, cCopy M cNew)) 0 7 := by
      have := kAn_up (F := F) (i := 0) (n := 7) (q := (o + z) % 7) (x := (u3, cCopy M cNew)) (by omega)
      rw [Nat.zero_add] at this
      exact this
    have e2 : kAn F 7 2 = kAn (kUp F ((o + z) % 7) (u3, cCopy M cNew)) 7 2 := (kAn_oth (Or.inl (by omega))).symm
    rw [e1, e2] at hP hD
    have hP : va_P D vwCl (wC Y w a b d M N (kUp F ((o + z) % 7) (u3, cCopy M cNew)) o z P n t kd V vc) H := hP
    have hD : va_D A (wC Y w a b d M N (kUp F ((o + z) % 7) (u3, cCopy M cNew)) o z P n t kd V vc) := hD
    refine W.widen (k := 24) (n := 1518) (by first | exact Nat.le_refl _ | exact Nat.le_of_ble_eq_true rfl | omega) (by first | exact Nat.le_refl _ | exact Nat.le_of_ble_eq_true rfl | omega) ?_
    exact kvretn (kUp F ((o + z) % 7) (u3, cCopy M cNew)) hQ hx hb hr hlocks hP hD hS dX2_prepare_44 (⟨u3, cNew, rfl⟩)
  | some xx =>
    obtain ⟨α, X⟩ := xx
    refine kTopv (kAn_s (i := 0) (q := ((o + z) % 7)) (by omega) (by rw [Nat.zero_add]; exact hF1)) ?_
    refine lv_astore_n (lv' := [(3, .ref (α 0)), (2, .int (nI ((o + z) % 7))), (0, .ref (w 1)), (1, .ref (a 0))]) hx hb dX2_prepare_19 rfl hl (by decide) rfl (fun ls hl => ?_)
    refine lv_aload_n hx hb dX2_prepare_20 rfl (lv_at hl 0 rfl) ?_
    refine lv_ifnonnull (tgt := 39) hx hb dX2_prepare_21 (by decide) ?_
    refine lv_aload_n hx hb dX2_prepare_39 rfl (lv_at hl 0 rfl) ?_
    refine lv_aload_n hx hb dX2_prepare_40 rfl (lv_at hl 3 rfl) ?_
    refine kc_v (krV (As := [.ref (a 0)]) (rest := []) (c_X3_copyFrom l D Y a M α X hI) ⟨hx, hb, hml, hown, hta⟩ (cwX2_25 hta ⟨Nat.le_of_ble_eq_true rfl, Nat.le_of_ble_eq_true rfl⟩) kX0b (fun _ _ _ => trivial) hK hNs hP hD (kJ_mF 4 rfl (by omega) rfl (q := ((o + z) % 7)) (by omega) (hF1)) (q0 := 24) rfl rfl rfl rfl hl.1 rfl (Nat.le_of_ble_eq_true rfl) dX2_prepare_41 ⟨Nat.le_of_ble_eq_true rfl, Nat.le_of_ble_eq_true rfl⟩) hP hD hS hA (kJ_mF 4 rfl (by omega) rfl (q := ((o + z) % 7)) (by omega) (hF1)) (fun _ => rfl) (fun u H locs hw hP hD hS => ?_)
    subst hw
    rw [kw_mF 4 rfl (by omega) rfl (q := ((o + z) % 7)) (by omega)] at hP hD
    have hP : va_P D vwCl (kw Y [[(w 0, .inr (7, [.ref (a 0), .ref (b 0), .ref (w 1), .ref (w 2), .ref (d 0)]))], [(w 1, .inr (2, [.ref (w 3), .int (nI o), .int (nI z)]))], [(w 2, .inl (Y 3, 2, .inr (.inr (.inr (.inr (kAn F 7 2))))))], [(w 3, .inl (Y 3, 7, .inr (.inr (.inr (.inr (kAn F 0 7))))))], wM Y a M, wM Y b N, wP Y d P n t kd V vc] (kUp F ((o + z) % 7) (α, cCopy M X))) H := hP
    have hD : va_D A (kw Y [[(w 0, .inr (7, [.ref (a 0), .ref (b 0), .ref (w 1), .ref (w 2), .ref (d 0)]))], [(w 1, .inr (2, [.ref (w 3), .int (nI o), .int (nI z)]))], [(w 2, .inl (Y 3, 2, .inr (.inr (.inr (.inr (kAn F 7 2))))))], [(w 3, .inl (Y 3, 7, .inr (.inr (.inr (.inr (kAn F 0 7))))))], wM Y a M, wM Y b N, wP Y d P n t kd V vc] (kUp F ((o + z) % 7) (α, cCopy M X))) := hD
    have e1 : kAn F 0 7 = kAn (kUp F ((o + z) % 7) (α, cCopy M X)) 0 7 := (kAn_same hF1).symm
    have e2 : kAn F 7 2 = kAn (kUp F ((o + z) % 7) (α, cCopy M X)) 7 2 := (kAn_oth (Or.inl (by omega))).symm
    rw [e1, e2] at hP hD
    have hP : va_P D vwCl (wC Y w a b d M N (kUp F ((o + z) % 7) (α, cCopy M X)) o z P n t kd V vc) H := hP
    have hD : va_D A (wC Y w a b d M N (kUp F ((o + z) % 7) (α, cCopy M X)) o z P n t kd V vc) := hD
    refine W.widen (k := 24) (n := 1518) (by first | exact Nat.le_refl _ | exact Nat.le_of_ble_eq_true rfl | omega) (by first | exact Nat.le_refl _ | exact Nat.le_of_ble_eq_true rfl | omega) ?_
    exact kvretn (kUp F ((o + z) % 7) (α, cCopy M X)) hQ hx hb hr hlocks hP hD hS dX2_prepare_44 (⟨α, X, rfl⟩)
