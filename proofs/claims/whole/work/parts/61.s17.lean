set_option maxHeartbeats 4000000 in
set_option maxRecDepth 100000 in
theorem c_X7_save (l : Launch) (D : va_G) (Y : Nat → ClassId) (w a b d : Nat → Nat) (M N : kN) (F : kFm) (o z : Nat) (P : Nat → Int32) (n t : Nat) (kd : Int32) (V : Nat → Int32) (vc : Nat) (q : Int32) (hI : cI M) : kM l yX7_save wX7_save rX7_save D Y (wC Y w a b d M N F o z P n t kd V vc) [.ref (w 0), .int q] kX0 (kQin D (fun r u => cSaveP M F q r u) (fun u => wC Y w a b d M N u o z P n t kd V vc)) := by
  refine kentry (cc := cX7_save) (maxL := 3) (ret := (some .int)) (by decide +kernel) rfl (Nat.le_of_ble_eq_true rfl) ?_
  intro p e s0 m args below meth c A Q ls hQ hx hb hr hlocks hml hown hin hta hA hX0 hK hNs hP hD hS hl
  have hown : s0.vm.findClass RX7 = some m.cls := hown
  have hl : lv_has ls 3 [(0, .ref (w 0)), (1, .int q)] := hl
  have hP : va_P D vwCl (kw Y [[(w 0, .inr (7, [.ref (a 0), .ref (b 0), .ref (w 1), .ref (w 2), .ref (d 0)]))], [(w 1, .inr (2, [.ref (w 3), .int (nI o), .int (nI z)]))], [(w 2, .inl (Y 3, 2, .inr (.inr (.inr (.inr (kAn F 7 2))))))], [(w 3, .inl (Y 3, 7, .inr (.inr (.inr (.inr (kAn F 0 7))))))], wM Y a M, wM Y b N, wP Y d P n t kd V vc] F) s0.heap := hP
  have hD : va_D A (kw Y [[(w 0, .inr (7, [.ref (a 0), .ref (b 0), .ref (w 1), .ref (w 2), .ref (d 0)]))], [(w 1, .inr (2, [.ref (w 3), .int (nI o), .int (nI z)]))], [(w 2, .inl (Y 3, 2, .inr (.inr (.inr (.inr (kAn F 7 2))))))], [(w 3, .inl (Y 3, 7, .inr (.inr (.inr (.inr (kAn F 0 7))))))], wM Y a M, wM Y b N, wP Y d P n t kd V vc] F) := hD
  refine lv_iload_n hx hb dX7_save_0 rfl (lv_at hl 1 rfl) ?_
  refine lv_iconst (v := 0) hx hb dX7_save_1 (by decide) ?_
  refine lv_iconst (v := 1) hx hb dX7_save_2 (by decide) ?_
  refine kc_i (krS (As := [.int q, .int 0, .int 1]) (rest := []) (c_X7_isWithin l D Y q 0 1) ⟨hx, hb, hml, hown, hta⟩ (cwX7_100 hta ⟨Nat.le_of_ble_eq_true rfl, Nat.le_of_ble_eq_true rfl⟩) kX0b (fun _ _ _ => trivial) hK hNs hP hD (kJ_nil) rfl hl.1 rfl (Nat.le_of_ble_eq_true rfl) dX7_save_3 ⟨Nat.le_of_ble_eq_true rfl, Nat.le_of_ble_eq_true rfl⟩) hP hD hS hA (kJ_nil) (fun _ => rfl) (fun r1 u H locs hw hP hD hS => ?_)
  subst hw
  have hP : va_P D vwCl (kw Y [[(w 0, .inr (7, [.ref (a 0), .ref (b 0), .ref (w 1), .ref (w 2), .ref (d 0)]))], [(w 1, .inr (2, [.ref (w 3), .int (nI o), .int (nI z)]))], [(w 2, .inl (Y 3, 2, .inr (.inr (.inr (.inr (kAn F 7 2))))))], [(w 3, .inl (Y 3, 7, .inr (.inr (.inr (.inr (kAn F 0 7))))))], wM Y a M, wM Y b N, wP Y d P n t kd V vc] F) H := hP
  have hD : va_D A (kw Y [[(w 0, .inr (7, [.ref (a 0), .ref (b 0), .ref (w 1), .ref (w 2), .ref (d 0)]))], [(w 1, .inr (2, [.ref (w 3), .int (nI o), .int (nI z)]))], [(w 2, .inl (Y 3, 2, .inr (.inr (.inr (.inr (kAn F 7 2))))))], [(w 3, .inl (Y 3, 7, .inr (.inr (.inr (.inr (kAn F 0 7))))))], wM Y a M, wM Y b N, wP Y d P n t kd V vc] F) := hD
  by_cases c2 : pIn q 0 1
  · refine kTop (kb_t c2) ?_
    refine lv_if_ne (tgt := 12) hx hb dX7_save_6 (by decide) (fun _ => ?_) (fun h => False.elim (by revert h; decide))
    obtain ⟨k, rfl, hk0, hk1⟩ := pIn_nat c2 (show (0 : Int32) = nI 0 from rfl) (show (1 : Int32) = nI 1 from rfl) (by omega) (by omega)
    refine lv_aload_n hx hb dX7_save_12 rfl (lv_at hl 0 rfl) ?_
    refine gfX7_26 (v := .ref (w 2)) hx hb hta hown hK hP 0 rfl rfl dX7_save_13 ?_
    refine lv_iload_n hx hb dX7_save_16 rfl (lv_at hl 1 rfl) ?_
    refine kaald (f := kAn F 7 2) hx hb hK hP 2 rfl k rfl (by omega) (by omega) dX7_save_17 ?_
    cases hF3 : F (7 + k) with
    | none =>
      refine kTopv (kAn_n (i := 7) (q := k) (by omega) (hF3)) ?_
      refine lv_astore_nN (lv' := [(2, .null), (0, .ref (w 0)), (1, .int (nI k))]) hx hb dX7_save_18 rfl hl (by decide) rfl (fun ls hl => ?_)
      refine lv_aload_nN hx hb dX7_save_19 rfl (lv_at hl 0 rfl) ?_
      refine lv_ifnonnullN hx hb dX7_save_20 ?_
      refine va_new (ci := 3) (fs := [.null, .null, .null, .null, .null, .int 0, .int 0, .int 0, .int 0]) (C := RX3) (T := TX3) (N := 9) hx hb hta inA3 tyX3 tyX3_ok hown (hta _ al_23) (hta _ al_24) (hta _ al_25) hK hP hD hS hA rfl (fun j hj => by rcases (show j = 0 ∨ j = 1 ∨ j = 2 ∨ j = 3 ∨ j = 4 ∨ j = 5 ∨ j = 6 ∨ j = 7 ∨ j = 8 by omega) with rfl | rfl | rfl | rfl | rfl | rfl | rfl | rfl | rfl <;> rfl) (Nat.le_of_ble_eq_true rfl) (Nat.le_of_ble_eq_true rfl) dX7_save_23 (fun q4 H hP hD hS => ?_)
      refine lv_dup hx hb dX7_save_26 rfl ?_
      refine kc_vn (krIN (As := []) (rest := [.ref q4]) (c_X3_init l D Y q4) ⟨hx, hb, hml, hown, hta⟩ (cwX7_9 hta hNs ⟨Nat.le_of_ble_eq_true rfl, Nat.le_of_ble_eq_true rfl⟩) kX0b (fun _ _ _ => trivial) hK hNs hP hD (kJ_of (List.Perm.refl _)) rfl hl.1 rfl (Nat.le_of_ble_eq_true rfl) dX7_save_27 ⟨Nat.le_of_ble_eq_true rfl, Nat.le_of_ble_eq_true rfl⟩) hP hD hS hA (kJn_r) (fun u5 H locs hw hP hD hS => ?_)
      rw [← hw]
      have hP : va_P D vwCl (kw Y [[(w 0, .inr (7, [.ref (a 0), .ref (b 0), .ref (w 1), .ref (w 2), .ref (d 0)]))], [(w 1, .inr (2, [.ref (w 3), .int (nI o), .int (nI z)]))], [(w 2, .inl (Y 3, 2, .inr (.inr (.inr (.inr (kAn F 7 2))))))], [(w 3, .inl (Y 3, 7, .inr (.inr (.inr (.inr (kAn F 0 7))))))], wM Y a M, wM Y b N, wP Y d P n t kd V vc] F ++ wM Y u5 cNew) H := hP
      have hD : va_D A (kw Y [[(w 0, .inr (7, [.ref (a 0), .ref (b 0), .ref (w 1), .ref (w 2), .ref (d 0)]))], [(w 1, .inr (2, [.ref (w 3), .int (nI o), .int (nI z)]))], [(w 2, .inl (Y 3, 2, .inr (.inr (.inr (.inr (kAn F 7 2))))))], [(w 3, .inl (Y 3, 7, .inr (.inr (.inr (.inr (kAn F 0 7))))))], wM Y a M, wM Y b N, wP Y d P n t kd V vc] F ++ wM Y u5 cNew) := hD
      refine lv_astore_n (lv' := [(2, .ref (u5 0)), (0, .ref (w 0)), (1, .int (nI k))]) hx hb dX7_save_30 rfl hl (by decide) rfl (fun ls hl => ?_)
      refine lv_aload_n hx hb dX7_save_31 rfl (lv_at hl 1 rfl) ?_
      refine gfX7_26 (v := .ref (w 2)) hx hb hta hown hK hP 0 rfl rfl dX7_save_32 ?_
      refine lv_iload_n hx hb dX7_save_35 rfl (lv_at hl 2 rfl) ?_
      refine lv_aload_n hx hb dX7_save_36 rfl (lv_at hl 0 rfl) ?_
      refine kaast (f := kAn F 7 2) hx hb hK hP hD hS 2 (kw Y [[(w 0, .inr (7, [.ref (a 0), .ref (b 0), .ref (w 1), .ref (w 2), .ref (d 0)]))], [(w 1, .inr (2, [.ref (w 3), .int (nI o), .int (nI z)]))], [(w 2, .inl (Y 3, 2, .inr (.inr (.inr (.inr (kAn F 7 2))))))], [(w 3, .inl (Y 3, 7, .inr (.inr (.inr (.inr (kAn F 0 7))))))], wM Y a M, wM Y b N, wP Y d P n t kd V vc] F).length rfl (by rw [List.getElem?_append_right (Nat.le_refl _), Nat.sub_self]; rfl) k rfl (by omega) (by omega) dX7_save_37 (kw Y [[(w 0, .inr (7, [.ref (a 0), .ref (b 0), .ref (w 1), .ref (w 2), .ref (d 0)]))], [(w 1, .inr (2, [.ref (w 3), .int (nI o), .int (nI z)]))], [(w 2, .inl (Y 3, 2, .inr (.inr (.inr (.inr (va_up (kAn F 7 2) k (some (u5 0))))))))], [(w 3, .inl (Y 3, 7, .inr (.inr (.inr (.inr (kAn F 0 7))))))], wM Y a M, wM Y b N, wP Y d P n t kd V vc] F ++ wM Y u5 cNew) rfl (fun H locs hP hD hS => ?_)
      have hP := kP_perm (kw_new (x := (u5, cNew)) (q := 7 + k) (by omega) hF3) hP
      have hD := kD_perm (kw_new (Y := Y) (x := (u5, cNew)) (q := 7 + k) (by omega) hF3) hD
      have hP : va_P D vwCl (kw Y [[(w 0, .inr (7, [.ref (a 0), .ref (b 0), .ref (w 1), .ref (w 2), .ref (d 0)]))], [(w 1, .inr (2, [.ref (w 3), .int (nI o), .int (nI z)]))], [(w 2, .inl (Y 3, 2, .inr (.inr (.inr (.inr (va_up (kAn F 7 2) k (some (u5 0))))))))], [(w 3, .inl (Y 3, 7, .inr (.inr (.inr (.inr (kAn F 0 7))))))], wM Y a M, wM Y b N, wP Y d P n t kd V vc] (kUp F (7 + k) (u5, cNew))) H := hP
      have hD : va_D A (kw Y [[(w 0, .inr (7, [.ref (a 0), .ref (b 0), .ref (w 1), .ref (w 2), .ref (d 0)]))], [(w 1, .inr (2, [.ref (w 3), .int (nI o), .int (nI z)]))], [(w 2, .inl (Y 3, 2, .inr (.inr (.inr (.inr (va_up (kAn F 7 2) k (some (u5 0))))))))], [(w 3, .inl (Y 3, 7, .inr (.inr (.inr (.inr (kAn F 0 7))))))], wM Y a M, wM Y b N, wP Y d P n t kd V vc] (kUp F (7 + k) (u5, cNew))) := hD
      refine lv_aload_n hx hb dX7_save_38 rfl (lv_at hl 0 rfl) ?_
      refine lv_aload_n hx hb dX7_save_39 rfl (lv_at hl 1 rfl) ?_
      refine gfX7_10 (v := .ref (a 0)) hx hb hta hown hK hP 0 rfl rfl dX7_save_40 ?_
      refine kc_v (krV (As := [.ref (a 0)]) (rest := []) (c_X3_copyFrom l D Y a M u5 cNew hI) ⟨hx, hb, hml, hown, hta⟩ (cwX7_147 hta ⟨Nat.le_of_ble_eq_true rfl, Nat.le_of_ble_eq_true rfl⟩) kX0b (fun _ _ _ => trivial) hK hNs hP hD (kJ_mF 4 rfl (by omega) rfl (q := (7 + k)) (by omega) (kUp_s _ _ _)) (q0 := 24) rfl rfl rfl rfl hl.1 rfl (Nat.le_of_ble_eq_true rfl) dX7_save_43 ⟨Nat.le_of_ble_eq_true rfl, Nat.le_of_ble_eq_true rfl⟩) hP hD hS hA (kJ_mF 4 rfl (by omega) rfl (q := (7 + k)) (by omega) (kUp_s _ _ _)) (fun _ => rfl) (fun u H locs hw hP hD hS => ?_)
      subst hw
      rw [kw_mF 4 rfl (by omega) rfl (q := (7 + k)) (by omega)] at hP hD
      have hP : va_P D vwCl (kw Y [[(w 0, .inr (7, [.ref (a 0), .ref (b 0), .ref (w 1), .ref (w 2), .ref (d 0)]))], [(w 1, .inr (2, [.ref (w 3), .int (nI o), .int (nI z)]))], [(w 2, .inl (Y 3, 2, .inr (.inr (.inr (.inr (va_up (kAn F 7 2) k (some (u5 0))))))))], [(w 3, .inl (Y 3, 7, .inr (.inr (.inr (.inr (kAn F 0 7))))))], wM Y a M, wM Y b N, wP Y d P n t kd V vc] (kUp (kUp F (7 + k) (u5, cNew)) (7 + k) (u5, cCopy M cNew))) H := hP
      have hD : va_D A (kw Y [[(w 0, .inr (7, [.ref (a 0), .ref (b 0), .ref (w 1), .ref (w 2), .ref (d 0)]))], [(w 1, .inr (2, [.ref (w 3), .int (nI o), .int (nI z)]))], [(w 2, .inl (Y 3, 2, .inr (.inr (.inr (.inr (va_up (kAn F 7 2) k (some (u5 0))))))))], [(w 3, .inl (Y 3, 7, .inr (.inr (.inr (.inr (kAn F 0 7))))))], wM Y a M, wM Y b N, wP Y d P n t kd V vc] (kUp (kUp F (7 + k) (u5, cNew)) (7 + k) (u5, cCopy M cNew))) := hD
      refine lv_aload_n hx hb dX7_save_46 rfl (lv_at hl 1 rfl) ?_
      refine gfX7_10 (v := .ref (a 0)) hx hb hta hown hK hP 0 rfl rfl dX7_save_47 ?_
      refine gfX7_106 (v := .ref (a 8)) hx hb hta hown hK hP 4 rfl rfl dX7_save_50 ?_
      refine gfX7_192 (v := .int (M 19 4)) hx hb hta hown hK hP 12 rfl rfl dX7_save_53 ?_
      rw [kUp_up] at hP hD
      have e1 : va_up (kAn F 7 2) k (some (u5 0)) = kAn (kUp F (7 + k) (u5, cCopy M cNew)) 7 2 := kAn_up (F := F) (i := 7) (n := 2) (q := k) (x := (u5, cCopy M cNew)) (by omega)
      have e2 : kAn F 0 7 = kAn (kUp F (7 + k) (u5, cCopy M cNew)) 0 7 := (kAn_oth (Or.inr (by omega))).symm
      rw [e1, e2] at hP hD
      have hP : va_P D vwCl (wC Y w a b d M N (kUp F (7 + k) (u5, cCopy M cNew)) o z P n t kd V vc) H := hP
      have hD : va_D A (wC Y w a b d M N (kUp F (7 + k) (u5, cCopy M cNew)) o z P n t kd V vc) := hD
      refine W.widen (k := 24) (n := 1518) (by first | exact Nat.le_refl _ | exact Nat.le_of_ble_eq_true rfl | omega) (by first | exact Nat.le_refl _ | exact Nat.le_of_ble_eq_true rfl | omega) ?_
      exact kiretn (kUp F (7 + k) (u5, cCopy M cNew)) hQ hx hb hr hlocks hP hD hS dX7_save_56 (by unfold cSaveP; rw [if_pos c2, nI_clamp (by omega)]; exact ⟨rfl, u5, cNew, rfl⟩)
    | some xx =>
      obtain ⟨α, X⟩ := xx
      refine kTopv (kAn_s (i := 7) (q := k) (by omega) (hF3)) ?_
      refine lv_astore_n (lv' := [(2, .ref (α 0)), (0, .ref (w 0)), (1, .int (nI k))]) hx hb dX7_save_18 rfl hl (by decide) rfl (fun ls hl => ?_)
      refine lv_aload_n hx hb dX7_save_19 rfl (lv_at hl 0 rfl) ?_
      refine lv_ifnonnull (tgt := 38) hx hb dX7_save_20 (by decide) ?_
      refine lv_aload_n hx hb dX7_save_38 rfl (lv_at hl 0 rfl) ?_
      refine lv_aload_n hx hb dX7_save_39 rfl (lv_at hl 1 rfl) ?_
      refine gfX7_10 (v := .ref (a 0)) hx hb hta hown hK hP 0 rfl rfl dX7_save_40 ?_
      refine kc_v (krV (As := [.ref (a 0)]) (rest := []) (c_X3_copyFrom l D Y a M α X hI) ⟨hx, hb, hml, hown, hta⟩ (cwX7_147 hta ⟨Nat.le_of_ble_eq_true rfl, Nat.le_of_ble_eq_true rfl⟩) kX0b (fun _ _ _ => trivial) hK hNs hP hD (kJ_mF 4 rfl (by omega) rfl (q := (7 + k)) (by omega) (hF3)) (q0 := 24) rfl rfl rfl rfl hl.1 rfl (Nat.le_of_ble_eq_true rfl) dX7_save_43 ⟨Nat.le_of_ble_eq_true rfl, Nat.le_of_ble_eq_true rfl⟩) hP hD hS hA (kJ_mF 4 rfl (by omega) rfl (q := (7 + k)) (by omega) (hF3)) (fun _ => rfl) (fun u H locs hw hP hD hS => ?_)
      subst hw
      rw [kw_mF 4 rfl (by omega) rfl (q := (7 + k)) (by omega)] at hP hD
      have hP : va_P D vwCl (kw Y [[(w 0, .inr (7, [.ref (a 0), .ref (b 0), .ref (w 1), .ref (w 2), .ref (d 0)]))], [(w 1, .inr (2, [.ref (w 3), .int (nI o), .int (nI z)]))], [(w 2, .inl (Y 3, 2, .inr (.inr (.inr (.inr (kAn F 7 2))))))], [(w 3, .inl (Y 3, 7, .inr (.inr (.inr (.inr (kAn F 0 7))))))], wM Y a M, wM Y b N, wP Y d P n t kd V vc] (kUp F (7 + k) (α, cCopy M X))) H := hP
      have hD : va_D A (kw Y [[(w 0, .inr (7, [.ref (a 0), .ref (b 0), .ref (w 1), .ref (w 2), .ref (d 0)]))], [(w 1, .inr (2, [.ref (w 3), .int (nI o), .int (nI z)]))], [(w 2, .inl (Y 3, 2, .inr (.inr (.inr (.inr (kAn F 7 2))))))], [(w 3, .inl (Y 3, 7, .inr (.inr (.inr (.inr (kAn F 0 7))))))], wM Y a M, wM Y b N, wP Y d P n t kd V vc] (kUp F (7 + k) (α, cCopy M X))) := hD
      refine lv_aload_n hx hb dX7_save_46 rfl (lv_at hl 1 rfl) ?_
      refine gfX7_10 (v := .ref (a 0)) hx hb hta hown hK hP 0 rfl rfl dX7_save_47 ?_
      refine gfX7_106 (v := .ref (a 8)) hx hb hta hown hK hP 4 rfl rfl dX7_save_50 ?_
      refine gfX7_192 (v := .int (M 19 4)) hx hb hta hown hK hP 12 rfl rfl dX7_save_53 ?_
      have e1 : kAn F 7 2 = kAn (kUp F (7 + k) (α, cCopy M X)) 7 2 := (kAn_same hF3).symm
      have e2 : kAn F 0 7 = kAn (kUp F (7 + k) (α, cCopy M X)) 0 7 := (kAn_oth (Or.inr (by omega))).symm
      rw [e1, e2] at hP hD
      have hP : va_P D vwCl (wC Y w a b d M N (kUp F (7 + k) (α, cCopy M X)) o z P n t kd V vc) H := hP
      have hD : va_D A (wC Y w a b d M N (kUp F (7 + k) (α, cCopy M X)) o z P n t kd V vc) := hD
      refine W.widen (k := 24) (n := 1518) (by first | exact Nat.le_refl _ | exact Nat.le_of_ble_eq_true rfl | omega) (by first | exact Nat.le_refl _ | exact Nat.le_of_ble_eq_true rfl | omega) ?_
      exact kiretn (kUp F (7 + k) (α, cCopy M X)) hQ hx hb hr hlocks hP hD hS dX7_save_56 (by unfold cSaveP; rw [if_pos c2, nI_clamp (by omega)]; exact ⟨rfl, α, X, rfl⟩)
  · refine kTop (kb_f c2) ?_
    refine lv_if_ne (tgt := 12) hx hb dX7_save_6 (by decide) (fun h => False.elim (by revert h; decide)) (fun _ => ?_)
    refine lv_bipush (v := (-2)) hx hb dX7_save_9 (by decide) ?_
    refine W.widen (k := 24) (n := 1518) (by first | exact Nat.le_refl _ | exact Nat.le_of_ble_eq_true rfl | omega) (by first | exact Nat.le_refl _ | exact Nat.le_of_ble_eq_true rfl | omega) ?_
    exact kiretn (F) hQ hx hb hr hlocks hP hD hS dX7_save_11 (by unfold cSaveP; rw [if_neg c2]; exact ⟨rfl, rfl⟩)
