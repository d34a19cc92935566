set_option maxHeartbeats 4000000 in
set_option maxRecDepth 100000 in
theorem c_X7_restore (l : Launch) (D : va_G) (Y : Nat → ClassId) (w a b d : Nat → Nat) (M N : kN) (F : kFm) (o z : Nat) (P : Nat → Int32) (n t : Nat) (kd : Int32) (V : Nat → Int32) (vc : Nat) (q : Int32) (hI : cI M) (ho : o < 7) (hz : z ≤ 6) (hFI : ∀ k, k < 2 → ∀ (α : Nat → Nat) (X : kN), F (7 + k) = some (α, X) → cI X) : kM l yX7_restore wX7_restore rX7_restore D Y (wC Y w a b d M N F o z P n t kd V vc) [.ref (w 0), .int q] kX0 (kQin D (fun r u => cRestP M F o z q r u) (fun u => wC Y w a b d u.1 N u.2.1 u.2.2.1 u.2.2.2 P n t kd V vc)) := by
  refine kentry (cc := cX7_restore) (maxL := 3) (ret := (some .int)) (by decide +kernel) rfl (Nat.le_of_ble_eq_true rfl) ?_
  intro p e s0 m args below meth c A Q ls hQ hx hb hr hlocks hml hown hin hta hA hX0 hK hNs hP hD hS hl
  have hown : s0.vm.findClass RX7 = some m.cls := hown
  have hl : lv_has ls 3 [(0, .ref (w 0)), (1, .int q)] := hl
  have hP : va_P D vwCl (kw Y [[(w 0, .inr (7, [.ref (a 0), .ref (b 0), .ref (w 1), .ref (w 2), .ref (d 0)]))], [(w 1, .inr (2, [.ref (w 3), .int (nI o), .int (nI z)]))], [(w 2, .inl (Y 3, 2, .inr (.inr (.inr (.inr (kAn F 7 2))))))], [(w 3, .inl (Y 3, 7, .inr (.inr (.inr (.inr (kAn F 0 7))))))], wM Y a M, wM Y b N, wP Y d P n t kd V vc] F) s0.heap := hP
  have hD : va_D A (kw Y [[(w 0, .inr (7, [.ref (a 0), .ref (b 0), .ref (w 1), .ref (w 2), .ref (d 0)]))], [(w 1, .inr (2, [.ref (w 3), .int (nI o), .int (nI z)]))], [(w 2, .inl (Y 3, 2, .inr (.inr (.inr (.inr (kAn F 7 2))))))], [(w 3, .inl (Y 3, 7, .inr (.inr (.inr (.inr (kAn F 0 7))))))], wM Y a M, wM Y b N, wP Y d P n t kd V vc] F) := hD
  have hpl : (o + z) % 7 < 7 := Nat.mod_lt _ (by decide)
  refine lv_iload_n hx hb dX7_restore_0 rfl (lv_at hl 1 rfl) ?_
  refine lv_iconst (v := 0) hx hb dX7_restore_1 (by decide) ?_
  refine lv_iconst (v := 1) hx hb dX7_restore_2 (by decide) ?_
  refine kc_i (krS (As := [.int q, .int 0, .int 1]) (rest := []) (c_X7_isWithin l D Y q 0 1) ⟨hx, hb, hml, hown, hta⟩ (cwX7_100 hta ⟨Nat.le_of_ble_eq_true rfl, Nat.le_of_ble_eq_true rfl⟩) kX0b (fun _ _ _ => trivial) hK hNs hP hD (kJ_nil) rfl hl.1 rfl (Nat.le_of_ble_eq_true rfl) dX7_restore_3 ⟨Nat.le_of_ble_eq_true rfl, Nat.le_of_ble_eq_true rfl⟩) hP hD hS hA (kJ_nil) (fun _ => rfl) (fun r1 u H locs hw hP hD hS => ?_)
  subst hw
  have hP : va_P D vwCl (kw Y [[(w 0, .inr (7, [.ref (a 0), .ref (b 0), .ref (w 1), .ref (w 2), .ref (d 0)]))], [(w 1, .inr (2, [.ref (w 3), .int (nI o), .int (nI z)]))], [(w 2, .inl (Y 3, 2, .inr (.inr (.inr (.inr (kAn F 7 2))))))], [(w 3, .inl (Y 3, 7, .inr (.inr (.inr (.inr (kAn F 0 7))))))], wM Y a M, wM Y b N, wP Y d P n t kd V vc] F) H := hP
  have hD : va_D A (kw Y [[(w 0, .inr (7, [.ref (a 0), .ref (b 0), .ref (w 1), .ref (w 2), .ref (d 0)]))], [(w 1, .inr (2, [.ref (w 3), .int (nI o), .int (nI z)]))], [(w 2, .inl (Y 3, 2, .inr (.inr (.inr (.inr (kAn F 7 2))))))], [(w 3, .inl (Y 3, 7, .inr (.inr (.inr (.inr (kAn F 0 7))))))], wM Y a M, wM Y b N, wP Y d P n t kd V vc] F) := hD
  by_cases c2 : pIn q 0 1
  · refine kTop (kb_t c2) ?_
    refine lv_if_ne (tgt := 12) hx hb dX7_restore_6 (by decide) (fun _ => ?_) (fun h => False.elim (by revert h; decide))
    obtain ⟨k, rfl, hk0, hk1⟩ := pIn_nat c2 (show (0 : Int32) = nI 0 from rfl) (show (1 : Int32) = nI 1 from rfl) (by omega) (by omega)
    refine lv_aload_n hx hb dX7_restore_12 rfl (lv_at hl 0 rfl) ?_
    refine gfX7_26 (v := .ref (w 2)) hx hb hta hown hK hP 0 rfl rfl dX7_restore_13 ?_
    refine lv_iload_n hx hb dX7_restore_16 rfl (lv_at hl 1 rfl) ?_
    refine kaald (f := kAn F 7 2) hx hb hK hP 2 rfl k rfl (by omega) (by omega) dX7_restore_17 ?_
    cases hF3 : F (7 + k) with
    | none =>
      refine kTopv (kAn_n (i := 7) (q := k) (by omega) (hF3)) ?_
      refine lv_astore_nN (lv' := [(2, .null), (0, .ref (w 0)), (1, .int (nI k))]) hx hb dX7_restore_18 rfl hl (by decide) rfl (fun ls hl => ?_)
      refine lv_aload_nN hx hb dX7_restore_19 rfl (lv_at hl 0 rfl) ?_
      refine lv_ifnonnullN hx hb dX7_restore_20 ?_
      refine lv_bipush (v := (-5)) hx hb dX7_restore_23 (by decide) ?_
      refine W.widen (k := 24) (n := 1518) (by first | exact Nat.le_refl _ | exact Nat.le_of_ble_eq_true rfl | omega) (by first | exact Nat.le_refl _ | exact Nat.le_of_ble_eq_true rfl | omega) ?_
      exact kiretn ((M, F, o, z)) hQ hx hb hr hlocks hP hD hS dX7_restore_25 (by unfold cRestP; rw [if_pos c2, nI_clamp (by omega), hF3]; exact ⟨rfl, rfl⟩)
    | some xx =>
      obtain ⟨α, X⟩ := xx
      refine kTopv (kAn_s (i := 7) (q := k) (by omega) (hF3)) ?_
      refine lv_astore_n (lv' := [(2, .ref (α 0)), (0, .ref (w 0)), (1, .int (nI k))]) hx hb dX7_restore_18 rfl hl (by decide) rfl (fun ls hl => ?_)
      refine lv_aload_n hx hb dX7_restore_19 rfl (lv_at hl 0 rfl) ?_
      refine lv_ifnonnull (tgt := 26) hx hb dX7_restore_20 (by decide) ?_
      have hXI := hFI k (by omega) α X hF3
      refine lv_aload_n hx hb dX7_restore_26 rfl (lv_at hl 1 rfl) ?_
      refine gfX7_22 (v := .ref (w 1)) hx hb hta hown hK hP 0 rfl rfl dX7_restore_27 ?_
      refine lv_aload_n hx hb dX7_restore_30 rfl (lv_at hl 1 rfl) ?_
      refine gfX7_10 (v := .ref (a 0)) hx hb hta hown hK hP 0 rfl rfl dX7_restore_31 ?_
      refine kc_vn (krV (As := [.ref (a 0)]) (rest := []) (c_X2_prepare l D Y w a b d M N F o z P n t kd V vc hI ho hz) ⟨hx, hb, hml, hown, hta⟩ (cwX7_37 hta ⟨Nat.le_of_ble_eq_true rfl, Nat.le_of_ble_eq_true rfl⟩) kX0b (fun _ _ _ => trivial) hK hNs hP hD (kJ_all) (q0 := 1) rfl rfl rfl rfl hl.1 rfl (Nat.le_of_ble_eq_true rfl) dX7_restore_34 ⟨Nat.le_of_ble_eq_true rfl, Nat.le_of_ble_eq_true rfl⟩) hP hD hS hA (kJn_all) (fun F4 H locs hw hP hD hS => ?_)
      have hF4 := hw
      have hF2 : F4 (7 + k) = some (α, X) := by obtain ⟨β, Z, hz1⟩ := hw; rw [hz1, kUp_o (by omega)]; exact hF3
      have hP : va_P D vwCl (kw Y [[(w 0, .inr (7, [.ref (a 0), .ref (b 0), .ref (w 1), .ref (w 2), .ref (d 0)]))], [(w 1, .inr (2, [.ref (w 3), .int (nI o), .int (nI z)]))], [(w 2, .inl (Y 3, 2, .inr (.inr (.inr (.inr (kAn F4 7 2))))))], [(w 3, .inl (Y 3, 7, .inr (.inr (.inr (.inr (kAn F4 0 7))))))], wM Y a M, wM Y b N, wP Y d P n t kd V vc] F4) H := hP
      have hD : va_D A (kw Y [[(w 0, .inr (7, [.ref (a 0), .ref (b 0), .ref (w 1), .ref (w 2), .ref (d 0)]))], [(w 1, .inr (2, [.ref (w 3), .int (nI o), .int (nI z)]))], [(w 2, .inl (Y 3, 2, .inr (.inr (.inr (.inr (kAn F4 7 2))))))], [(w 3, .inl (Y 3, 7, .inr (.inr (.inr (.inr (kAn F4 0 7))))))], wM Y a M, wM Y b N, wP Y d P n t kd V vc] F4) := hD
      refine lv_aload_n hx hb dX7_restore_37 rfl (lv_at hl 1 rfl) ?_
      refine gfX7_10 (v := .ref (a 0)) hx hb hta hown hK hP 0 rfl rfl dX7_restore_38 ?_
      refine lv_aload_n hx hb dX7_restore_41 rfl (lv_at hl 0 rfl) ?_
      refine kc_v (krV (As := [.ref (α 0)]) (rest := []) (c_X3_copyFrom l D Y α X a M hXI) ⟨hx, hb, hml, hown, hta⟩ (cwX7_147 hta ⟨Nat.le_of_ble_eq_true rfl, Nat.le_of_ble_eq_true rfl⟩) kX0b (fun _ _ _ => trivial) hK hNs hP hD (kJ_Fm 4 rfl (by omega) rfl (q := (7 + k)) (by omega) hF2) (q0 := 24) rfl rfl rfl rfl hl.1 rfl (Nat.le_of_ble_eq_true rfl) dX7_restore_42 ⟨Nat.le_of_ble_eq_true rfl, Nat.le_of_ble_eq_true rfl⟩) hP hD hS hA (kJ_Fm 4 rfl (by omega) rfl (q := (7 + k)) (by omega) hF2) (fun _ => rfl) (fun u H locs hw hP hD hS => ?_)
      subst hw
      rw [kw_Fm 4 rfl (by omega) (q := (7 + k)) (by omega) hF2] at hP hD
      have hP : va_P D vwCl (kw Y [[(w 0, .inr (7, [.ref (a 0), .ref (b 0), .ref (w 1), .ref (w 2), .ref (d 0)]))], [(w 1, .inr (2, [.ref (w 3), .int (nI o), .int (nI z)]))], [(w 2, .inl (Y 3, 2, .inr (.inr (.inr (.inr (kAn F4 7 2))))))], [(w 3, .inl (Y 3, 7, .inr (.inr (.inr (.inr (kAn F4 0 7))))))], wM Y a (cCopy X M), wM Y b N, wP Y d P n t kd V vc] F4) H := hP
      have hD : va_D A (kw Y [[(w 0, .inr (7, [.ref (a 0), .ref (b 0), .ref (w 1), .ref (w 2), .ref (d 0)]))], [(w 1, .inr (2, [.ref (w 3), .int (nI o), .int (nI z)]))], [(w 2, .inl (Y 3, 2, .inr (.inr (.inr (.inr (kAn F4 7 2))))))], [(w 3, .inl (Y 3, 7, .inr (.inr (.inr (.inr (kAn F4 0 7))))))], wM Y a (cCopy X M), wM Y b N, wP Y d P n t kd V vc] F4) := hD
      refine lv_aload_n hx hb dX7_restore_45 rfl (lv_at hl 1 rfl) ?_
      refine gfX7_22 (v := .ref (w 1)) hx hb hta hown hK hP 0 rfl rfl dX7_restore_46 ?_
      refine lv_aload_n hx hb dX7_restore_49 rfl (lv_at hl 1 rfl) ?_
      refine gfX7_10 (v := .ref (a 0)) hx hb hta hown hK hP 0 rfl rfl dX7_restore_50 ?_
      refine gfX7_106 (v := .ref (a 8)) hx hb hta hown hK hP 4 rfl rfl dX7_restore_53 ?_
      refine gfX7_192 (v := .int ((cCopy X M) 19 4)) hx hb hta hown hK hP 12 rfl rfl dX7_restore_56 ?_
      refine kc_i (krV (As := [.int ((cCopy X M) 19 4)]) (rest := []) (c_X2_recordUnlessError l D Y w a b d (cCopy X M) N F4 o z P n t kd V vc ((cCopy X M) 19 4) (by omega) (by omega)) ⟨hx, hb, hml, hown, hta⟩ (cwX7_45 hta ⟨Nat.le_of_ble_eq_true rfl, Nat.le_of_ble_eq_true rfl⟩) kX0b (fun _ _ _ => trivial) hK hNs hP hD (kJ_all) (q0 := 1) rfl rfl rfl rfl hl.1 rfl (Nat.le_of_ble_eq_true rfl) dX7_restore_59 ⟨Nat.le_of_ble_eq_true rfl, Nat.le_of_ble_eq_true rfl⟩) hP hD hS hA (kJ_all) (fun _ => rfl) (fun r7 u H locs hw hP hD hS => ?_)
      obtain ⟨rfl, rfl⟩ := hw
      have hP : va_P D vwCl (kw Y [[(w 0, .inr (7, [.ref (a 0), .ref (b 0), .ref (w 1), .ref (w 2), .ref (d 0)]))], [(w 1, .inr (2, [.ref (w 3), .int (nI ((cRecd ((cCopy X M) 19 4) o z).1)), .int (nI ((cRecd ((cCopy X M) 19 4) o z).2))]))], [(w 2, .inl (Y 3, 2, .inr (.inr (.inr (.inr (kAn F4 7 2))))))], [(w 3, .inl (Y 3, 7, .inr (.inr (.inr (.inr (kAn F4 0 7))))))], wM Y a (cCopy X M), wM Y b N, wP Y d P n t kd V vc] F4) H := hP
      have hD : va_D A (kw Y [[(w 0, .inr (7, [.ref (a 0), .ref (b 0), .ref (w 1), .ref (w 2), .ref (d 0)]))], [(w 1, .inr (2, [.ref (w 3), .int (nI ((cRecd ((cCopy X M) 19 4) o z).1)), .int (nI ((cRecd ((cCopy X M) 19 4) o z).2))]))], [(w 2, .inl (Y 3, 2, .inr (.inr (.inr (.inr (kAn F4 7 2))))))], [(w 3, .inl (Y 3, 7, .inr (.inr (.inr (.inr (kAn F4 0 7))))))], wM Y a (cCopy X M), wM Y b N, wP Y d P n t kd V vc] F4) := hD
      refine W.widen (k := 24) (n := 1518) (by first | exact Nat.le_refl _ | exact Nat.le_of_ble_eq_true rfl | omega) (by first | exact Nat.le_refl _ | exact Nat.le_of_ble_eq_true rfl | omega) ?_
      exact kiretn ((cCopy X M, F4, cRecd (cCopy X M 19 4) o z)) hQ hx hb hr hlocks hP hD hS dX7_restore_62 (by unfold cRestP; rw [if_pos c2, nI_clamp (by omega), hF3]; exact ⟨rfl, rfl, hF4, rfl⟩)
  · refine kTop (kb_f c2) ?_
    refine lv_if_ne (tgt := 12) hx hb dX7_restore_6 (by decide) (fun h => False.elim (by revert h; decide)) (fun _ => ?_)
    refine lv_bipush (v := (-2)) hx hb dX7_restore_9 (by decide) ?_
    refine W.widen (k := 24) (n := 1518) (by first | exact Nat.le_refl _ | exact Nat.le_of_ble_eq_true rfl | omega) (by first | exact Nat.le_refl _ | exact Nat.le_of_ble_eq_true rfl | omega) ?_
    exact kiretn ((M, F, o, z)) hQ hx hb hr hlocks hP hD hS dX7_restore_11 (by unfold cRestP; rw [if_neg c2]; exact ⟨rfl, rfl⟩)
