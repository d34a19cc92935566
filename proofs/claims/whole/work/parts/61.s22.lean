set_option maxHeartbeats 4000000 in
set_option maxRecDepth 100000 in
theorem c_X7_leastTrucks (l : Launch) (D : va_G) (Y : Nat → ClassId) (w a b d : Nat → Nat) (M N : kN) (F : kFm) (o z : Nat) (P : Nat → Int32) (n t : Nat) (kd : Int32) (V : Nat → Int32) (vc : Nat) (x : Int32) (s : kS) (hOK : kOK M s) : kM l yX7_leastTrucks wX7_leastTrucks rX7_leastTrucks D Y (wC Y w a b d M N F o z P n t kd V vc) [.ref (w 0), .int x] kX0 (kQi D (fun r (_ : kN) => r = mLeastTr s x) (fun u => wC Y w a b d M u F o z P n t kd V vc)) := by
  refine kentry (cc := cX7_leastTrucks) (maxL := 3) (ret := (some .int)) (by decide +kernel) rfl (Nat.le_of_ble_eq_true rfl) ?_
  intro p e s0 m args below meth c A Q ls hQ hx hb hr hlocks hml hown hin hta hA hX0 hK hNs hP hD hS hl
  have hown : s0.vm.findClass RX7 = some m.cls := hown
  have hl : lv_has ls 3 [(0, .ref (w 0)), (1, .int x)] := hl
  have hP : va_P D vwCl (kw Y [[(w 0, .inr (7, [.ref (a 0), .ref (b 0), .ref (w 1), .ref (w 2), .ref (d 0)]))], [(w 1, .inr (2, [.ref (w 3), .int (nI o), .int (nI z)]))], [(w 2, .inl (Y 3, 2, .inr (.inr (.inr (.inr (kAn F 7 2))))))], [(w 3, .inl (Y 3, 7, .inr (.inr (.inr (.inr (kAn F 0 7))))))], wM Y a M, wM Y b N, wP Y d P n t kd V vc] F) s0.heap := hP
  have hD : va_D A (kw Y [[(w 0, .inr (7, [.ref (a 0), .ref (b 0), .ref (w 1), .ref (w 2), .ref (d 0)]))], [(w 1, .inr (2, [.ref (w 3), .int (nI o), .int (nI z)]))], [(w 2, .inl (Y 3, 2, .inr (.inr (.inr (.inr (kAn F 7 2))))))], [(w 3, .inl (Y 3, 7, .inr (.inr (.inr (.inr (kAn F 0 7))))))], wM Y a M, wM Y b N, wP Y d P n t kd V vc] F) := hD
  have hI := kSim_I hOK.1 hOK.2.1
  refine lv_iload_n hx hb dX7_leastTrucks_0 rfl (lv_at hl 1 rfl) ?_
  refine lv_iconst (v := 1) hx hb dX7_leastTrucks_1 (by decide) ?_
  refine lv_sipush (v := 300) hx hb dX7_leastTrucks_2 (by decide) ?_
  refine kc_i (krS (As := [.int x, .int 1, .int 300]) (rest := []) (c_X7_isWithin l D Y x 1 300) ⟨hx, hb, hml, hown, hta⟩ (cwX7_100 hta ⟨Nat.le_of_ble_eq_true rfl, Nat.le_of_ble_eq_true rfl⟩) kX0b (fun _ _ _ => trivial) hK hNs hP hD (kJ_nil) rfl hl.1 rfl (Nat.le_of_ble_eq_true rfl) dX7_leastTrucks_5 ⟨Nat.le_of_ble_eq_true rfl, Nat.le_of_ble_eq_true rfl⟩) hP hD hS hA (kJ_nil) (fun _ => rfl) (fun r1 u H locs hw hP hD hS => ?_)
  subst hw
  have hP : va_P D vwCl (kw Y [[(w 0, .inr (7, [.ref (a 0), .ref (b 0), .ref (w 1), .ref (w 2), .ref (d 0)]))], [(w 1, .inr (2, [.ref (w 3), .int (nI o), .int (nI z)]))], [(w 2, .inl (Y 3, 2, .inr (.inr (.inr (.inr (kAn F 7 2))))))], [(w 3, .inl (Y 3, 7, .inr (.inr (.inr (.inr (kAn F 0 7))))))], wM Y a M, wM Y b N, wP Y d P n t kd V vc] F) H := hP
  have hD : va_D A (kw Y [[(w 0, .inr (7, [.ref (a 0), .ref (b 0), .ref (w 1), .ref (w 2), .ref (d 0)]))], [(w 1, .inr (2, [.ref (w 3), .int (nI o), .int (nI z)]))], [(w 2, .inl (Y 3, 2, .inr (.inr (.inr (.inr (kAn F 7 2))))))], [(w 3, .inl (Y 3, 7, .inr (.inr (.inr (.inr (kAn F 0 7))))))], wM Y a M, wM Y b N, wP Y d P n t kd V vc] F) := hD
  by_cases c2 : pIn x 1 300
  · refine kTop (kb_t c2) ?_
    refine lv_if_ne (tgt := 14) hx hb dX7_leastTrucks_8 (by decide) (fun _ => ?_) (fun h => False.elim (by revert h; decide))
    obtain ⟨dn, rfl, hd1, hd3⟩ := pIn_nat c2 (show (1 : Int32) = nI 1 from rfl) (show (300 : Int32) = nI 300 from rfl) (by omega) (by omega)
    refine lv_iconst (v := 0) hx hb dX7_leastTrucks_14 (by decide) ?_
    refine lv_istore_n (lv' := [(2, .int 0), (0, .ref (w 0)), (1, .int (nI dn))]) hx hb dX7_leastTrucks_15 rfl hl (by decide) rfl (fun ls hl => ?_)
    have loop16 : ∀ (zf : Nat) (v : Nat) (T : kN), 21 - v < zf → mLeastFrom s dn v (21 - v) = mLeastTr s (nI dn) → v ≤ 21 → ∀ (H : Heap) (locs : List Loc), va_P D vwCl (kw Y [[(w 0, .inr (7, [.ref (a 0), .ref (b 0), .ref (w 1), .ref (w 2), .ref (d 0)]))], [(w 1, .inr (2, [.ref (w 3), .int (nI o), .int (nI z)]))], [(w 2, .inl (Y 3, 2, .inr (.inr (.inr (.inr (kAn F 7 2))))))], [(w 3, .inl (Y 3, 7, .inr (.inr (.inr (.inr (kAn F 0 7))))))], wM Y a M, wM Y b T, wP Y d P n t kd V vc] F) H → va_D A (kw Y [[(w 0, .inr (7, [.ref (a 0), .ref (b 0), .ref (w 1), .ref (w 2), .ref (d 0)]))], [(w 1, .inr (2, [.ref (w 3), .int (nI o), .int (nI z)]))], [(w 2, .inl (Y 3, 2, .inr (.inr (.inr (.inr (kAn F 7 2))))))], [(w 3, .inl (Y 3, 7, .inr (.inr (.inr (.inr (kAn F 0 7))))))], wM Y a M, wM Y b T, wP Y d P n t kd V vc] F) → va_S A s0.heap H locs → ∀ (ls : Array Slot), lv_has ls 3 [(2, .int (nI v)), (0, .ref (w 0)), (1, .int (nI dn))] → W p l e rX7_leastTrucks s0 m args below meth c H locs 0 0 Q (F0 m 16 ls []) := by
      intro zf
      induction zf with
      | zero => intro v T hmu; exact absurd hmu (Nat.not_lt_zero _)
      | succ zf ih =>
        intro v T hmu hL hv H locs hP hD hS ls hl
        refine lv_iload_n hx hb dX7_leastTrucks_16 rfl (lv_at hl 0 rfl) ?_
        refine lv_bipush (v := 20) hx hb dX7_leastTrucks_17 (by decide) ?_
        refine lv_icmp_gt (tgt := 39) hx hb dX7_leastTrucks_19 (by decide) (fun c3 => ?_) (fun c3 => ?_)
        · have c3n : 20 < v := (nI_ltI (a := 20) (b := v) (by omega) (by omega)).mp c3
          refine lv_bipush (v := (-6)) hx hb dX7_leastTrucks_39 (by decide) ?_
          exact kiret (T) hQ hx hb hr hlocks hP hS dX7_leastTrucks_41 (by rw [← hL, show 21 - v = 0 by omega]; rfl)
        · have c3n : ¬ 20 < v := fun h => c3 ((nI_ltI (a := 20) (b := v) (by omega) (by omega)).mpr h)
          refine lv_aload_n hx hb dX7_leastTrucks_22 rfl (lv_at hl 1 rfl) ?_
          refine lv_iload_n hx hb dX7_leastTrucks_23 rfl (lv_at hl 0 rfl) ?_
          refine lv_iload_n hx hb dX7_leastTrucks_24 rfl (lv_at hl 2 rfl) ?_
          refine kc_i (krV (As := [.int (nI v), .int (nI dn)]) (rest := []) (c_X7_losesNothing l D Y w a b d M T F o z P n t kd V vc v dn hI (by omega) (by omega)) ⟨hx, hb, hml, hown, hta⟩ (cwX7_142 hta ⟨Nat.le_of_ble_eq_true rfl, Nat.le_of_ble_eq_true rfl⟩) kX0b (fun _ _ _ => trivial) hK hNs hP hD (kJ_all) (q0 := 0) rfl rfl rfl rfl hl.1 rfl (Nat.le_of_ble_eq_true rfl) dX7_leastTrucks_25 ⟨Nat.le_of_ble_eq_true rfl, Nat.le_of_ble_eq_true rfl⟩) hP hD hS hA (kJ_all) (fun _ => rfl) (fun r5 T4 H locs hw hP hD hS => ?_)
          subst hw
          have hP : va_P D vwCl (kw Y [[(w 0, .inr (7, [.ref (a 0), .ref (b 0), .ref (w 1), .ref (w 2), .ref (d 0)]))], [(w 1, .inr (2, [.ref (w 3), .int (nI o), .int (nI z)]))], [(w 2, .inl (Y 3, 2, .inr (.inr (.inr (.inr (kAn F 7 2))))))], [(w 3, .inl (Y 3, 7, .inr (.inr (.inr (.inr (kAn F 0 7))))))], wM Y a M, wM Y b T4, wP Y d P n t kd V vc] F) H := hP
          have hD : va_D A (kw Y [[(w 0, .inr (7, [.ref (a 0), .ref (b 0), .ref (w 1), .ref (w 2), .ref (d 0)]))], [(w 1, .inr (2, [.ref (w 3), .int (nI o), .int (nI z)]))], [(w 2, .inl (Y 3, 2, .inr (.inr (.inr (.inr (kAn F 7 2))))))], [(w 3, .inl (Y 3, 7, .inr (.inr (.inr (.inr (kAn F 0 7))))))], wM Y a M, wM Y b T4, wP Y d P n t kd V vc] F) := hD
          by_cases c6 : cNl (sM (cCopy M T) 0 0 (nI v)) (sTo (M 4) 6) dn
          · refine kTop (kb_t c6) ?_
            refine lv_if_eq (tgt := 33) hx hb dX7_leastTrucks_28 (by decide) (fun h => False.elim (by revert h; decide)) (fun _ => ?_)
            refine lv_iload_n hx hb dX7_leastTrucks_31 rfl (lv_at hl 0 rfl) ?_
            exact kiret (T4) hQ hx hb hr hlocks hP hS dX7_leastTrucks_32 (by rw [← hL, show 21 - v = (20 - v) + 1 by omega]; exact (if_pos ((kTrucks hOK (kSim_copy hOK.1 hOK.2.1) (by omega) (by omega)).mp c6)).symm)
          · refine kTop (kb_f c6) ?_
            refine lv_if_eq (tgt := 33) hx hb dX7_leastTrucks_28 (by decide) (fun _ => ?_) (fun h => False.elim (by revert h; decide))
            refine lv_iinc (v := nI (v + 1)) (lv' := [(2, .int (nI (v + 1))), (0, .ref (w 0)), (1, .int (nI dn))]) hx hb dX7_leastTrucks_33 hl (k := 0) rfl (nI_add v 1) (by decide) rfl (fun ls hl => ?_)
            refine lv_goto (tgt := 16) hx hb dX7_leastTrucks_36 (by decide) ?_
            exact ih (v + 1) T4 (by omega) (by rw [← hL, show 21 - v = (21 - (v + 1)) + 1 by omega]; exact (if_neg (fun q => c6 ((kTrucks hOK (kSim_copy hOK.1 hOK.2.1) (by omega) (by omega)).mpr q))).symm) (by omega) _ _ hP hD hS ls (lv_sub hl [0, 1, 2] rfl)
    exact loop16 ((21 - 0) + 1) 0 N (Nat.lt_succ_self _) (by unfold mLeastTr; rw [if_pos c2, nI_clamp (by omega)]) (by omega) _ _ hP hD hS ls (lv_sub hl [0, 1, 2] rfl)
  · refine kTop (kb_f c2) ?_
    refine lv_if_ne (tgt := 14) hx hb dX7_leastTrucks_8 (by decide) (fun h => False.elim (by revert h; decide)) (fun _ => ?_)
    refine lv_bipush (v := (-2)) hx hb dX7_leastTrucks_11 (by decide) ?_
    exact kiret (N) hQ hx hb hr hlocks hP hS dX7_leastTrucks_13 (by unfold mLeastTr; rw [if_neg c2])
