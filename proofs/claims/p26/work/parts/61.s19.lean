set_option maxHeartbeats 4000000 in
set_option maxRecDepth 100000 in
theorem c_X7_tryDays (l : Launch) (D : va_G) (Y : Nat → ClassId) (w a b d : Nat → Nat) (M N : kN) (F : kFm) (o z : Nat) (P : Nat → Int32) (n t : Nat) (kd : Int32) (V : Nat → Int32) (vc : Nat) (dn : Nat) (q : Int32) (hI : cI M) (hdn : dn ≤ 300) : kM l yX7_tryDays wX7_tryDays rX7_tryDays D Y (wC Y w a b d M N F o z P n t kd V vc) [.ref (w 0), .int (nI dn), .int q] kX0 (kQv D (fun u => u = cDays (cCopy M N) q dn) (fun u => wC Y w a b d M u F o z P n t kd V vc)) := by
  refine kentry (cc := cX7_tryDays) (maxL := 4) (ret := none) (by decide +kernel) rfl (Nat.le_of_ble_eq_true rfl) ?_
  intro p e s0 m args below meth c A Q ls hQ hx hb hr hlocks hml hown hin hta hA hX0 hK hNs hP hD hS hl
  have hown : s0.vm.findClass RX7 = some m.cls := hown
  have hl : lv_has ls 4 [(0, .ref (w 0)), (1, .int (nI dn)), (2, .int q)] := hl
  have hP : va_P D vwCl (kw Y [[(w 0, .inr (7, [.ref (a 0), .ref (b 0), .ref (w 1), .ref (w 2), .ref (d 0)]))], [(w 1, .inr (2, [.ref (w 3), .int (nI o), .int (nI z)]))], [(w 2, .inl (Y 3, 2, .inr (.inr (.inr (.inr (kAn F 7 2))))))], [(w 3, .inl (Y 3, 7, .inr (.inr (.inr (.inr (kAn F 0 7))))))], wM Y a M, wM Y b N, wP Y d P n t kd V vc] F) s0.heap := hP
  have hD : va_D A (kw Y [[(w 0, .inr (7, [.ref (a 0), .ref (b 0), .ref (w 1), .ref (w 2), .ref (d 0)]))], [(w 1, .inr (2, [.ref (w 3), .int (nI o), .int (nI z)]))], [(w 2, .inl (Y 3, 2, .inr (.inr (.inr (.inr (kAn F 7 2))))))], [(w 3, .inl (Y 3, 7, .inr (.inr (.inr (.inr (kAn F 0 7))))))], wM Y a M, wM Y b N, wP Y d P n t kd V vc] F) := hD
  refine lv_aload_n hx hb dX7_tryDays_0 rfl (lv_at hl 0 rfl) ?_
  refine gfX7_16 (v := .ref (b 0)) hx hb hta hown hK hP 0 rfl rfl dX7_tryDays_1 ?_
  refine lv_aload_n hx hb dX7_tryDays_4 rfl (lv_at hl 0 rfl) ?_
  refine gfX7_10 (v := .ref (a 0)) hx hb hta hown hK hP 0 rfl rfl dX7_tryDays_5 ?_
  refine kc_v (krV (As := [.ref (a 0)]) (rest := []) (c_X3_copyFrom l D Y a M b N hI) ⟨hx, hb, hml, hown, hta⟩ (cwX7_147 hta ⟨Nat.le_of_ble_eq_true rfl, Nat.le_of_ble_eq_true rfl⟩) kX0b (fun _ _ _ => trivial) hK hNs hP hD (kJ_w2 4 5 rfl rfl (by decide)) (q0 := 24) rfl rfl rfl rfl hl.1 rfl (Nat.le_of_ble_eq_true rfl) dX7_tryDays_8 ⟨Nat.le_of_ble_eq_true rfl, Nat.le_of_ble_eq_true rfl⟩) hP hD hS hA (kJ_w2 4 5 rfl rfl (by decide)) (fun _ => rfl) (fun u H locs hw hP hD hS => ?_)
  subst hw
  rw [kw_w2] at hP hD
  have hP : va_P D vwCl (kw Y [[(w 0, .inr (7, [.ref (a 0), .ref (b 0), .ref (w 1), .ref (w 2), .ref (d 0)]))], [(w 1, .inr (2, [.ref (w 3), .int (nI o), .int (nI z)]))], [(w 2, .inl (Y 3, 2, .inr (.inr (.inr (.inr (kAn F 7 2))))))], [(w 3, .inl (Y 3, 7, .inr (.inr (.inr (.inr (kAn F 0 7))))))], wM Y a M, wM Y b (cCopy M N), wP Y d P n t kd V vc] F) H := hP
  have hD : va_D A (kw Y [[(w 0, .inr (7, [.ref (a 0), .ref (b 0), .ref (w 1), .ref (w 2), .ref (d 0)]))], [(w 1, .inr (2, [.ref (w 3), .int (nI o), .int (nI z)]))], [(w 2, .inl (Y 3, 2, .inr (.inr (.inr (.inr (kAn F 7 2))))))], [(w 3, .inl (Y 3, 7, .inr (.inr (.inr (.inr (kAn F 0 7))))))], wM Y a M, wM Y b (cCopy M N), wP Y d P n t kd V vc] F) := hD
  refine lv_iconst (v := 0) hx hb dX7_tryDays_11 (by decide) ?_
  refine lv_istore_n (lv' := [(3, .int 0), (0, .ref (w 0)), (1, .int (nI dn)), (2, .int q)]) hx hb dX7_tryDays_12 rfl hl (by decide) rfl (fun ls hl => ?_)
  have loop13 : ∀ (zf : Nat) (i : Nat) (T : kN), dn - i < zf → cDays (cCopy M N) q i = T → i ≤ dn → ∀ (H : Heap) (locs : List Loc), va_P D vwCl (kw Y [[(w 0, .inr (7, [.ref (a 0), .ref (b 0), .ref (w 1), .ref (w 2), .ref (d 0)]))], [(w 1, .inr (2, [.ref (w 3), .int (nI o), .int (nI z)]))], [(w 2, .inl (Y 3, 2, .inr (.inr (.inr (.inr (kAn F 7 2))))))], [(w 3, .inl (Y 3, 7, .inr (.inr (.inr (.inr (kAn F 0 7))))))], wM Y a M, wM Y b T, wP Y d P n t kd V vc] F) H → va_D A (kw Y [[(w 0, .inr (7, [.ref (a 0), .ref (b 0), .ref (w 1), .ref (w 2), .ref (d 0)]))], [(w 1, .inr (2, [.ref (w 3), .int (nI o), .int (nI z)]))], [(w 2, .inl (Y 3, 2, .inr (.inr (.inr (.inr (kAn F 7 2))))))], [(w 3, .inl (Y 3, 7, .inr (.inr (.inr (.inr (kAn F 0 7))))))], wM Y a M, wM Y b T, wP Y d P n t kd V vc] F) → va_S A s0.heap H locs → ∀ (ls : Array Slot), lv_has ls 4 [(3, .int (nI i)), (0, .ref (w 0)), (1, .int (nI dn)), (2, .int q)] → W p l e rX7_tryDays s0 m args below meth c H locs 0 0 Q (F0 m 13 ls []) := by
    intro zf
    induction zf with
    | zero => intro i T hmu; exact absurd hmu (Nat.not_lt_zero _)
    | succ zf ih =>
      intro i T hmu hT hi H locs hP hD hS ls hl
      have hIT : cI T := hT ▸ cDays_I (cCopy_I hI) q i
      refine lv_iload_n hx hb dX7_tryDays_13 rfl (lv_at hl 0 rfl) ?_
      refine lv_iload_n hx hb dX7_tryDays_14 rfl (lv_at hl 2 rfl) ?_
      refine lv_icmp_ge (tgt := 41) hx hb dX7_tryDays_15 (by decide) (fun c2 => ?_) (fun c2 => ?_)
      · have c2n : dn ≤ i := (nI_leI (a := dn) (b := i) (by omega) (by omega)).mp c2
        exact kvret (T) hQ hx hb hr hlocks hP hS dX7_tryDays_41 (by have e : i = dn := (by omega); subst e; exact hT.symm)
      · have c2n : ¬ dn ≤ i := fun h => c2 ((nI_leI (a := dn) (b := i) (by omega) (by omega)).mpr h)
        refine lv_aload_n hx hb dX7_tryDays_18 rfl (lv_at hl 1 rfl) ?_
        refine gfX7_16 (v := .ref (b 0)) hx hb hta hown hK hP 0 rfl rfl dX7_tryDays_19 ?_
        refine lv_iload_n hx hb dX7_tryDays_22 rfl (lv_at hl 0 rfl) ?_
        refine lv_iload_n hx hb dX7_tryDays_23 rfl (lv_at hl 3 rfl) ?_
        refine lv_icmp_ge (tgt := 31) hx hb dX7_tryDays_24 (by decide) (fun c3 => ?_) (fun c3 => ?_)
        · refine lv_iconst (v := 0) hx hb dX7_tryDays_31 (by decide) ?_
          refine kTop (y := kb (nI i < q)) (kb_f (Int32.not_lt.mpr c3)).symm ?_
          refine kc_v (krV (As := [.int (kb (nI i < q))]) (rest := []) (c_X3_passDay l D Y b T (nI i < q) hIT) ⟨hx, hb, hml, hown, hta⟩ (cwX7_150 hta ⟨Nat.le_of_ble_eq_true rfl, Nat.le_of_ble_eq_true rfl⟩) kX0b (fun _ _ _ => trivial) hK hNs hP hD (kJ_w 5 rfl) (q0 := 0) rfl rfl rfl rfl hl.1 rfl (Nat.le_of_ble_eq_true rfl) dX7_tryDays_32 ⟨Nat.le_of_ble_eq_true rfl, Nat.le_of_ble_eq_true rfl⟩) hP hD hS hA (kJ_w 5 rfl) (fun _ => rfl) (fun u H locs hw hP hD hS => ?_)
          subst hw
          have hP : va_P D vwCl (kw Y [[(w 0, .inr (7, [.ref (a 0), .ref (b 0), .ref (w 1), .ref (w 2), .ref (d 0)]))], [(w 1, .inr (2, [.ref (w 3), .int (nI o), .int (nI z)]))], [(w 2, .inl (Y 3, 2, .inr (.inr (.inr (.inr (kAn F 7 2))))))], [(w 3, .inl (Y 3, 7, .inr (.inr (.inr (.inr (kAn F 0 7))))))], wM Y a M, wM Y b (cDay T (nI i < q)), wP Y d P n t kd V vc] F) H := hP
          have hD : va_D A (kw Y [[(w 0, .inr (7, [.ref (a 0), .ref (b 0), .ref (w 1), .ref (w 2), .ref (d 0)]))], [(w 1, .inr (2, [.ref (w 3), .int (nI o), .int (nI z)]))], [(w 2, .inl (Y 3, 2, .inr (.inr (.inr (.inr (kAn F 7 2))))))], [(w 3, .inl (Y 3, 7, .inr (.inr (.inr (.inr (kAn F 0 7))))))], wM Y a M, wM Y b (cDay T (nI i < q)), wP Y d P n t kd V vc] F) := hD
          refine lv_iinc (v := nI (i + 1)) (lv' := [(3, .int (nI (i + 1))), (0, .ref (w 0)), (1, .int (nI dn)), (2, .int q)]) hx hb dX7_tryDays_35 hl (k := 0) rfl (nI_add i 1) (by decide) rfl (fun ls hl => ?_)
          refine lv_goto (tgt := 13) hx hb dX7_tryDays_38 (by decide) ?_
          exact ih (i + 1) (cDay T (nI i < q)) (by omega) (by rw [← hT]; rfl) (by omega) _ _ hP hD hS ls (lv_sub hl [0, 1, 2, 3] rfl)
        · refine lv_iconst (v := 1) hx hb dX7_tryDays_27 (by decide) ?_
          refine lv_goto (tgt := 32) hx hb dX7_tryDays_28 (by decide) ?_
          refine kTop (y := kb (nI i < q)) (kb_t (Int32.not_le.mp c3)).symm ?_
          refine kc_v (krV (As := [.int (kb (nI i < q))]) (rest := []) (c_X3_passDay l D Y b T (nI i < q) hIT) ⟨hx, hb, hml, hown, hta⟩ (cwX7_150 hta ⟨Nat.le_of_ble_eq_true rfl, Nat.le_of_ble_eq_true rfl⟩) kX0b (fun _ _ _ => trivial) hK hNs hP hD (kJ_w 5 rfl) (q0 := 0) rfl rfl rfl rfl hl.1 rfl (Nat.le_of_ble_eq_true rfl) dX7_tryDays_32 ⟨Nat.le_of_ble_eq_true rfl, Nat.le_of_ble_eq_true rfl⟩) hP hD hS hA (kJ_w 5 rfl) (fun _ => rfl) (fun u H locs hw hP hD hS => ?_)
          subst hw
          have hP : va_P D vwCl (kw Y [[(w 0, .inr (7, [.ref (a 0), .ref (b 0), .ref (w 1), .ref (w 2), .ref (d 0)]))], [(w 1, .inr (2, [.ref (w 3), .int (nI o), .int (nI z)]))], [(w 2, .inl (Y 3, 2, .inr (.inr (.inr (.inr (kAn F 7 2))))))], [(w 3, .inl (Y 3, 7, .inr (.inr (.inr (.inr (kAn F 0 7))))))], wM Y a M, wM Y b (cDay T (nI i < q)), wP Y d P n t kd V vc] F) H := hP
          have hD : va_D A (kw Y [[(w 0, .inr (7, [.ref (a 0), .ref (b 0), .ref (w 1), .ref (w 2), .ref (d 0)]))], [(w 1, .inr (2, [.ref (w 3), .int (nI o), .int (nI z)]))], [(w 2, .inl (Y 3, 2, .inr (.inr (.inr (.inr (kAn F 7 2))))))], [(w 3, .inl (Y 3, 7, .inr (.inr (.inr (.inr (kAn F 0 7))))))], wM Y a M, wM Y b (cDay T (nI i < q)), wP Y d P n t kd V vc] F) := hD
          refine lv_iinc (v := nI (i + 1)) (lv' := [(3, .int (nI (i + 1))), (0, .ref (w 0)), (1, .int (nI dn)), (2, .int q)]) hx hb dX7_tryDays_35 hl (k := 0) rfl (nI_add i 1) (by decide) rfl (fun ls hl => ?_)
          refine lv_goto (tgt := 13) hx hb dX7_tryDays_38 (by decide) ?_
          exact ih (i + 1) (cDay T (nI i < q)) (by omega) (by rw [← hT]; rfl) (by omega) _ _ hP hD hS ls (lv_sub hl [0, 1, 2, 3] rfl)
  exact loop13 ((dn - 0) + 1) 0 (cCopy M N) (Nat.lt_succ_self _) rfl (by omega) _ _ hP hD hS ls (lv_sub hl [0, 1, 2, 3] rfl)
