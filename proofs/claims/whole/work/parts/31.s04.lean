set_option maxHeartbeats 4000000 in
set_option maxRecDepth 100000 in
theorem c_X8_carryOut (l : Launch) (D : va_G) (Y : Nat → ClassId) (b : Nat → Nat) (R : kN) (hn : R 7 1 = nI (pn R)) (h80 : pn R ≤ 80) (hZ : mX (R 0)) (hQ0 : mQ (R 0)) (hk : R 7 0 = nI (kp R) ∧ kp R ≤ 6) : kM l yX8_carryOut wX8_carryOut rX8_carryOut D Y (wR Y b R) [.ref (b 0)] kX0 (kQi D (fun r u => r = (mCarry R).1 ∧ u = (mCarry R).2) (fun u => wR Y b u)) := by
  refine kentry (cc := cX8_carryOut) (maxL := 2) (ret := (some .int)) (by decide +kernel) rfl (Nat.le_of_ble_eq_true rfl) ?_
  intro p e s0 m args below meth c A Q ls hQ hx hb hr hlocks hml hown hin hta hA hX0 hK hNs hP hD hS hl
  have hown : s0.vm.findClass RX8 = some m.cls := hown
  have hl : lv_has ls 2 [(0, .ref (b 0))] := hl
  refine lv_aload_n hx hb dX8_carryOut_0 rfl (lv_at hl 0 rfl) ?_
  refine kc_i (krV (As := []) (rest := []) (c_X8_isText l D Y b R hn h80) ⟨hx, hb, hml, hown, hta⟩ (cwX8_185 hta ⟨Nat.le_of_ble_eq_true rfl, Nat.le_of_ble_eq_true rfl⟩) kX0b (fun _ _ _ => trivial) hK hNs hP hD (kJ_all) (q0 := 0) rfl rfl rfl rfl hl.1 rfl (Nat.le_of_ble_eq_true rfl) dX8_carryOut_1 ⟨Nat.le_of_ble_eq_true rfl, Nat.le_of_ble_eq_true rfl⟩) hP hD hS hA (kJ_all) (fun _ => rfl) (fun r1 u H locs hw hP hD hS => ?_)
  obtain ⟨rfl, rfl⟩ := hw
  have hP : va_P D vwCl (wR Y b (pWr R ((mText R).2.1) ((mText R).2.2.1) ((mText R).2.2.2))) H := hP
  have hD : va_D A (wR Y b (pWr R ((mText R).2.1) ((mText R).2.2.1) ((mText R).2.2.2))) := hD
  by_cases c2 : (mText R).1 = true
  · refine kTop (kb_t c2) ?_
    refine lv_if_ne (tgt := 10) hx hb dX8_carryOut_4 (by decide) (fun _ => ?_) (fun h => False.elim (by revert h; decide))
    have hw0 := mText_w (R := R)
    refine lv_aload_n hx hb dX8_carryOut_10 rfl (lv_at hl 0 rfl) ?_
    refine kc_v (krV (As := []) (rest := []) (c_X8_records l D Y b (pWr R ((mText R).2.1) ((mText R).2.2.1) ((mText R).2.2.2)) hk) ⟨hx, hb, hml, hown, hta⟩ (cwX8_44 hta ⟨Nat.le_of_ble_eq_true rfl, Nat.le_of_ble_eq_true rfl⟩) kX0b (fun _ _ _ => trivial) hK hNs hP hD (kJ_all) (q0 := 0) rfl rfl rfl rfl hl.1 rfl (Nat.le_of_ble_eq_true rfl) dX8_carryOut_11 ⟨Nat.le_of_ble_eq_true rfl, Nat.le_of_ble_eq_true rfl⟩) hP hD hS hA (kJ_all) (fun _ => rfl) (fun N1 H locs hw hP hD hS => ?_)
    have hN1 := hw
    have hP : va_P D vwCl (wR Y b N1) H := hP
    have hD : va_D A (wR Y b N1) := hD
    refine lv_aload_n hx hb dX8_carryOut_14 rfl (lv_at hl 0 rfl) ?_
    refine lv_iconst (v := 0) hx hb dX8_carryOut_15 (by decide) ?_
    refine pfX8_143 (ws1 := wR Y b (sM N1 7 1 0)) hx hb hta hown hK hP hD hS 0 rfl (Nat.le_of_ble_eq_true rfl) rfl dX8_carryOut_16 (fun H locs hP hD hS => ?_)
    subst hN1
    have e0 : mCarN R 0 = R 0 := by unfold mCarN; show mRec _ 0 = _; rw [mRec_o _ (by decide) (by decide)]; rfl
    have e6 : mCarN R 6 = (mText R).2.2.1 := by unfold mCarN; show mRec _ 6 = _; rw [mRec_o _ (by decide) (by decide)]; rfl
    have e73 : mCarN R 7 3 = nI (mText R).2.2.2 := by unfold mCarN; show mRec _ 7 3 = _; rw [mRec_7 _ (by decide)]; rfl
    have hP : va_P D vwCl (wR Y b (sR (mCarN R) 0 (R 0))) H := by rw [row0 e0]; exact hP
    have hD : va_D A (wR Y b (sR (mCarN R) 0 (R 0))) := by rw [row0 e0]; exact hD
    refine lv_iconst (v := 0) hx hb dX8_carryOut_19 (by decide) ?_
    refine lv_istore_n (lv' := [(1, .int 0), (0, .ref (b 0))]) hx hb dX8_carryOut_20 rfl hl (by decide) rfl (fun ls hl => ?_)
    have loop21 : ∀ (n : Nat) (k : Nat) (s : kS), (mText R).2.2.2 - k < n → mRun (mCarN R 6) s k ((mText R).2.2.2 - k) = mRun (mCarN R 6) (R 0) 0 (mText R).2.2.2 → mX s → mQ s → k ≤ (mText R).2.2.2 → ∀ (H : Heap) (locs : List Loc), va_P D vwCl (wR Y b (sR (mCarN R) 0 (s))) H → va_D A (wR Y b (sR (mCarN R) 0 (s))) → va_S A s0.heap H locs → ∀ (ls : Array Slot), lv_has ls 2 [(1, .int (nI k)), (0, .ref (b 0))] → W p l e rX8_carryOut s0 m args below meth c H locs 0 0 Q (F0 m 21 ls []) := by
      intro n
      induction n with
      | zero => intro k s hmu; exact absurd hmu (Nat.not_lt_zero _)
      | succ n ih =>
        intro k s hmu hr0 hmx hmq hko H locs hP hD hS ls hl
        refine lv_iload_n hx hb dX8_carryOut_21 rfl (lv_at hl 0 rfl) ?_
        refine lv_aload_n hx hb dX8_carryOut_22 rfl (lv_at hl 1 rfl) ?_
        refine gfX8_169 (v := .int ((mCarN R) 7 3)) hx hb hta hown hK hP 0 rfl rfl dX8_carryOut_23 ?_
        refine kTop e73 ?_
        refine lv_icmp_ge (tgt := 43) hx hb dX8_carryOut_26 (by decide) (fun c4 => ?_) (fun c4 => ?_)
        · have c4n : ((mText R).2.2.2) ≤ k := (nI_leI (a := (mText R).2.2.2) (b := k) (by omega) (by omega)).mp c4
          have hend : mRun (mCarN R 6) s k ((mText R).2.2.2 - k) = (k, s) := mRun_end (by omega)
          rw [hr0, e6] at hend
          refine lv_iload_n hx hb dX8_carryOut_43 rfl (lv_at hl 0 rfl) ?_
          exact kiret (sR (mCarN R) 0 s) hQ hx hb hr hlocks hP hS dX8_carryOut_44 (by unfold mCarry; rw [if_pos c2, hend]; exact ⟨rfl, rfl⟩)
        · have c4n : ¬ ((mText R).2.2.2) ≤ k := fun h => c4 ((nI_leI (a := (mText R).2.2.2) (b := k) (by omega) (by omega)).mpr h)
          refine lv_aload_n hx hb dX8_carryOut_29 rfl (lv_at hl 1 rfl) ?_
          refine lv_iload_n hx hb dX8_carryOut_30 rfl (lv_at hl 0 rfl) ?_
          refine kc_i (krV (As := [.int (nI k)]) (rest := []) (c_X8_does l D Y b (mCarN R) s k hmx hmq (by omega)) ⟨hx, hb, hml, hown, hta⟩ (cwX8_192 hta ⟨Nat.le_of_ble_eq_true rfl, Nat.le_of_ble_eq_true rfl⟩) kX0b (fun _ _ _ => trivial) hK hNs hP hD (kJ_all) (q0 := 0) rfl rfl rfl rfl hl.1 rfl (Nat.le_of_ble_eq_true rfl) dX8_carryOut_31 ⟨Nat.le_of_ble_eq_true rfl, Nat.le_of_ble_eq_true rfl⟩) hP hD hS hA (kJ_all) (fun _ => rfl) (fun r5 u H locs hw hP hD hS => ?_)
          obtain ⟨rfl, rfl⟩ := hw
          have hP : va_P D vwCl (wR Y b (sR (mCarN R) 0 (mDoes ((mCarN R) 6) s k))) H := hP
          have hD : va_D A (wR Y b (sR (mCarN R) 0 (mDoes ((mCarN R) 6) s k))) := hD
          by_cases c6 : mMay ((mCarN R) 6) s k = 0
          · refine kTop (kb_t c6) ?_
            refine lv_if_eq (tgt := 43) hx hb dX8_carryOut_34 (by decide) (fun h => False.elim (by revert h; decide)) (fun _ => ?_)
            rw [show mDoes (mCarN R 6) s k = mDo (mCarN R 6) s k from if_pos c6] at hP hD
            refine lv_iinc (v := nI (k + 1)) (lv' := [(1, .int (nI (k + 1))), (0, .ref (b 0))]) hx hb dX8_carryOut_37 hl (k := 0) rfl (nI_add k 1) (by decide) rfl (fun ls hl => ?_)
            refine lv_goto (tgt := 21) hx hb dX8_carryOut_40 (by decide) ?_
            exact ih (k + 1) (mDo (mCarN R 6) s k) (by omega) ((mRun_go (by omega) c6).symm.trans hr0) ((mAct_I hmx hmq c6).1) ((mAct_I hmx hmq c6).2) (by omega) _ _ hP hD hS ls (lv_sub hl [0, 1] rfl)
          · refine kTop (kb_f c6) ?_
            refine lv_if_eq (tgt := 43) hx hb dX8_carryOut_34 (by decide) (fun _ => ?_) (fun h => False.elim (by revert h; decide))
            rw [show mDoes (mCarN R 6) s k = s from if_neg c6] at hP hD
            have hend : mRun (mCarN R 6) s k ((mText R).2.2.2 - k) = (k, s) := mRun_no (by omega) c6
            rw [hr0, e6] at hend
            refine lv_iload_n hx hb dX8_carryOut_43 rfl (lv_at hl 0 rfl) ?_
            exact kiret (sR (mCarN R) 0 s) hQ hx hb hr hlocks hP hS dX8_carryOut_44 (by unfold mCarry; rw [if_pos c2, hend]; exact ⟨rfl, rfl⟩)
    exact loop21 (((mText R).2.2.2 - 0) + 1) 0 (R 0) (Nat.lt_succ_self _) rfl hZ hQ0 (by omega) _ _ hP hD hS ls (lv_sub hl [0, 1] rfl)
  · refine kTop (kb_f c2) ?_
    refine lv_if_ne (tgt := 10) hx hb dX8_carryOut_4 (by decide) (fun h => False.elim (by revert h; decide)) (fun _ => ?_)
    refine lv_bipush (v := (-3)) hx hb dX8_carryOut_7 (by decide) ?_
    exact kiret (pWr R (mText R).2.1 (mText R).2.2.1 (mText R).2.2.2) hQ hx hb hr hlocks hP hS dX8_carryOut_9 (by unfold mCarry; rw [if_neg c2]; exact ⟨rfl, rfl⟩)
