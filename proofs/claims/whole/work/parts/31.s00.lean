set_option maxHeartbeats 4000000 in
set_option maxRecDepth 100000 in
theorem c_X8_isText (l : Launch) (D : va_G) (Y : Nat → ClassId) (b : Nat → Nat) (R : kN) (hn : R 7 1 = nI (pn R)) (h80 : pn R ≤ 80) : kM l yX8_isText wX8_isText rX8_isText D Y (wR Y b R) [.ref (b 0)] kX0 (kQi D (fun r u => r = kb ((mText R).1 = true) ∧ u = ((mText R).2.1, (mText R).2.2.1, (mText R).2.2.2)) (fun u => wR Y b (pWr R u.1 u.2.1 u.2.2))) := by
  refine kentry (cc := cX8_isText) (maxL := 2) (ret := (some .boolean)) (by decide +kernel) rfl (Nat.le_of_ble_eq_true rfl) ?_
  intro p e s0 m args below meth c A Q ls hQ hx hb hr hlocks hml hown hin hta hA hX0 hK hNs hP hD hS hl
  have hown : s0.vm.findClass RX8 = some m.cls := hown
  have hl : lv_has ls 2 [(0, .ref (b 0))] := hl
  refine lv_aload_n hx hb dX8_isText_0 rfl (lv_at hl 0 rfl) ?_
  refine lv_iconst (v := 0) hx hb dX8_isText_1 (by decide) ?_
  refine pfX8_163 (ws1 := wR Y b (sM R 7 2 0)) hx hb hta hown hK hP hD hS 0 rfl (Nat.le_of_ble_eq_true rfl) rfl dX8_isText_2 (fun H locs hP hD hS => ?_)
  refine lv_aload_n hx hb dX8_isText_5 rfl (lv_at hl 0 rfl) ?_
  refine lv_iconst (v := 0) hx hb dX8_isText_6 (by decide) ?_
  refine pfX8_169 (ws1 := wR Y b (sM (sM R 7 2 0) 7 3 0)) hx hb hta hown hK hP hD hS 0 rfl (Nat.le_of_ble_eq_true rfl) rfl dX8_isText_7 (fun H locs hP hD hS => ?_)
  have hP : va_P D vwCl (wR Y b (pWr R (0) (R 6) (0))) H := by unfold pWr; rw [sR_id]; exact hP
  have hD : va_D A (wR Y b (pWr R (0) (R 6) (0))) := by unfold pWr; rw [sR_id]; exact hD
  refine lv_iconst (v := 1) hx hb dX8_isText_10 (by decide) ?_
  refine lv_istore_n (lv' := [(1, .int 1), (0, .ref (b 0))]) hx hb dX8_isText_11 rfl hl (by decide) rfl (fun ls hl => ?_)
  refine lv_iload_n hx hb dX8_isText_12 rfl (lv_at hl 0 rfl) ?_
  refine lv_if_eq (tgt := 45) hx hb dX8_isText_13 (by decide) (fun h => False.elim (by revert h; decide)) (fun _ => ?_)
  have loop16 : ∀ (n : Nat) (f : Nat) (o : Nat) (a : Nat) (O : Nat → Int32), pn R - a < n → mText R = mTxt (R 5) (pn R) (f + 1) o a O → a ≤ pn R → 3 * o ≤ a → pn R - a ≤ f → ∀ (H : Heap) (locs : List Loc), va_P D vwCl (wR Y b (pWr R (a) (O) (o))) H → va_D A (wR Y b (pWr R (a) (O) (o))) → va_S A s0.heap H locs → ∀ (ls : Array Slot), lv_has ls 2 [(0, .ref (b 0))] → W p l e rX8_isText s0 m args below meth c H locs 0 0 Q (F0 m 16 ls []) := by
    intro n
    induction n with
    | zero => intro f o a O hmu; exact absurd hmu (Nat.not_lt_zero _)
    | succ n ih =>
      intro f o a O hmu hT ha h3 hf H locs hP hD hS ls hl
      refine lv_aload_n hx hb dX8_isText_16 rfl (lv_at hl 0 rfl) ?_
      refine kc_i (krV (As := []) (rest := []) (c_X8_isOrder l D Y b R (a) (O) (o) hn h80 ha (by omega)) ⟨hx, hb, hml, hown, hta⟩ (cwX8_181 hta ⟨Nat.le_of_ble_eq_true rfl, Nat.le_of_ble_eq_true rfl⟩) kX0b (fun _ _ _ => trivial) hK hNs hP hD (kJ_all) (q0 := 0) rfl rfl rfl rfl hl.1 rfl (Nat.le_of_ble_eq_true rfl) dX8_isText_17 ⟨Nat.le_of_ble_eq_true rfl, Nat.le_of_ble_eq_true rfl⟩) hP hD hS hA (kJ_all) (fun _ => rfl) (fun r1 u H locs hw hP hD hS => ?_)
      obtain ⟨rfl, rfl⟩ := hw
      have hP : va_P D vwCl (wR Y b (pWr R ((mOrder (R 5) (pn R) (o) (a) (O)).2.1) ((mOrder (R 5) (pn R) (o) (a) (O)).2.2) (o))) H := hP
      have hD : va_D A (wR Y b (pWr R ((mOrder (R 5) (pn R) (o) (a) (O)).2.1) ((mOrder (R 5) (pn R) (o) (a) (O)).2.2) (o))) := hD
      obtain ⟨hw1, hA2, hw3⟩ := mOrder_w (P := R 5) (n := pn R) (o := o) (a := a) (O := O) ha
      by_cases c2 : (mOrder (R 5) (pn R) (o) (a) (O)).1 = true
      · refine kTop (kb_t c2) ?_
        refine lv_if_ne (tgt := 25) hx hb dX8_isText_20 (by decide) (fun _ => ?_) (fun h => False.elim (by revert h; decide))
        refine lv_aload_n hx hb dX8_isText_25 rfl (lv_at hl 0 rfl) ?_
        refine lv_dup hx hb dX8_isText_26 rfl ?_
        refine gfX8_169 (v := .int (nI o)) hx hb hta hown hK hP 0 rfl rfl dX8_isText_27 ?_
        refine lv_iconst (v := 1) hx hb dX8_isText_30 (by decide) ?_
        refine lv_iadd hx hb dX8_isText_31 ?_
        refine kTop (nI_add o 1) ?_
        refine pfX8_169 (ws1 := wR Y b (pWr R ((mOrder (R 5) (pn R) (o) (a) (O)).2.1) ((mOrder (R 5) (pn R) (o) (a) (O)).2.2) (o + 1))) hx hb hta hown hK hP hD hS 0 rfl (Nat.le_of_ble_eq_true rfl) rfl dX8_isText_32 (fun H locs hP hD hS => ?_)
        refine lv_aload_n hx hb dX8_isText_35 rfl (lv_at hl 0 rfl) ?_
        refine lv_bipush (v := 59) hx hb dX8_isText_36 (by decide) ?_
        refine kc_i (krV (As := [.int 59]) (rest := []) (c_X8_isSign l D Y b R ((mOrder (R 5) (pn R) (o) (a) (O)).2.1) ((mOrder (R 5) (pn R) (o) (a) (O)).2.2) (o + 1) hn h80 hA2 59) ⟨hx, hb, hml, hown, hta⟩ (cwX8_175 hta ⟨Nat.le_of_ble_eq_true rfl, Nat.le_of_ble_eq_true rfl⟩) kX0b (fun _ _ _ => trivial) hK hNs hP hD (kJ_all) (q0 := 0) rfl rfl rfl rfl hl.1 rfl (Nat.le_of_ble_eq_true rfl) dX8_isText_38 ⟨Nat.le_of_ble_eq_true rfl, Nat.le_of_ble_eq_true rfl⟩) hP hD hS hA (kJ_all) (fun _ => rfl) (fun r3 u H locs hw hP hD hS => ?_)
        obtain ⟨rfl, rfl⟩ := hw
        have hP : va_P D vwCl (wR Y b (pWr R (pSg (R 5) (pn R) ((mOrder (R 5) (pn R) (o) (a) (O)).2.1) 59 59) ((mOrder (R 5) (pn R) (o) (a) (O)).2.2) (o + 1))) H := hP
        have hD : va_D A (wR Y b (pWr R (pSg (R 5) (pn R) ((mOrder (R 5) (pn R) (o) (a) (O)).2.1) 59 59) ((mOrder (R 5) (pn R) (o) (a) (O)).2.2) (o + 1))) := hD
        refine lv_istore_n (lv' := [(1, .int (kb (pAt (R 5) (pn R) ((mOrder (R 5) (pn R) (o) (a) (O)).2.1) 59 59))), (0, .ref (b 0))]) hx hb dX8_isText_41 rfl hl (by decide) rfl (fun ls hl => ?_)
        refine lv_goto (tgt := 12) hx hb dX8_isText_42 (by decide) ?_
        refine lv_iload_n hx hb dX8_isText_12 rfl (lv_at hl 0 rfl) ?_
        by_cases c4 : pAt (R 5) (pn R) ((mOrder (R 5) (pn R) (o) (a) (O)).2.1) 59 59
        · refine kTop (kb_t c4) ?_
          refine lv_if_eq (tgt := 45) hx hb dX8_isText_13 (by decide) (fun h => False.elim (by revert h; decide)) (fun _ => ?_)
          have hge := hw3 c2
          have hlt2 := c4.1
          rw [show pSg (R 5) (pn R) ((mOrder (R 5) (pn R) (o) (a) (O)).2.1) 59 59 = (mOrder (R 5) (pn R) o a O).2.1 + 1 from if_pos c4] at hP hD
          obtain ⟨f2, rfl⟩ : ∃ f2, f = f2 + 1 := ⟨f - 1, by omega⟩
          exact ih f2 (o + 1) ((mOrder (R 5) (pn R) o a O).2.1 + 1) ((mOrder (R 5) (pn R) o a O).2.2) (by omega) (hT.trans (mTxt_more c2 c4)) (by omega) (by omega) (by omega) _ _ hP hD hS ls (lv_sub hl [1] rfl)
        · refine kTop (kb_f c4) ?_
          refine lv_if_eq (tgt := 45) hx hb dX8_isText_13 (by decide) (fun _ => ?_) (fun h => False.elim (by revert h; decide))
          rw [show pSg (R 5) (pn R) ((mOrder (R 5) (pn R) (o) (a) (O)).2.1) 59 59 = (mOrder (R 5) (pn R) o a O).2.1 from if_neg c4] at hP hD
          have hP : va_P D vwCl (wR Y b (pWr R ((mOrder (R 5) (pn R) o a O).2.1) ((mOrder (R 5) (pn R) o a O).2.2) (o + 1))) H := hP
          have hD : va_D A (wR Y b (pWr R ((mOrder (R 5) (pn R) o a O).2.1) ((mOrder (R 5) (pn R) o a O).2.2) (o + 1))) := hD
          refine lv_aload_n hx hb dX8_isText_45 rfl (lv_at hl 1 rfl) ?_
          refine gfX8_163 (v := .int (nI ((mOrder (R 5) (pn R) o a O).2.1))) hx hb hta hown hK hP 0 rfl rfl dX8_isText_46 ?_
          refine lv_aload_n hx hb dX8_isText_49 rfl (lv_at hl 1 rfl) ?_
          refine gfX8_143 (v := .int (R 7 1)) hx hb hta hown hK hP 0 rfl rfl dX8_isText_50 ?_
          refine kTop hn ?_
          refine lv_icmp_ne (tgt := 60) hx hb dX8_isText_53 (by decide) (fun c5 => ?_) (fun c5 => ?_)
          · have c5n : ¬ ((mOrder (R 5) (pn R) o a O).2.1) = (pn R) := fun h => c5 ((nI_eq (a := (mOrder (R 5) (pn R) o a O).2.1) (b := pn R) (by omega) (by omega)).mpr h)
            refine lv_iconst (v := 0) hx hb dX8_isText_60 (by decide) ?_
            exact kzret ((((mOrder (R 5) (pn R) o a O).2.1), ((mOrder (R 5) (pn R) o a O).2.2), (o + 1))) hQ hx hb hr hlocks hP hS dX8_isText_61 (by first | exact Or.inl rfl | exact Or.inr rfl | exact kb_01 _) (by rw [hT, mTxt_end c2 c4]; exact ⟨(kb_f (fun h => c5n (of_decide_eq_true h))).symm, rfl⟩)
          · have c5n : ((mOrder (R 5) (pn R) o a O).2.1) = (pn R) := (nI_eq (a := (mOrder (R 5) (pn R) o a O).2.1) (b := pn R) (by omega) (by omega)).mp c5
            refine lv_iconst (v := 1) hx hb dX8_isText_56 (by decide) ?_
            refine lv_goto (tgt := 61) hx hb dX8_isText_57 (by decide) ?_
            exact kzret ((((mOrder (R 5) (pn R) o a O).2.1), ((mOrder (R 5) (pn R) o a O).2.2), (o + 1))) hQ hx hb hr hlocks hP hS dX8_isText_61 (by first | exact Or.inl rfl | exact Or.inr rfl | exact kb_01 _) (by rw [hT, mTxt_end c2 c4]; exact ⟨(kb_t (decide_eq_true c5n)).symm, rfl⟩)
      · refine kTop (kb_f c2) ?_
        refine lv_if_ne (tgt := 25) hx hb dX8_isText_20 (by decide) (fun h => False.elim (by revert h; decide)) (fun _ => ?_)
        refine lv_iconst (v := 0) hx hb dX8_isText_23 (by decide) ?_
        exact kzret ((((mOrder (R 5) (pn R) (o) (a) (O)).2.1), ((mOrder (R 5) (pn R) (o) (a) (O)).2.2), (o))) hQ hx hb hr hlocks hP hS dX8_isText_24 (by first | exact Or.inl rfl | exact Or.inr rfl | exact kb_01 _) (by rw [hT, mTxt_no c2]; exact ⟨(kb_f (fun h => Bool.noConfusion h)).symm, rfl⟩)
  exact loop16 ((pn R - 0) + 1) (pn R) 0 0 (R 6) (Nat.lt_succ_self _) rfl (by omega) (by omega) (by omega) _ _ hP hD hS ls (lv_sub hl [1] rfl)
