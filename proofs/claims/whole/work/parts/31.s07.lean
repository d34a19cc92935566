set_option maxHeartbeats 4000000 in
set_option maxRecDepth 100000 in
theorem c_X8_put (l : Launch) (D : va_G) (Y : Nat → ClassId) (b : Nat → Nat) (R : kN) (w : Int64) (hn : R 7 1 = nI (pn R)) (h80 : pn R ≤ 80) : kM l yX8_put wX8_put rX8_put D Y (wR Y b R) [.ref (b 0), .long w] kX0 (kQi D (fun r u => r = (mPut R w).1 ∧ u = (mPut R w).2) (fun u => wR Y b u)) := by
  refine kentry (cc := cX8_put) (maxL := 5) (ret := (some .int)) (by decide +kernel) rfl (Nat.le_of_ble_eq_true rfl) ?_
  intro p e s0 m args below meth c A Q ls hQ hx hb hr hlocks hml hown hin hta hA hX0 hK hNs hP hD hS hl
  have hown : s0.vm.findClass RX8 = some m.cls := hown
  have hl : lv_has ls 5 [(0, .ref (b 0)), (1, .long w)] := hl
  refine lv_lload_n hx hb dX8_put_0 rfl (lv_at hl 1 rfl) ?_
  refine kc_i (krS (As := [.long w]) (rest := []) (c_X8_toldBy l D Y w) ⟨hx, hb, hml, hown, hta⟩ (cwX8_159 hta ⟨Nat.le_of_ble_eq_true rfl, Nat.le_of_ble_eq_true rfl⟩) kX0b (fun _ _ _ => trivial) hK hNs hP hD (kJ_nil) rfl hl.1 rfl (Nat.le_of_ble_eq_true rfl) dX8_put_1 ⟨Nat.le_of_ble_eq_true rfl, Nat.le_of_ble_eq_true rfl⟩) hP hD hS hA (kJ_nil) (fun _ => rfl) (fun r1 u H locs hw hP hD hS => ?_)
  subst hw
  have hP : va_P D vwCl (wR Y b R) H := hP
  have hD : va_D A (wR Y b R) := hD
  refine lv_istore_n (lv' := [(3, .int (mTold w)), (0, .ref (b 0)), (1, .long w)]) hx hb dX8_put_4 rfl hl (by decide) rfl (fun ls hl => ?_)
  refine lv_iload_n hx hb dX8_put_5 rfl (lv_at hl 0 rfl) ?_
  refine lv_if_ge (tgt := 11) hx hb dX8_put_6 (by decide) (fun c2 => ?_) (fun c2 => ?_)
  · obtain ⟨m1, hm, hm1, hm8⟩ := mTold_b (w := w) (Int32.not_lt.mpr c2)
    rw [hm] at hl
    refine lv_aload_n hx hb dX8_put_11 rfl (lv_at hl 1 rfl) ?_
    refine gfX8_143 (v := .int (R 7 1)) hx hb hta hown hK hP 0 rfl rfl dX8_put_12 ?_
    refine kTop hn ?_
    refine lv_iload_n hx hb dX8_put_15 rfl (lv_at hl 0 rfl) ?_
    refine lv_iadd hx hb dX8_put_16 ?_
    refine kTop (nI_add (pn R) m1) ?_
    refine lv_bipush (v := 80) hx hb dX8_put_17 (by decide) ?_
    refine lv_icmp_le (tgt := 25) hx hb dX8_put_19 (by decide) (fun c3 => ?_) (fun c3 => ?_)
    · have c3n : (pn R + m1) ≤ 80 := (nI_leI (a := pn R + m1) (b := 80) (by omega) (by omega)).mp c3
      refine lv_iload_n hx hb dX8_put_25 rfl (lv_at hl 0 rfl) ?_
      refine lv_iconst (v := 1) hx hb dX8_put_26 (by decide) ?_
      refine lv_isub hx hb dX8_put_27 ?_
      refine lv_istore (lv' := [(4, .int ((nI m1) - 1)), (3, .int (nI m1)), (0, .ref (b 0)), (1, .long w)]) hx hb dX8_put_28 hl (by decide) rfl (fun ls hl => ?_)
      have loop30 : ∀ (n : Nat) (j : Nat) (P : Nat → Int32), m1 + 1 - j < n → mPutP (R 5) (pn R) w m1 j = P → j ≤ m1 → ∀ (H : Heap) (locs : List Loc), va_P D vwCl (wR Y b (sM (sR R 5 (P)) 7 1 (nI (pn R + j)))) H → va_D A (wR Y b (sM (sR R 5 (P)) 7 1 (nI (pn R + j)))) → va_S A s0.heap H locs → ∀ (ls : Array Slot), lv_has ls 5 [(4, .int (nI (m1 - j) + (-1))), (0, .ref (b 0)), (1, .long w)] → W p l e rX8_put s0 m args below meth c H locs 0 0 Q (F0 m 30 ls []) := by
        intro n
        induction n with
        | zero => intro j P hmu; exact absurd hmu (Nat.not_lt_zero _)
        | succ n ih =>
          intro j P hmu hr0 hj0 H locs hP hD hS ls hl
          refine lv_iload hx hb dX8_put_30 (lv_at hl 0 rfl) ?_
          by_cases hj : j < m1
          · have e4 : nI (m1 - j) + (-1) = nI (m1 - 1 - j) := nI_dn hj
            have hl : lv_has ls 5 [(4, .int (nI (m1 - 1 - j))), (0, .ref (b 0)), (1, .long w)] := by rw [e4] at hl; exact hl
            refine kTop (e4) ?_
            refine lv_if_lt (tgt := 66) hx hb dX8_put_32 (by decide) (fun c4 => ?_) (fun c4 => ?_)
            · have c4n : (m1 - 1 - j) < 0 := (nI_ltI (a := m1 - 1 - j) (b := 0) (by omega) (by omega)).mp c4
              exact absurd c4n (by omega)
            · have c4n : ¬ (m1 - 1 - j) < 0 := fun h => c4 ((nI_ltI (a := m1 - 1 - j) (b := 0) (by omega) (by omega)).mpr h)
              refine lv_aload_n hx hb dX8_put_35 rfl (lv_at hl 1 rfl) ?_
              refine gfX8_26 (v := .ref (b 6)) hx hb hta hown hK hP 0 rfl rfl dX8_put_36 ?_
              refine lv_aload_n hx hb dX8_put_39 rfl (lv_at hl 1 rfl) ?_
              refine gfX8_143 (v := .int (nI (pn R + j))) hx hb hta hown hK hP 0 rfl rfl dX8_put_40 ?_
              refine lv_lload_n hx hb dX8_put_43 rfl (lv_at hl 2 rfl) ?_
              refine lv_iload hx hb dX8_put_44 (lv_at hl 0 rfl) ?_
              refine kc_i (krS (As := [.long w, .int (nI (m1 - 1 - j))]) (rest := [.int (nI (pn R + j)), .ref (b 6)]) (c_X8_byteOf l D Y w (m1 - 1 - j)) ⟨hx, hb, hml, hown, hta⟩ (cwX8_155 hta ⟨Nat.le_of_ble_eq_true rfl, Nat.le_of_ble_eq_true rfl⟩) kX0b (fun _ _ _ => trivial) hK hNs hP hD (kJ_nil) rfl hl.1 rfl (Nat.le_of_ble_eq_true rfl) dX8_put_46 ⟨Nat.le_of_ble_eq_true rfl, Nat.le_of_ble_eq_true rfl⟩) hP hD hS hA (kJ_nil) (fun _ => rfl) (fun r5 u H locs hw hP hD hS => ?_)
              subst hw
              have hP : va_P D vwCl (wR Y b (sM (sR R 5 (P)) 7 1 (nI (pn R + j)))) H := hP
              have hD : va_D A (wR Y b (sM (sR R 5 (P)) 7 1 (nI (pn R + j)))) := hD
              refine kiast (f := P) hx hb hK hP hD hS 6 rfl (pn R + j) rfl (by omega) (by omega) dX8_put_49 (wR Y b (sM (sR R 5 (upd (P) (pn R + j) (mByte w (m1 - 1 - j)))) 7 1 (nI (pn R + j)))) rfl (fun H locs hP hD hS => ?_)
              refine lv_aload_n hx hb dX8_put_50 rfl (lv_at hl 1 rfl) ?_
              refine lv_dup hx hb dX8_put_51 rfl ?_
              refine gfX8_143 (v := .int (nI (pn R + j))) hx hb hta hown hK hP 0 rfl rfl dX8_put_52 ?_
              refine lv_iconst (v := 1) hx hb dX8_put_55 (by decide) ?_
              refine lv_iadd hx hb dX8_put_56 ?_
              refine kTop (nI_add (pn R + j) 1) ?_
              refine pfX8_143 (ws1 := wR Y b (sM (sR R 5 (upd (P) (pn R + j) (mByte w (m1 - 1 - j)))) 7 1 (nI (pn R + j + 1)))) hx hb hta hown hK hP hD hS 0 rfl (Nat.le_of_ble_eq_true rfl) rfl dX8_put_57 (fun H locs hP hD hS => ?_)
              refine lv_iinc (v := (nI (m1 - 1 - j)) + (-1)) (lv' := [(4, .int ((nI (m1 - 1 - j)) + (-1))), (0, .ref (b 0)), (1, .long w)]) hx hb dX8_put_60 hl (k := 0) rfl rfl (by decide) rfl (fun ls hl => ?_)
              refine lv_goto (tgt := 30) hx hb dX8_put_63 (by decide) ?_
              rw [show nI (m1 - 1 - j) = nI (m1 - (j + 1)) from congrArg nI (by omega)] at hl
              exact ih (j + 1) (upd (P) (pn R + j) (mByte w (m1 - 1 - j))) (by omega) (by rw [← hr0]; rfl) (by omega) _ _ hP hD hS ls (lv_sub hl [0, 1, 2] rfl)
          · have e4 : nI (m1 - j) + (-1) = (-1) := by rw [show m1 - j = 0 by omega]; rfl
            have hl : lv_has ls 5 [(4, .int (-1)), (0, .ref (b 0)), (1, .long w)] := by rw [e4] at hl; exact hl
            refine kTop (e4) ?_
            refine lv_if_lt (tgt := 66) hx hb dX8_put_32 (by decide) (fun _ => ?_) (fun h => absurd (show (-1 : Int32) < 0 from by decide) h)
            refine lv_aload_n hx hb dX8_put_66 rfl (lv_at hl 1 rfl) ?_
            refine gfX8_143 (v := .int (nI (pn R + j))) hx hb hta hown hK hP 0 rfl rfl dX8_put_67 ?_
            exact kiret (sM (sR R 5 (P)) 7 1 (nI (pn R + j))) hQ hx hb hr hlocks hP hS dX8_put_70 (by have hj2 : j = m1 := (by omega); subst hj2; subst hr0; unfold mPut mPutM; rw [if_neg (Int32.not_lt.mpr c2), hm, hn, nI_add, if_neg (fun h => absurd h (Int32.not_lt.mpr c3)), nI_clamp (n := j) (by omega)]; exact ⟨rfl, rfl⟩)
      rw [show nI m1 - 1 = nI (m1 - 0) + (-1) from Int32.sub_eq_add_neg _ _] at hl
      have hP : va_P D vwCl (wR Y b (sM (sR R 5 (R 5)) 7 1 (nI (pn R + 0)))) H := by rw [sR_id, sM_id (show R 7 1 = nI (pn R + 0) from hn)]; exact hP
      have hD : va_D A (wR Y b (sM (sR R 5 (R 5)) 7 1 (nI (pn R + 0)))) := by rw [sR_id, sM_id (show R 7 1 = nI (pn R + 0) from hn)]; exact hD
      exact loop30 ((m1 + 1 - 0) + 1) 0 (R 5) (Nat.lt_succ_self _) rfl (by omega) _ _ hP hD hS ls (lv_sub hl [0, 2, 3] rfl)
    · have c3n : ¬ (pn R + m1) ≤ 80 := fun h => c3 ((nI_leI (a := pn R + m1) (b := 80) (by omega) (by omega)).mpr h)
      refine lv_bipush (v := (-4)) hx hb dX8_put_22 (by decide) ?_
      exact kiret (R) hQ hx hb hr hlocks hP hS dX8_put_24 (by unfold mPut; rw [if_neg (Int32.not_lt.mpr c2), hm, hn, nI_add, if_pos (Int32.not_le.mp c3)]; exact ⟨rfl, rfl⟩)
  · refine lv_iload_n hx hb dX8_put_9 rfl (lv_at hl 0 rfl) ?_
    exact kiret (R) hQ hx hb hr hlocks hP hS dX8_put_10 (by unfold mPut; rw [if_pos (Int32.not_le.mp c2)]; exact ⟨rfl, rfl⟩)
