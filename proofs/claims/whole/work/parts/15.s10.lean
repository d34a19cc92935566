set_option maxHeartbeats 4000000 in
set_option maxRecDepth 100000 in
theorem c_X8_nextField (l : Launch) (D : va_G) (Y : Nat → ClassId) (x : Nat) (s : kS) (hX : mX s) : kM l yX8_nextField wX8_nextField rX8_nextField D Y ([(x, .inl (Y 0, 1497, .inl s))]) [.ref x] kX0 (kQi D (fun r (_ : Unit) => r = oI (mNextO s)) (fun _ => [(x, .inl (Y 0, 1497, .inl s))])) := by
  refine kentry (cc := cX8_nextField) (maxL := 4) (ret := (some .int)) (by decide +kernel) rfl (Nat.le_of_ble_eq_true rfl) ?_
  intro p e s0 m args below meth c A Q ls hQ hx hb hr hlocks hml hown hin hta hA hX0 hK hNs hP hD hS hl
  have hown : s0.vm.findClass RX8 = some m.cls := hown
  have hl : lv_has ls 4 [(0, .ref x)] := hl
  have h30 := hX.f30
  refine lv_bipush (v := (-6)) hx hb dX8_nextField_0 (by decide) ?_
  refine lv_istore_n (lv' := [(1, .int (-6)), (0, .ref x)]) hx hb dX8_nextField_2 rfl hl (by decide) rfl (fun ls hl => ?_)
  refine lv_iconst (v := 0) hx hb dX8_nextField_3 (by decide) ?_
  refine lv_istore_n (lv' := [(2, .int 0), (1, .int (-6)), (0, .ref x)]) hx hb dX8_nextField_4 rfl hl (by decide) rfl (fun ls hl => ?_)
  have loop5 : ∀ (n : Nat) (k : Nat) (o : Option Nat), mF s - k < n → o = mBest s k → k ≤ mF s → ∀ (H : Heap) (locs : List Loc), va_P D vwCl ([(x, .inl (Y 0, 1497, .inl s))]) H → va_D A ([(x, .inl (Y 0, 1497, .inl s))]) → va_S A s0.heap H locs → ∀ (ls : Array Slot), lv_has ls 4 [(2, .int (nI k)), (1, .int (oI o)), (0, .ref x)] → W p l e rX8_nextField s0 m args below meth c H locs 0 0 Q (F0 m 5 ls []) := by
    intro n
    induction n with
    | zero => intro k o hmu; exact absurd hmu (Nat.not_lt_zero _)
    | succ n ih =>
      intro k o hmu ho hk H locs hP hD hS ls hl
      refine lv_iload_n hx hb dX8_nextField_5 rfl (lv_at hl 0 rfl) ?_
      refine lv_aload_n hx hb dX8_nextField_6 rfl (lv_at hl 2 rfl) ?_
      refine lv_iconst (v := 1) hx hb dX8_nextField_7 (by decide) ?_
      refine kiald (f := s) hx hb hK hP 0 rfl 1 rfl (by omega) (by omega) dX8_nextField_8 ?_
      refine kTop hX.f ?_
      refine lv_icmp_ge (tgt := 72) hx hb dX8_nextField_9 (by decide) (fun c1 => ?_) (fun c1 => ?_)
      · have c1n : (mF s) ≤ k := (nI_leI (a := mF s) (b := k) (by omega) (by omega)).mp c1
        refine lv_aload_n hx hb dX8_nextField_72 rfl (lv_at hl 2 rfl) ?_
        refine kc_i (krS (As := [.ref x]) (rest := []) (c_X8_inYard l D Y (x) s hX) ⟨hx, hb, hml, hown, hta⟩ (cwX8_59 hta ⟨Nat.le_of_ble_eq_true rfl, Nat.le_of_ble_eq_true rfl⟩) kX0b (fun _ _ _ => trivial) hK hNs hP hD (kJ_all) rfl hl.1 rfl (Nat.le_of_ble_eq_true rfl) dX8_nextField_73 ⟨Nat.le_of_ble_eq_true rfl, Nat.le_of_ble_eq_true rfl⟩) hP hD hS hA (kJ_all) (fun _ => rfl) (fun r2 u H locs hw hP hD hS => ?_)
        subst hw
        have hP : va_P D vwCl ([(x, .inl (Y 0, 1497, .inl s))]) H := hP
        have hD : va_D A ([(x, .inl (Y 0, 1497, .inl s))]) := hD
        refine lv_aload_n hx hb dX8_nextField_76 rfl (lv_at hl 2 rfl) ?_
        refine lv_bipush (v := 6) hx hb dX8_nextField_77 (by decide) ?_
        refine kiald (f := s) hx hb hK hP 0 rfl 6 rfl (by omega) (by omega) dX8_nextField_79 ?_
        refine lv_icmp_ge (tgt := 87) hx hb dX8_nextField_80 (by decide) (fun c3 => ?_) (fun c3 => ?_)
        · refine lv_bipush (v := (-6)) hx hb dX8_nextField_87 (by decide) ?_
          exact kiret (()) hQ hx hb hr hlocks hP hS dX8_nextField_89 (by have hk2 : k = mF s := (by omega); subst hk2; unfold mNextO; rw [if_pos c3]; rfl)
        · refine lv_iload_n hx hb dX8_nextField_83 rfl (lv_at hl 1 rfl) ?_
          refine lv_goto (tgt := 89) hx hb dX8_nextField_84 (by decide) ?_
          exact kiret (()) hQ hx hb hr hlocks hP hS dX8_nextField_89 (by have hk2 : k = mF s := (by omega); subst hk2; unfold mNextO; rw [if_neg c3]; exact congrArg oI ho)
      · have c1n : ¬ (mF s) ≤ k := fun h => c1 ((nI_leI (a := mF s) (b := k) (by omega) (by omega)).mpr h)
        refine lv_aload_n hx hb dX8_nextField_12 rfl (lv_at hl 2 rfl) ?_
        refine lv_iload_n hx hb dX8_nextField_13 rfl (lv_at hl 0 rfl) ?_
        refine kc_i (krS (As := [.ref x, .int (nI k)]) (rest := []) (c_X8_how l D Y (x) s k (by omega)) ⟨hx, hb, hml, hown, hta⟩ (cwX8_51 hta ⟨Nat.le_of_ble_eq_true rfl, Nat.le_of_ble_eq_true rfl⟩) kX0b (fun _ _ _ => trivial) hK hNs hP hD (kJ_all) rfl hl.1 rfl (Nat.le_of_ble_eq_true rfl) dX8_nextField_14 ⟨Nat.le_of_ble_eq_true rfl, Nat.le_of_ble_eq_true rfl⟩) hP hD hS hA (kJ_all) (fun _ => rfl) (fun r4 u H locs hw hP hD hS => ?_)
        subst hw
        have hP : va_P D vwCl ([(x, .inl (Y 0, 1497, .inl s))]) H := hP
        have hD : va_D A ([(x, .inl (Y 0, 1497, .inl s))]) := hD
        refine lv_iconst (v := 1) hx hb dX8_nextField_17 (by decide) ?_
        refine lv_icmp_ne (tgt := 39) hx hb dX8_nextField_18 (by decide) (fun c5 => ?_) (fun c5 => ?_)
        · refine lv_iconst (v := 0) hx hb dX8_nextField_39 (by decide) ?_
          refine lv_istore_n (lv' := [(3, .int 0), (2, .int (nI k)), (1, .int (oI o)), (0, .ref x)]) hx hb dX8_nextField_40 rfl hl (by decide) rfl (fun ls hl => ?_)
          refine lv_iload_n hx hb dX8_nextField_41 rfl (lv_at hl 0 rfl) ?_
          refine lv_if_eq (tgt := 64) hx hb dX8_nextField_42 (by decide) (fun _ => ?_) (fun h => False.elim (by revert h; decide))
          refine lv_iload_n hx hb dX8_nextField_64 rfl (lv_at hl 2 rfl) ?_
          refine lv_istore_n (lv' := [(1, .int (oI o)), (3, .int 0), (2, .int (nI k)), (0, .ref x)]) hx hb dX8_nextField_65 rfl hl (by decide) rfl (fun ls hl => ?_)
          refine lv_iinc (v := nI (k + 1)) (lv' := [(2, .int (nI (k + 1))), (1, .int (oI o)), (3, .int 0), (0, .ref x)]) hx hb dX8_nextField_66 hl (k := 2) rfl (nI_add k 1) (by decide) rfl (fun ls hl => ?_)
          refine lv_goto (tgt := 5) hx hb dX8_nextField_69 (by decide) ?_
          exact ih (k + 1) o (by omega) (by show _ = (if mCan s k then mBetter s k (mBest s k) else mBest s k); rw [if_neg (fun h => c5 h.1)]; exact ho) (by omega) _ _ hP hD hS ls (lv_sub hl [0, 1, 3] rfl)
        · have hg := hX.g (f := k) (by omega)
          refine lv_aload_n hx hb dX8_nextField_21 rfl (lv_at hl 2 rfl) ?_
          refine lv_bipush (v := 10) hx hb dX8_nextField_22 (by decide) ?_
          refine lv_aload_n hx hb dX8_nextField_24 rfl (lv_at hl 2 rfl) ?_
          refine lv_iload_n hx hb dX8_nextField_25 rfl (lv_at hl 0 rfl) ?_
          refine lv_iconst (v := 0) hx hb dX8_nextField_26 (by decide) ?_
          refine kc_i (krS (As := [.ref x, .int (nI k), .int 0]) (rest := [.int 10, .ref x]) (c_X8_of l D Y (x) s k 0 (by omega) (by decide)) ⟨hx, hb, hml, hown, hta⟩ (cwX8_47 hta ⟨Nat.le_of_ble_eq_true rfl, Nat.le_of_ble_eq_true rfl⟩) kX0b (fun _ _ _ => trivial) hK hNs hP hD (kJ_all) rfl hl.1 rfl (Nat.le_of_ble_eq_true rfl) dX8_nextField_27 ⟨Nat.le_of_ble_eq_true rfl, Nat.le_of_ble_eq_true rfl⟩) hP hD hS hA (kJ_all) (fun _ => rfl) (fun r6 u H locs hw hP hD hS => ?_)
          subst hw
          have hP : va_P D vwCl ([(x, .inl (Y 0, 1497, .inl s))]) H := hP
          have hD : va_D A ([(x, .inl (Y 0, 1497, .inl s))]) := hD
          refine kTop hg.1 ?_
          refine lv_iadd hx hb dX8_nextField_30 ?_
          refine kTop (nI_add 10 (mg s k)) ?_
          refine kiald (f := s) hx hb hK hP 0 rfl (10 + mg s k) rfl (by have := hg.2; omega) (by omega) dX8_nextField_31 ?_
          refine lv_if_le (tgt := 39) hx hb dX8_nextField_32 (by decide) (fun c7 => ?_) (fun c7 => ?_)
          · refine lv_iconst (v := 0) hx hb dX8_nextField_39 (by decide) ?_
            refine lv_istore_n (lv' := [(3, .int 0), (2, .int (nI k)), (1, .int (oI o)), (0, .ref x)]) hx hb dX8_nextField_40 rfl hl (by decide) rfl (fun ls hl => ?_)
            refine lv_iload_n hx hb dX8_nextField_41 rfl (lv_at hl 0 rfl) ?_
            refine lv_if_eq (tgt := 64) hx hb dX8_nextField_42 (by decide) (fun _ => ?_) (fun h => False.elim (by revert h; decide))
            refine lv_iload_n hx hb dX8_nextField_64 rfl (lv_at hl 2 rfl) ?_
            refine lv_istore_n (lv' := [(1, .int (oI o)), (3, .int 0), (2, .int (nI k)), (0, .ref x)]) hx hb dX8_nextField_65 rfl hl (by decide) rfl (fun ls hl => ?_)
            refine lv_iinc (v := nI (k + 1)) (lv' := [(2, .int (nI (k + 1))), (1, .int (oI o)), (3, .int 0), (0, .ref x)]) hx hb dX8_nextField_66 hl (k := 2) rfl (nI_add k 1) (by decide) rfl (fun ls hl => ?_)
            refine lv_goto (tgt := 5) hx hb dX8_nextField_69 (by decide) ?_
            exact ih (k + 1) o (by omega) (by show _ = (if mCan s k then mBetter s k (mBest s k) else mBest s k); rw [if_neg (fun h => (Int32.not_lt.mpr c7) h.2)]; exact ho) (by omega) _ _ hP hD hS ls (lv_sub hl [0, 1, 3] rfl)
          · refine lv_iconst (v := 1) hx hb dX8_nextField_35 (by decide) ?_
            refine lv_goto (tgt := 40) hx hb dX8_nextField_36 (by decide) ?_
            refine lv_istore_n (lv' := [(3, .int 1), (2, .int (nI k)), (1, .int (oI o)), (0, .ref x)]) hx hb dX8_nextField_40 rfl hl (by decide) rfl (fun ls hl => ?_)
            refine lv_iload_n hx hb dX8_nextField_41 rfl (lv_at hl 0 rfl) ?_
            refine lv_if_eq (tgt := 64) hx hb dX8_nextField_42 (by decide) (fun h => False.elim (by revert h; decide)) (fun _ => ?_)
            rcases o with _ | b0
            · have hl : lv_has ls 4 [(3, .int 1), (2, .int (nI k)), (1, .int (-6)), (0, .ref x)] := hl
              refine lv_iload_n hx hb dX8_nextField_45 rfl (lv_at hl 2 rfl) ?_
              refine lv_bipush (v := (-6)) hx hb dX8_nextField_46 (by decide) ?_
              refine lv_icmp_eq (tgt := 60) hx hb dX8_nextField_48 (by decide) (fun _ => ?_) (fun h => absurd rfl h)
              refine lv_iload_n hx hb dX8_nextField_60 rfl (lv_at hl 1 rfl) ?_
              refine lv_goto (tgt := 65) hx hb dX8_nextField_61 (by decide) ?_
              refine lv_istore_n (lv' := [(1, .int (nI k)), (3, .int 1), (2, .int (nI k)), (0, .ref x)]) hx hb dX8_nextField_65 rfl hl (by decide) rfl (fun ls hl => ?_)
              refine lv_iinc (v := nI (k + 1)) (lv' := [(2, .int (nI (k + 1))), (1, .int (nI k)), (3, .int 1), (0, .ref x)]) hx hb dX8_nextField_66 hl (k := 2) rfl (nI_add k 1) (by decide) rfl (fun ls hl => ?_)
              refine lv_goto (tgt := 5) hx hb dX8_nextField_69 (by decide) ?_
              exact ih (k + 1) (some k) (by omega) (by show _ = (if mCan s k then mBetter s k (mBest s k) else mBest s k); rw [if_pos ⟨c5, Int32.not_le.mp c7⟩, ← ho]; rfl) (by omega) _ _ hP hD hS ls (lv_sub hl [0, 1, 3] rfl)
            · have hl : lv_has ls 4 [(3, .int 1), (2, .int (nI k)), (1, .int (nI b0)), (0, .ref x)] := hl
              have hb0 : b0 < k := (mBest_can ho.symm).1
              refine lv_iload_n hx hb dX8_nextField_45 rfl (lv_at hl 2 rfl) ?_
              refine lv_bipush (v := (-6)) hx hb dX8_nextField_46 (by decide) ?_
              refine lv_icmp_eq (tgt := 60) hx hb dX8_nextField_48 (by decide) (fun h => absurd h (oI_ne (by omega))) (fun _ => ?_)
              refine lv_aload_n hx hb dX8_nextField_51 rfl (lv_at hl 3 rfl) ?_
              refine lv_iload_n hx hb dX8_nextField_52 rfl (lv_at hl 1 rfl) ?_
              refine lv_iload_n hx hb dX8_nextField_53 rfl (lv_at hl 2 rfl) ?_
              refine kc_i (krS (As := [.ref x, .int (nI k), .int (nI b0)]) (rest := []) (c_X8_isAhead l D Y (x) s k b0 (by omega) (by omega) (hX.g (by omega)) (hX.g (by omega))) ⟨hx, hb, hml, hown, hta⟩ (cwX8_55 hta ⟨Nat.le_of_ble_eq_true rfl, Nat.le_of_ble_eq_true rfl⟩) kX0b (fun _ _ _ => trivial) hK hNs hP hD (kJ_all) rfl hl.1 rfl (Nat.le_of_ble_eq_true rfl) dX8_nextField_54 ⟨Nat.le_of_ble_eq_true rfl, Nat.le_of_ble_eq_true rfl⟩) hP hD hS hA (kJ_all) (fun _ => rfl) (fun r10 u H locs hw hP hD hS => ?_)
              subst hw
              have hP : va_P D vwCl ([(x, .inl (Y 0, 1497, .inl s))]) H := hP
              have hD : va_D A ([(x, .inl (Y 0, 1497, .inl s))]) := hD
              by_cases c11 : mAheadP s k b0
              · refine kTop (kb_t c11) ?_
                refine lv_if_eq (tgt := 64) hx hb dX8_nextField_57 (by decide) (fun h => False.elim (by revert h; decide)) (fun _ => ?_)
                refine lv_iload_n hx hb dX8_nextField_60 rfl (lv_at hl 1 rfl) ?_
                refine lv_goto (tgt := 65) hx hb dX8_nextField_61 (by decide) ?_
                refine lv_istore_n (lv' := [(1, .int (nI k)), (3, .int 1), (2, .int (nI k)), (0, .ref x)]) hx hb dX8_nextField_65 rfl hl (by decide) rfl (fun ls hl => ?_)
                refine lv_iinc (v := nI (k + 1)) (lv' := [(2, .int (nI (k + 1))), (1, .int (nI k)), (3, .int 1), (0, .ref x)]) hx hb dX8_nextField_66 hl (k := 2) rfl (nI_add k 1) (by decide) rfl (fun ls hl => ?_)
                refine lv_goto (tgt := 5) hx hb dX8_nextField_69 (by decide) ?_
                exact ih (k + 1) (some k) (by omega) (by show _ = (if mCan s k then mBetter s k (mBest s k) else mBest s k); rw [if_pos ⟨c5, Int32.not_le.mp c7⟩, ← ho]; exact (if_pos c11).symm) (by omega) _ _ hP hD hS ls (lv_sub hl [0, 1, 3] rfl)
              · refine kTop (kb_f c11) ?_
                refine lv_if_eq (tgt := 64) hx hb dX8_nextField_57 (by decide) (fun _ => ?_) (fun h => False.elim (by revert h; decide))
                refine lv_iload_n hx hb dX8_nextField_64 rfl (lv_at hl 2 rfl) ?_
                refine lv_istore_n (lv' := [(1, .int (nI b0)), (3, .int 1), (2, .int (nI k)), (0, .ref x)]) hx hb dX8_nextField_65 rfl hl (by decide) rfl (fun ls hl => ?_)
                refine lv_iinc (v := nI (k + 1)) (lv' := [(2, .int (nI (k + 1))), (1, .int (nI b0)), (3, .int 1), (0, .ref x)]) hx hb dX8_nextField_66 hl (k := 2) rfl (nI_add k 1) (by decide) rfl (fun ls hl => ?_)
                refine lv_goto (tgt := 5) hx hb dX8_nextField_69 (by decide) ?_
                exact ih (k + 1) (some b0) (by omega) (by show _ = (if mCan s k then mBetter s k (mBest s k) else mBest s k); rw [if_pos ⟨c5, Int32.not_le.mp c7⟩, ← ho]; exact (if_neg c11).symm) (by omega) _ _ hP hD hS ls (lv_sub hl [0, 1, 3] rfl)
  exact loop5 ((mF s - 0) + 1) 0 none (Nat.lt_succ_self _) rfl (by omega) _ _ hP hD hS ls (lv_sub hl [0, 1, 2] rfl)
