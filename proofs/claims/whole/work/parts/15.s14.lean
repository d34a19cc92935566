set_option maxHeartbeats 4000000 in
set_option maxRecDepth 100000 in
theorem c_X8_isStopped (l : Launch) (D : va_G) (Y : Nat → ClassId) (x : Nat) (s : kS) (hX : mX s) : kM l yX8_isStopped wX8_isStopped rX8_isStopped D Y ([(x, .inl (Y 0, 1497, .inl s))]) [.ref x] kX0 (kQi D (fun r (_ : Unit) => r = kb (mStopped s = true)) (fun _ => [(x, .inl (Y 0, 1497, .inl s))])) := by
  refine kentry (cc := cX8_isStopped) (maxL := 3) (ret := (some .boolean)) (by decide +kernel) rfl (Nat.le_of_ble_eq_true rfl) ?_
  intro p e s0 m args below meth c A Q ls hQ hx hb hr hlocks hml hown hin hta hA hX0 hK hNs hP hD hS hl
  have hown : s0.vm.findClass RX8 = some m.cls := hown
  have hl : lv_has ls 3 [(0, .ref x)] := hl
  have h5 := hX.s5
  refine lv_iconst (v := 0) hx hb dX8_isStopped_0 (by decide) ?_
  refine lv_istore_n (lv' := [(1, .int 0), (0, .ref x)]) hx hb dX8_isStopped_1 rfl hl (by decide) rfl (fun ls hl => ?_)
  refine lv_iconst (v := 0) hx hb dX8_isStopped_2 (by decide) ?_
  refine lv_istore_n (lv' := [(2, .int 0), (1, .int 0), (0, .ref x)]) hx hb dX8_isStopped_3 rfl hl (by decide) rfl (fun ls hl => ?_)
  have loop4 : ∀ (n : Nat) (k : Nat), mS s - k < n → k ≤ mS s → ∀ (H : Heap) (locs : List Loc), va_P D vwCl ([(x, .inl (Y 0, 1497, .inl s))]) H → va_D A ([(x, .inl (Y 0, 1497, .inl s))]) → va_S A s0.heap H locs → ∀ (ls : Array Slot), lv_has ls 3 [(2, .int (nI k)), (1, .int (kb (mStopTo s k = true))), (0, .ref x)] → W p l e rX8_isStopped s0 m args below meth c H locs 0 0 Q (F0 m 4 ls []) := by
    intro n
    induction n with
    | zero => intro k hmu; exact absurd hmu (Nat.not_lt_zero _)
    | succ n ih =>
      intro k hmu hk H locs hP hD hS ls hl
      refine lv_iload_n hx hb dX8_isStopped_4 rfl (lv_at hl 0 rfl) ?_
      refine lv_aload_n hx hb dX8_isStopped_5 rfl (lv_at hl 2 rfl) ?_
      refine lv_iconst (v := 2) hx hb dX8_isStopped_6 (by decide) ?_
      refine kiald (f := s) hx hb hK hP 0 rfl 2 rfl (by omega) (by omega) dX8_isStopped_7 ?_
      refine kTop hX.s ?_
      refine lv_icmp_ge (tgt := 54) hx hb dX8_isStopped_8 (by decide) (fun c1 => ?_) (fun c1 => ?_)
      · have c1n : (mS s) ≤ k := (nI_leI (a := mS s) (b := k) (by omega) (by omega)).mp c1
        refine lv_iload_n hx hb dX8_isStopped_54 rfl (lv_at hl 1 rfl) ?_
        exact kzret (()) hQ hx hb hr hlocks hP hS dX8_isStopped_55 (by first | exact Or.inl rfl | exact Or.inr rfl | exact kb_01 _) (by have hk2 : k = mS s := (by omega); subst hk2; rfl)
      · have c1n : ¬ (mS s) ≤ k := fun h => c1 ((nI_leI (a := mS s) (b := k) (by omega) (by omega)).mpr h)
        refine lv_iload_n hx hb dX8_isStopped_11 rfl (lv_at hl 1 rfl) ?_
        by_cases c2 : mStopTo s k = true
        · refine kTop (kb_t c2) ?_
          refine lv_if_ne (tgt := 42) hx hb dX8_isStopped_12 (by decide) (fun _ => ?_) (fun h => False.elim (by revert h; decide))
          refine lv_iconst (v := 1) hx hb dX8_isStopped_42 (by decide) ?_
          refine lv_goto (tgt := 47) hx hb dX8_isStopped_43 (by decide) ?_
          refine lv_istore_n (lv' := [(1, .int 1), (2, .int (nI k)), (0, .ref x)]) hx hb dX8_isStopped_47 rfl hl (by decide) rfl (fun ls hl => ?_)
          refine lv_iinc (v := nI (k + 1)) (lv' := [(2, .int (nI (k + 1))), (1, .int 1), (0, .ref x)]) hx hb dX8_isStopped_48 hl (k := 1) rfl (nI_add k 1) (by decide) rfl (fun ls hl => ?_)
          refine lv_goto (tgt := 4) hx hb dX8_isStopped_51 (by decide) ?_
          have hst : 1 = kb (mStopTo s (k + 1) = true) := (kb_t (by show (mStopTo s k || _) = true; rw [c2]; rfl)).symm
          rw [hst] at hl
          exact ih (k + 1) (by omega) (by omega) _ _ hP hD hS ls (lv_sub hl [0, 1, 2] rfl)
        · refine kTop (kb_f c2) ?_
          refine lv_if_ne (tgt := 42) hx hb dX8_isStopped_12 (by decide) (fun h => False.elim (by revert h; decide)) (fun _ => ?_)
          refine lv_aload_n hx hb dX8_isStopped_15 rfl (lv_at hl 2 rfl) ?_
          refine lv_iconst (v := 0) hx hb dX8_isStopped_16 (by decide) ?_
          refine kiald (f := s) hx hb hK hP 0 rfl 0 rfl (by omega) (by omega) dX8_isStopped_17 ?_
          refine lv_aload_n hx hb dX8_isStopped_18 rfl (lv_at hl 2 rfl) ?_
          refine lv_bipush (v := 16) hx hb dX8_isStopped_19 (by decide) ?_
          refine lv_iconst (v := 2) hx hb dX8_isStopped_21 (by decide) ?_
          refine lv_iload_n hx hb dX8_isStopped_22 rfl (lv_at hl 0 rfl) ?_
          refine lv_imul hx hb dX8_isStopped_23 ?_
          refine kTop (pk_mul 2 k) ?_
          refine lv_iadd hx hb dX8_isStopped_24 ?_
          refine kTop (nI_add 16 (2 * k)) ?_
          refine kiald (f := s) hx hb hK hP 0 rfl (16 + 2 * k) rfl (by omega) (by omega) dX8_isStopped_25 ?_
          refine lv_aload_n hx hb dX8_isStopped_26 rfl (lv_at hl 2 rfl) ?_
          refine lv_bipush (v := 16) hx hb dX8_isStopped_27 (by decide) ?_
          refine lv_iconst (v := 2) hx hb dX8_isStopped_29 (by decide) ?_
          refine lv_iload_n hx hb dX8_isStopped_30 rfl (lv_at hl 0 rfl) ?_
          refine lv_imul hx hb dX8_isStopped_31 ?_
          refine kTop (pk_mul 2 k) ?_
          refine lv_iadd hx hb dX8_isStopped_32 ?_
          refine kTop (nI_add 16 (2 * k)) ?_
          refine lv_iconst (v := 1) hx hb dX8_isStopped_33 (by decide) ?_
          refine lv_iadd hx hb dX8_isStopped_34 ?_
          refine kTop (nI_add (16 + 2 * k) 1) ?_
          refine kiald (f := s) hx hb hK hP 0 rfl (16 + 2 * k + 1) rfl (by omega) (by omega) dX8_isStopped_35 ?_
          refine kc_i (krS (As := [.int (s 0), .int (s (16 + 2 * k)), .int (s (16 + 2 * k + 1))]) (rest := []) (c_X8_in l D Y (s 0) (s (16 + 2 * k)) (s (16 + 2 * k + 1))) ⟨hx, hb, hml, hown, hta⟩ (cwX8_32 hta ⟨Nat.le_of_ble_eq_true rfl, Nat.le_of_ble_eq_true rfl⟩) kX0b (fun _ _ _ => trivial) hK hNs hP hD (kJ_nil) rfl hl.1 rfl (Nat.le_of_ble_eq_true rfl) dX8_isStopped_36 ⟨Nat.le_of_ble_eq_true rfl, Nat.le_of_ble_eq_true rfl⟩) hP hD hS hA (kJ_nil) (fun _ => rfl) (fun r3 u H locs hw hP hD hS => ?_)
          subst hw
          have hP : va_P D vwCl ([(x, .inl (Y 0, 1497, .inl s))]) H := hP
          have hD : va_D A ([(x, .inl (Y 0, 1497, .inl s))]) := hD
          by_cases c4 : pIn (s 0) (s (16 + 2 * k)) (s (16 + 2 * k + 1))
          · refine kTop (kb_t c4) ?_
            refine lv_if_eq (tgt := 46) hx hb dX8_isStopped_39 (by decide) (fun h => False.elim (by revert h; decide)) (fun _ => ?_)
            refine lv_iconst (v := 1) hx hb dX8_isStopped_42 (by decide) ?_
            refine lv_goto (tgt := 47) hx hb dX8_isStopped_43 (by decide) ?_
            refine lv_istore_n (lv' := [(1, .int 1), (2, .int (nI k)), (0, .ref x)]) hx hb dX8_isStopped_47 rfl hl (by decide) rfl (fun ls hl => ?_)
            refine lv_iinc (v := nI (k + 1)) (lv' := [(2, .int (nI (k + 1))), (1, .int 1), (0, .ref x)]) hx hb dX8_isStopped_48 hl (k := 1) rfl (nI_add k 1) (by decide) rfl (fun ls hl => ?_)
            refine lv_goto (tgt := 4) hx hb dX8_isStopped_51 (by decide) ?_
            have hst : 1 = kb (mStopTo s (k + 1) = true) := (kb_t (by show (mStopTo s k || decide _) = true; rw [decide_eq_true c4, Bool.or_true])).symm
            rw [hst] at hl
            exact ih (k + 1) (by omega) (by omega) _ _ hP hD hS ls (lv_sub hl [0, 1, 2] rfl)
          · refine kTop (kb_f c4) ?_
            refine lv_if_eq (tgt := 46) hx hb dX8_isStopped_39 (by decide) (fun _ => ?_) (fun h => False.elim (by revert h; decide))
            refine lv_iconst (v := 0) hx hb dX8_isStopped_46 (by decide) ?_
            refine lv_istore_n (lv' := [(1, .int 0), (2, .int (nI k)), (0, .ref x)]) hx hb dX8_isStopped_47 rfl hl (by decide) rfl (fun ls hl => ?_)
            refine lv_iinc (v := nI (k + 1)) (lv' := [(2, .int (nI (k + 1))), (1, .int 0), (0, .ref x)]) hx hb dX8_isStopped_48 hl (k := 1) rfl (nI_add k 1) (by decide) rfl (fun ls hl => ?_)
            refine lv_goto (tgt := 4) hx hb dX8_isStopped_51 (by decide) ?_
            have hst : 0 = kb (mStopTo s (k + 1) = true) := (kb_f (by show ¬ (mStopTo s k || decide _) = true; rw [decide_eq_false c4, Bool.or_false]; exact c2)).symm
            rw [hst] at hl
            exact ih (k + 1) (by omega) (by omega) _ _ hP hD hS ls (lv_sub hl [0, 1, 2] rfl)
  exact loop4 ((mS s - 0) + 1) 0 (Nat.lt_succ_self _) (by omega) _ _ hP hD hS ls (lv_sub hl [0, 1, 2] rfl)
