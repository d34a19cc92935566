set_option maxHeartbeats 4000000 in
set_option maxRecDepth 100000 in
theorem c_X8_loses (l : Launch) (D : va_G) (Y : Nat → ClassId) (x : Nat) (s : kS) (hX : mX s) : kM l yX8_loses wX8_loses rX8_loses D Y ([(x, .inl (Y 0, 1497, .inl s))]) [.ref x] kX0 (kQv D (fun u => u = mLose s) (fun u => [(x, .inl (Y 0, 1497, .inl (u)))])) := by
  refine kentry (cc := cX8_loses) (maxL := 3) (ret := none) (by decide +kernel) rfl (Nat.le_of_ble_eq_true rfl) ?_
  intro p e s0 m args below meth c A Q ls hQ hx hb hr hlocks hml hown hin hta hA hX0 hK hNs hP hD hS hl
  have hown : s0.vm.findClass RX8 = some m.cls := hown
  have hl : lv_has ls 3 [(0, .ref x)] := hl
  have h30 := hX.f30
  refine lv_iconst (v := 0) hx hb dX8_loses_0 (by decide) ?_
  refine lv_istore_n (lv' := [(1, .int 0), (0, .ref x)]) hx hb dX8_loses_1 rfl hl (by decide) rfl (fun ls hl => ?_)
  have loop2 : ∀ (n : Nat) (k : Nat) (N : kS), mF s - k < n → mLoseTo s k = N → k ≤ mF s → ∀ (H : Heap) (locs : List Loc), va_P D vwCl ([(x, .inl (Y 0, 1497, .inl N))]) H → va_D A ([(x, .inl (Y 0, 1497, .inl N))]) → va_S A s0.heap H locs → ∀ (ls : Array Slot), lv_has ls 3 [(1, .int (nI k)), (0, .ref x)] → W p l e rX8_loses s0 m args below meth c H locs 0 0 Q (F0 m 2 ls []) := by
    intro n
    induction n with
    | zero => intro k N hmu; exact absurd hmu (Nat.not_lt_zero _)
    | succ n ih =>
      intro k N hmu hN hk H locs hP hD hS ls hl
      obtain ⟨hXN, eF⟩ : mX N ∧ mF N = mF s := hN ▸ mLoseTo_X hX k hk
      have e1 : N 1 = nI (mF s) := by rw [hXN.f, eF]
      refine lv_iload_n hx hb dX8_loses_2 rfl (lv_at hl 0 rfl) ?_
      refine lv_aload_n hx hb dX8_loses_3 rfl (lv_at hl 1 rfl) ?_
      refine lv_iconst (v := 1) hx hb dX8_loses_4 (by decide) ?_
      refine kiald (f := N) hx hb hK hP 0 rfl 1 rfl (by omega) (by omega) dX8_loses_5 ?_
      refine kTop e1 ?_
      refine lv_icmp_ge (tgt := 103) hx hb dX8_loses_6 (by decide) (fun c1 => ?_) (fun c1 => ?_)
      · have c1n : (mF s) ≤ k := (nI_leI (a := mF s) (b := k) (by omega) (by omega)).mp c1
        exact kvret (N) hQ hx hb hr hlocks hP hS dX8_loses_103 (by have hk2 : k = mF s := (by omega); subst hk2; exact hN.symm)
      · have c1n : ¬ (mF s) ≤ k := fun h => c1 ((nI_leI (a := mF s) (b := k) (by omega) (by omega)).mpr h)
        refine lv_aload_n hx hb dX8_loses_9 rfl (lv_at hl 1 rfl) ?_
        refine lv_iload_n hx hb dX8_loses_10 rfl (lv_at hl 0 rfl) ?_
        refine kc_i (krS (As := [.ref x, .int (nI k)]) (rest := []) (c_X8_how l D Y (x) N k (by omega)) ⟨hx, hb, hml, hown, hta⟩ (cwX8_51 hta ⟨Nat.le_of_ble_eq_true rfl, Nat.le_of_ble_eq_true rfl⟩) kX0b (fun _ _ _ => trivial) hK hNs hP hD (kJ_all) rfl hl.1 rfl (Nat.le_of_ble_eq_true rfl) dX8_loses_11 ⟨Nat.le_of_ble_eq_true rfl, Nat.le_of_ble_eq_true rfl⟩) hP hD hS hA (kJ_all) (fun _ => rfl) (fun r2 u H locs hw hP hD hS => ?_)
        subst hw
        have hP : va_P D vwCl ([(x, .inl (Y 0, 1497, .inl N))]) H := hP
        have hD : va_D A ([(x, .inl (Y 0, 1497, .inl N))]) := hD
        refine lv_iconst (v := 1) hx hb dX8_loses_14 (by decide) ?_
        refine lv_icmp_ne (tgt := 97) hx hb dX8_loses_15 (by decide) (fun c3 => ?_) (fun c3 => ?_)
        · refine lv_iinc (v := nI (k + 1)) (lv' := [(1, .int (nI (k + 1))), (0, .ref x)]) hx hb dX8_loses_97 hl (k := 0) rfl (nI_add k 1) (by decide) rfl (fun ls hl => ?_)
          refine lv_goto (tgt := 2) hx hb dX8_loses_100 (by decide) ?_
          exact ih (k + 1) N (by omega) (by show mLoseStep (mLoseTo s k) k = _; rw [hN]; unfold mLoseStep; rw [if_neg c3]) (by omega) _ _ hP hD hS ls (lv_sub hl [0, 1] rfl)
        · refine lv_aload_n hx hb dX8_loses_18 rfl (lv_at hl 1 rfl) ?_
          refine lv_iconst (v := 0) hx hb dX8_loses_19 (by decide) ?_
          refine kiald (f := N) hx hb hK hP 0 rfl 0 rfl (by omega) (by omega) dX8_loses_20 ?_
          refine lv_aload_n hx hb dX8_loses_21 rfl (lv_at hl 1 rfl) ?_
          refine lv_iload_n hx hb dX8_loses_22 rfl (lv_at hl 0 rfl) ?_
          refine lv_iconst (v := 3) hx hb dX8_loses_23 (by decide) ?_
          refine kc_i (krS (As := [.ref x, .int (nI k), .int 3]) (rest := [.int (N 0)]) (c_X8_of l D Y (x) N k 3 (by omega) (by decide)) ⟨hx, hb, hml, hown, hta⟩ (cwX8_47 hta ⟨Nat.le_of_ble_eq_true rfl, Nat.le_of_ble_eq_true rfl⟩) kX0b (fun _ _ _ => trivial) hK hNs hP hD (kJ_all) rfl hl.1 rfl (Nat.le_of_ble_eq_true rfl) dX8_loses_24 ⟨Nat.le_of_ble_eq_true rfl, Nat.le_of_ble_eq_true rfl⟩) hP hD hS hA (kJ_all) (fun _ => rfl) (fun r4 u H locs hw hP hD hS => ?_)
          subst hw
          have hP : va_P D vwCl ([(x, .inl (Y 0, 1497, .inl N))]) H := hP
          have hD : va_D A ([(x, .inl (Y 0, 1497, .inl N))]) := hD
          refine lv_isub hx hb dX8_loses_27 ?_
          refine lv_aload_n hx hb dX8_loses_28 rfl (lv_at hl 1 rfl) ?_
          refine lv_bipush (v := 8) hx hb dX8_loses_29 (by decide) ?_
          refine kiald (f := N) hx hb hK hP 0 rfl 8 rfl (by omega) (by omega) dX8_loses_31 ?_
          refine lv_icmp_le (tgt := 97) hx hb dX8_loses_32 (by decide) (fun c5 => ?_) (fun c5 => ?_)
          · refine lv_iinc (v := nI (k + 1)) (lv' := [(1, .int (nI (k + 1))), (0, .ref x)]) hx hb dX8_loses_97 hl (k := 0) rfl (nI_add k 1) (by decide) rfl (fun ls hl => ?_)
            refine lv_goto (tgt := 2) hx hb dX8_loses_100 (by decide) ?_
            exact ih (k + 1) N (by omega) (by show mLoseStep (mLoseTo s k) k = _; rw [hN]; unfold mLoseStep; rw [if_pos c3, if_pos c5]) (by omega) _ _ hP hD hS ls (lv_sub hl [0, 1] rfl)
          · have hg := hXN.g (f := k) (by omega)
            refine lv_aload_n hx hb dX8_loses_35 rfl (lv_at hl 1 rfl) ?_
            refine lv_iload_n hx hb dX8_loses_36 rfl (lv_at hl 0 rfl) ?_
            refine lv_iconst (v := 4) hx hb dX8_loses_37 (by decide) ?_
            refine kc_i (krS (As := [.ref x, .int (nI k), .int 4]) (rest := []) (c_X8_of l D Y (x) N k 4 (by omega) (by decide)) ⟨hx, hb, hml, hown, hta⟩ (cwX8_47 hta ⟨Nat.le_of_ble_eq_true rfl, Nat.le_of_ble_eq_true rfl⟩) kX0b (fun _ _ _ => trivial) hK hNs hP hD (kJ_all) rfl hl.1 rfl (Nat.le_of_ble_eq_true rfl) dX8_loses_38 ⟨Nat.le_of_ble_eq_true rfl, Nat.le_of_ble_eq_true rfl⟩) hP hD hS hA (kJ_all) (fun _ => rfl) (fun r6 u H locs hw hP hD hS => ?_)
            subst hw
            have hP : va_P D vwCl ([(x, .inl (Y 0, 1497, .inl N))]) H := hP
            have hD : va_D A ([(x, .inl (Y 0, 1497, .inl N))]) := hD
            refine lv_istore_n (lv' := [(2, .int (N (56 + 8 * k + 4))), (1, .int (nI k)), (0, .ref x)]) hx hb dX8_loses_41 rfl hl (by decide) rfl (fun ls hl => ?_)
            refine lv_aload_n hx hb dX8_loses_42 rfl (lv_at hl 2 rfl) ?_
            refine lv_bipush (v := 56) hx hb dX8_loses_43 (by decide) ?_
            refine lv_bipush (v := 8) hx hb dX8_loses_45 (by decide) ?_
            refine lv_iload_n hx hb dX8_loses_47 rfl (lv_at hl 1 rfl) ?_
            refine lv_imul hx hb dX8_loses_48 ?_
            refine kTop (pk_mul 8 k) ?_
            refine lv_iadd hx hb dX8_loses_49 ?_
            refine kTop (nI_add 56 (8 * k)) ?_
            refine lv_iconst (v := 4) hx hb dX8_loses_50 (by decide) ?_
            refine lv_iadd hx hb dX8_loses_51 ?_
            refine kTop (nI_add (56 + 8 * k) 4) ?_
            refine lv_iconst (v := 0) hx hb dX8_loses_52 (by decide) ?_
            refine kiast (f := N) hx hb hK hP hD hS 0 rfl (56 + 8 * k + 4) rfl (by omega) (by omega) dX8_loses_53 ([(x, .inl (Y 0, 1497, .inl (upd N (56 + 8 * k + 4) 0)))]) rfl (fun H locs hP hD hS => ?_)
            refine lv_aload_n hx hb dX8_loses_54 rfl (lv_at hl 2 rfl) ?_
            refine lv_bipush (v := 56) hx hb dX8_loses_55 (by decide) ?_
            refine lv_bipush (v := 8) hx hb dX8_loses_57 (by decide) ?_
            refine lv_iload_n hx hb dX8_loses_59 rfl (lv_at hl 1 rfl) ?_
            refine lv_imul hx hb dX8_loses_60 ?_
            refine kTop (pk_mul 8 k) ?_
            refine lv_iadd hx hb dX8_loses_61 ?_
            refine kTop (nI_add 56 (8 * k)) ?_
            refine lv_bipush (v := 7) hx hb dX8_loses_62 (by decide) ?_
            refine lv_iadd hx hb dX8_loses_64 ?_
            refine kTop (nI_add (56 + 8 * k) 7) ?_
            refine lv_dup2_11 hx hb dX8_loses_65 rfl rfl ?_
            refine kiald (f := upd N (56 + 8 * k + 4) 0) hx hb hK hP 0 rfl (56 + 8 * k + 7) rfl (by omega) (by omega) dX8_loses_66 ?_
            refine lv_iload_n hx hb dX8_loses_67 rfl (lv_at hl 0 rfl) ?_
            refine lv_iadd hx hb dX8_loses_68 ?_
            refine kiast (f := upd N (56 + 8 * k + 4) 0) hx hb hK hP hD hS 0 rfl (56 + 8 * k + 7) rfl (by omega) (by omega) dX8_loses_69 ([(x, .inl (Y 0, 1497, .inl (upd (upd N (56 + 8 * k + 4) 0) (56 + 8 * k + 7) ((upd N (56 + 8 * k + 4) 0 (56 + 8 * k + 7)) + (N (56 + 8 * k + 4))))))]) rfl (fun H locs hP hD hS => ?_)
            refine lv_aload_n hx hb dX8_loses_70 rfl (lv_at hl 2 rfl) ?_
            refine lv_bipush (v := 28) hx hb dX8_loses_71 (by decide) ?_
            refine lv_dup2_11 hx hb dX8_loses_73 rfl rfl ?_
            refine kiald (f := upd (upd N (56 + 8 * k + 4) 0) (56 + 8 * k + 7) ((upd N (56 + 8 * k + 4) 0 (56 + 8 * k + 7)) + (N (56 + 8 * k + 4)))) hx hb hK hP 0 rfl 28 rfl (by omega) (by omega) dX8_loses_74 ?_
            refine lv_iload_n hx hb dX8_loses_75 rfl (lv_at hl 0 rfl) ?_
            refine lv_iadd hx hb dX8_loses_76 ?_
            refine kiast (f := upd (upd N (56 + 8 * k + 4) 0) (56 + 8 * k + 7) ((upd N (56 + 8 * k + 4) 0 (56 + 8 * k + 7)) + (N (56 + 8 * k + 4)))) hx hb hK hP hD hS 0 rfl 28 rfl (by omega) (by omega) dX8_loses_77 ([(x, .inl (Y 0, 1497, .inl (upd (upd (upd N (56 + 8 * k + 4) 0) (56 + 8 * k + 7) ((upd N (56 + 8 * k + 4) 0 (56 + 8 * k + 7)) + (N (56 + 8 * k + 4)))) 28 ((upd (upd N (56 + 8 * k + 4) 0) (56 + 8 * k + 7) ((upd N (56 + 8 * k + 4) 0 (56 + 8 * k + 7)) + (N (56 + 8 * k + 4))) 28) + (N (56 + 8 * k + 4))))))]) rfl (fun H locs hP hD hS => ?_)
            have hgz : (upd (upd (upd N (56 + 8 * k + 4) 0) (56 + 8 * k + 7) ((upd N (56 + 8 * k + 4) 0 (56 + 8 * k + 7)) + (N (56 + 8 * k + 4)))) 28 ((upd (upd N (56 + 8 * k + 4) 0) (56 + 8 * k + 7) ((upd N (56 + 8 * k + 4) 0 (56 + 8 * k + 7)) + (N (56 + 8 * k + 4))) 28) + (N (56 + 8 * k + 4)))) (56 + 8 * k + 0) = nI (mg N k) := by rw [upd_o (by omega), upd_o (by omega), upd_o (by omega)]; exact hg.1
            refine lv_aload_n hx hb dX8_loses_78 rfl (lv_at hl 2 rfl) ?_
            refine lv_bipush (v := 32) hx hb dX8_loses_79 (by decide) ?_
            refine lv_iconst (v := 4) hx hb dX8_loses_81 (by decide) ?_
            refine lv_aload_n hx hb dX8_loses_82 rfl (lv_at hl 2 rfl) ?_
            refine lv_iload_n hx hb dX8_loses_83 rfl (lv_at hl 1 rfl) ?_
            refine lv_iconst (v := 0) hx hb dX8_loses_84 (by decide) ?_
            refine kc_i (krS (As := [.ref x, .int (nI k), .int 0]) (rest := [.int 4, .int 32, .ref x]) (c_X8_of l D Y (x) (upd (upd (upd N (56 + 8 * k + 4) 0) (56 + 8 * k + 7) ((upd N (56 + 8 * k + 4) 0 (56 + 8 * k + 7)) + (N (56 + 8 * k + 4)))) 28 ((upd (upd N (56 + 8 * k + 4) 0) (56 + 8 * k + 7) ((upd N (56 + 8 * k + 4) 0 (56 + 8 * k + 7)) + (N (56 + 8 * k + 4))) 28) + (N (56 + 8 * k + 4)))) k 0 (by omega) (by decide)) ⟨hx, hb, hml, hown, hta⟩ (cwX8_47 hta ⟨Nat.le_of_ble_eq_true rfl, Nat.le_of_ble_eq_true rfl⟩) kX0b (fun _ _ _ => trivial) hK hNs hP hD (kJ_all) rfl hl.1 rfl (Nat.le_of_ble_eq_true rfl) dX8_loses_85 ⟨Nat.le_of_ble_eq_true rfl, Nat.le_of_ble_eq_true rfl⟩) hP hD hS hA (kJ_all) (fun _ => rfl) (fun r7 u H locs hw hP hD hS => ?_)
            subst hw
            have hP : va_P D vwCl ([(x, .inl (Y 0, 1497, .inl (upd (upd (upd N (56 + 8 * k + 4) 0) (56 + 8 * k + 7) ((upd N (56 + 8 * k + 4) 0 (56 + 8 * k + 7)) + (N (56 + 8 * k + 4)))) 28 ((upd (upd N (56 + 8 * k + 4) 0) (56 + 8 * k + 7) ((upd N (56 + 8 * k + 4) 0 (56 + 8 * k + 7)) + (N (56 + 8 * k + 4))) 28) + (N (56 + 8 * k + 4))))))]) H := hP
            have hD : va_D A ([(x, .inl (Y 0, 1497, .inl (upd (upd (upd N (56 + 8 * k + 4) 0) (56 + 8 * k + 7) ((upd N (56 + 8 * k + 4) 0 (56 + 8 * k + 7)) + (N (56 + 8 * k + 4)))) 28 ((upd (upd N (56 + 8 * k + 4) 0) (56 + 8 * k + 7) ((upd N (56 + 8 * k + 4) 0 (56 + 8 * k + 7)) + (N (56 + 8 * k + 4))) 28) + (N (56 + 8 * k + 4))))))]) := hD
            refine kTop hgz ?_
            refine lv_imul hx hb dX8_loses_88 ?_
            refine kTop (pk_mul 4 (mg N k)) ?_
            refine lv_iadd hx hb dX8_loses_89 ?_
            refine kTop (nI_add 32 (4 * mg N k)) ?_
            refine lv_iconst (v := 2) hx hb dX8_loses_90 (by decide) ?_
            refine lv_iadd hx hb dX8_loses_91 ?_
            refine kTop (nI_add (32 + 4 * mg N k) 2) ?_
            refine lv_dup2_11 hx hb dX8_loses_92 rfl rfl ?_
            refine kiald (f := upd (upd (upd N (56 + 8 * k + 4) 0) (56 + 8 * k + 7) ((upd N (56 + 8 * k + 4) 0 (56 + 8 * k + 7)) + (N (56 + 8 * k + 4)))) 28 ((upd (upd N (56 + 8 * k + 4) 0) (56 + 8 * k + 7) ((upd N (56 + 8 * k + 4) 0 (56 + 8 * k + 7)) + (N (56 + 8 * k + 4))) 28) + (N (56 + 8 * k + 4)))) hx hb hK hP 0 rfl (32 + 4 * mg N k + 2) rfl (by have := hg.2; omega) (by omega) dX8_loses_93 ?_
            refine lv_iload_n hx hb dX8_loses_94 rfl (lv_at hl 0 rfl) ?_
            refine lv_iadd hx hb dX8_loses_95 ?_
            refine kiast (f := upd (upd (upd N (56 + 8 * k + 4) 0) (56 + 8 * k + 7) ((upd N (56 + 8 * k + 4) 0 (56 + 8 * k + 7)) + (N (56 + 8 * k + 4)))) 28 ((upd (upd N (56 + 8 * k + 4) 0) (56 + 8 * k + 7) ((upd N (56 + 8 * k + 4) 0 (56 + 8 * k + 7)) + (N (56 + 8 * k + 4))) 28) + (N (56 + 8 * k + 4)))) hx hb hK hP hD hS 0 rfl (32 + 4 * mg N k + 2) rfl (by have := hg.2; omega) (by omega) dX8_loses_96 ([(x, .inl (Y 0, 1497, .inl (upd (upd (upd (upd N (56 + 8 * k + 4) 0) (56 + 8 * k + 7) ((upd N (56 + 8 * k + 4) 0 (56 + 8 * k + 7)) + (N (56 + 8 * k + 4)))) 28 ((upd (upd N (56 + 8 * k + 4) 0) (56 + 8 * k + 7) ((upd N (56 + 8 * k + 4) 0 (56 + 8 * k + 7)) + (N (56 + 8 * k + 4))) 28) + (N (56 + 8 * k + 4)))) (32 + 4 * mg N k + 2) ((upd (upd (upd N (56 + 8 * k + 4) 0) (56 + 8 * k + 7) ((upd N (56 + 8 * k + 4) 0 (56 + 8 * k + 7)) + (N (56 + 8 * k + 4)))) 28 ((upd (upd N (56 + 8 * k + 4) 0) (56 + 8 * k + 7) ((upd N (56 + 8 * k + 4) 0 (56 + 8 * k + 7)) + (N (56 + 8 * k + 4))) 28) + (N (56 + 8 * k + 4))) (32 + 4 * mg N k + 2)) + (N (56 + 8 * k + 4))))))]) rfl (fun H locs hP hD hS => ?_)
            refine lv_iinc (v := nI (k + 1)) (lv' := [(1, .int (nI (k + 1))), (2, .int (N (56 + 8 * k + 4))), (0, .ref x)]) hx hb dX8_loses_97 hl (k := 1) rfl (nI_add k 1) (by decide) rfl (fun ls hl => ?_)
            refine lv_goto (tgt := 2) hx hb dX8_loses_100 (by decide) ?_
            exact ih (k + 1) (upd (upd (upd (upd N (56 + 8 * k + 4) 0) (56 + 8 * k + 7) ((upd N (56 + 8 * k + 4) 0 (56 + 8 * k + 7)) + (N (56 + 8 * k + 4)))) 28 ((upd (upd N (56 + 8 * k + 4) 0) (56 + 8 * k + 7) ((upd N (56 + 8 * k + 4) 0 (56 + 8 * k + 7)) + (N (56 + 8 * k + 4))) 28) + (N (56 + 8 * k + 4)))) (32 + 4 * mg N k + 2) ((upd (upd (upd N (56 + 8 * k + 4) 0) (56 + 8 * k + 7) ((upd N (56 + 8 * k + 4) 0 (56 + 8 * k + 7)) + (N (56 + 8 * k + 4)))) 28 ((upd (upd N (56 + 8 * k + 4) 0) (56 + 8 * k + 7) ((upd N (56 + 8 * k + 4) 0 (56 + 8 * k + 7)) + (N (56 + 8 * k + 4))) 28) + (N (56 + 8 * k + 4))) (32 + 4 * mg N k + 2)) + (N (56 + 8 * k + 4)))) (by omega) (by show mLoseStep (mLoseTo s k) k = _; rw [hN]; unfold mLoseStep; rw [if_pos c3, if_neg c5] <;> rfl) (by omega) _ _ hP hD hS ls (lv_sub hl [0, 2] rfl)
  exact loop2 ((mF s - 0) + 1) 0 s (Nat.lt_succ_self _) rfl (by omega) _ _ hP hD hS ls (lv_sub hl [0, 1] rfl)
