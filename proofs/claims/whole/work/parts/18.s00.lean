set_option maxHeartbeats 4000000 in
set_option maxRecDepth 100000 in
theorem c_X8_day (l : Launch) (D : va_G) (Y : Nat → ClassId) (x : Nat) (s : kS) (P : Prop) [Decidable P] (hZ : mX s) (hQ0 : mQ s) : kM l yX8_day wX8_day rX8_day D Y ([(x, .inl (Y 0, 1497, .inl s))]) [.ref x, .int (kb P)] kX0 (kQv D (fun u => u = mDay s P) (fun u => [(x, .inl (Y 0, 1497, .inl (u)))])) := by
  refine kentry (cc := cX8_day) (maxL := 4) (ret := none) (by decide +kernel) rfl (Nat.le_of_ble_eq_true rfl) ?_
  intro p e s0 m args below meth c A Q ls hQ hx hb hr hlocks hml hown hin hta hA hX0 hK hNs hP hD hS hl
  have hown : s0.vm.findClass RX8 = some m.cls := hown
  have hl : lv_has ls 4 [(0, .ref x), (1, .int (kb P))] := hl
  have hZ1 := mLose_X hZ
  have hQ1 := mLose_Q hZ hQ0
  have h20 := hZ1.t20
  refine lv_aload_n hx hb dX8_day_0 rfl (lv_at hl 0 rfl) ?_
  refine kc_v (krS (As := [.ref x]) (rest := []) (c_X8_loses l D Y (x) s hZ) ⟨hx, hb, hml, hown, hta⟩ (cwX8_74 hta ⟨Nat.le_of_ble_eq_true rfl, Nat.le_of_ble_eq_true rfl⟩) kX0b (fun _ _ _ => trivial) hK hNs hP hD (kJ_all) rfl hl.1 rfl (Nat.le_of_ble_eq_true rfl) dX8_day_1 ⟨Nat.le_of_ble_eq_true rfl, Nat.le_of_ble_eq_true rfl⟩) hP hD hS hA (kJ_all) (fun _ => rfl) (fun N1 H locs hw hP hD hS => ?_)
  have hN1 := hw
  have hP : va_P D vwCl ([(x, .inl (Y 0, 1497, .inl N1))]) H := hP
  have hD : va_D A ([(x, .inl (Y 0, 1497, .inl N1))]) := hD
  subst hN1
  refine lv_aload_n hx hb dX8_day_4 rfl (lv_at hl 0 rfl) ?_
  refine kc_i (krS (As := [.ref x]) (rest := []) (c_X8_nextField l D Y (x) (mLose s) hZ1) ⟨hx, hb, hml, hown, hta⟩ (cwX8_78 hta ⟨Nat.le_of_ble_eq_true rfl, Nat.le_of_ble_eq_true rfl⟩) kX0b (fun _ _ _ => trivial) hK hNs hP hD (kJ_all) rfl hl.1 rfl (Nat.le_of_ble_eq_true rfl) dX8_day_5 ⟨Nat.le_of_ble_eq_true rfl, Nat.le_of_ble_eq_true rfl⟩) hP hD hS hA (kJ_all) (fun _ => rfl) (fun r2 u H locs hw hP hD hS => ?_)
  subst hw
  have hP : va_P D vwCl ([(x, .inl (Y 0, 1497, .inl (mLose s)))]) H := hP
  have hD : va_D A ([(x, .inl (Y 0, 1497, .inl (mLose s)))]) := hD
  refine lv_istore_n (lv' := [(2, .int (oI (mNextO (mLose s)))), (0, .ref x), (1, .int (kb P))]) hx hb dX8_day_8 rfl hl (by decide) rfl (fun ls hl => ?_)
  refine lv_iconst (v := 0) hx hb dX8_day_9 (by decide) ?_
  refine lv_istore_n (lv' := [(3, .int 0), (2, .int (oI (mNextO (mLose s)))), (0, .ref x), (1, .int (kb P))]) hx hb dX8_day_10 rfl hl (by decide) rfl (fun ls hl => ?_)
  have loop11 : ∀ (n : Nat) (t : Nat) (N : kS), mT (mLose s) - t < n → mBringTo (mLose s) t = N → t ≤ mT (mLose s) → ∀ (H : Heap) (locs : List Loc), va_P D vwCl ([(x, .inl (Y 0, 1497, .inl N))]) H → va_D A ([(x, .inl (Y 0, 1497, .inl N))]) → va_S A s0.heap H locs → ∀ (ls : Array Slot), lv_has ls 4 [(3, .int (nI t)), (2, .int (oI (mNextO N))), (0, .ref x), (1, .int (kb P))] → W p l e rX8_day s0 m args below meth c H locs 0 0 Q (F0 m 11 ls []) := by
    intro n
    induction n with
    | zero => intro t N hmu; exact absurd hmu (Nat.not_lt_zero _)
    | succ n ih =>
      intro t N hmu hN ht H locs hP hD hS ls hl
      obtain ⟨hXN, hQN, e3⟩ : mX N ∧ mQ N ∧ N 3 = mLose s 3 := hN ▸ mBringTo_I hZ1 hQ1 t
      have eT : N 3 = nI (mT (mLose s)) := by rw [e3]; exact hZ1.t
      refine lv_iload_n hx hb dX8_day_11 rfl (lv_at hl 0 rfl) ?_
      refine lv_aload_n hx hb dX8_day_12 rfl (lv_at hl 2 rfl) ?_
      refine lv_iconst (v := 3) hx hb dX8_day_13 (by decide) ?_
      refine kiald (f := N) hx hb hK hP 0 rfl 3 rfl (by omega) (by omega) dX8_day_14 ?_
      refine kTop eT ?_
      refine lv_icmp_ge (tgt := 40) hx hb dX8_day_15 (by decide) (fun c3 => ?_) (fun c3 => ?_)
      · have c3n : (mT (mLose s)) ≤ t := (nI_leI (a := mT (mLose s)) (b := t) (by omega) (by omega)).mp c3
        have hB : N = mBring (mLose s) := by have ht2 : t = mT (mLose s) := (by omega); subst ht2; exact hN.symm
        refine lv_iload_n hx hb dX8_day_40 rfl (lv_at hl 3 rfl) ?_
        by_cases c4 : P
        · refine kTop (kb_t c4) ?_
          refine lv_if_ne (tgt := 51) hx hb dX8_day_41 (by decide) (fun _ => ?_) (fun h => False.elim (by revert h; decide))
          refine lv_aload_n hx hb dX8_day_51 rfl (lv_at hl 2 rfl) ?_
          refine lv_bipush (v := 31) hx hb dX8_day_52 (by decide) ?_
          refine lv_dup2_11 hx hb dX8_day_54 rfl rfl ?_
          refine kiald (f := N) hx hb hK hP 0 rfl 31 rfl (by omega) (by omega) dX8_day_55 ?_
          refine lv_iconst (v := 1) hx hb dX8_day_56 (by decide) ?_
          refine lv_iadd hx hb dX8_day_57 ?_
          refine kiast (f := N) hx hb hK hP hD hS 0 rfl 31 rfl (by omega) (by omega) dX8_day_58 ([(x, .inl (Y 0, 1497, .inl (upd N 31 ((N 31) + 1))))]) rfl (fun H locs hP hD hS => ?_)
          refine lv_goto (tgt := 66) hx hb dX8_day_59 (by decide) ?_
          refine lv_aload_n hx hb dX8_day_66 rfl (lv_at hl 2 rfl) ?_
          refine lv_iconst (v := 0) hx hb dX8_day_67 (by decide) ?_
          refine lv_dup2_11 hx hb dX8_day_68 rfl rfl ?_
          refine kiald (f := upd N 31 ((N 31) + 1)) hx hb hK hP 0 rfl 0 rfl (by omega) (by omega) dX8_day_69 ?_
          refine lv_iconst (v := 1) hx hb dX8_day_70 (by decide) ?_
          refine lv_iadd hx hb dX8_day_71 ?_
          refine kiast (f := upd N 31 ((N 31) + 1)) hx hb hK hP hD hS 0 rfl 0 rfl (by omega) (by omega) dX8_day_72 ([(x, .inl (Y 0, 1497, .inl (upd (upd N 31 ((N 31) + 1)) 0 ((upd N 31 ((N 31) + 1) 0) + 1))))]) rfl (fun H locs hP hD hS => ?_)
          exact kvret (upd (upd N 31 ((N 31) + 1)) 0 ((upd N 31 ((N 31) + 1) 0) + 1)) hQ hx hb hr hlocks hP hS dX8_day_73 (by subst hB; unfold mDay mRest; rw [if_pos (Or.inl c4)] <;> rfl)
        · refine kTop (kb_f c4) ?_
          refine lv_if_ne (tgt := 51) hx hb dX8_day_41 (by decide) (fun h => False.elim (by revert h; decide)) (fun _ => ?_)
          refine lv_aload_n hx hb dX8_day_44 rfl (lv_at hl 2 rfl) ?_
          refine kc_i (krS (As := [.ref x]) (rest := []) (c_X8_isStopped l D Y (x) N hXN) ⟨hx, hb, hml, hown, hta⟩ (cwX8_85 hta ⟨Nat.le_of_ble_eq_true rfl, Nat.le_of_ble_eq_true rfl⟩) kX0b (fun _ _ _ => trivial) hK hNs hP hD (kJ_all) rfl hl.1 rfl (Nat.le_of_ble_eq_true rfl) dX8_day_45 ⟨Nat.le_of_ble_eq_true rfl, Nat.le_of_ble_eq_true rfl⟩) hP hD hS hA (kJ_all) (fun _ => rfl) (fun r5 u H locs hw hP hD hS => ?_)
          subst hw
          have hP : va_P D vwCl ([(x, .inl (Y 0, 1497, .inl N))]) H := hP
          have hD : va_D A ([(x, .inl (Y 0, 1497, .inl N))]) := hD
          by_cases c6 : mStopped N = true
          · refine kTop (kb_t c6) ?_
            refine lv_if_eq (tgt := 62) hx hb dX8_day_48 (by decide) (fun h => False.elim (by revert h; decide)) (fun _ => ?_)
            refine lv_aload_n hx hb dX8_day_51 rfl (lv_at hl 2 rfl) ?_
            refine lv_bipush (v := 31) hx hb dX8_day_52 (by decide) ?_
            refine lv_dup2_11 hx hb dX8_day_54 rfl rfl ?_
            refine kiald (f := N) hx hb hK hP 0 rfl 31 rfl (by omega) (by omega) dX8_day_55 ?_
            refine lv_iconst (v := 1) hx hb dX8_day_56 (by decide) ?_
            refine lv_iadd hx hb dX8_day_57 ?_
            refine kiast (f := N) hx hb hK hP hD hS 0 rfl 31 rfl (by omega) (by omega) dX8_day_58 ([(x, .inl (Y 0, 1497, .inl (upd N 31 ((N 31) + 1))))]) rfl (fun H locs hP hD hS => ?_)
            refine lv_goto (tgt := 66) hx hb dX8_day_59 (by decide) ?_
            refine lv_aload_n hx hb dX8_day_66 rfl (lv_at hl 2 rfl) ?_
            refine lv_iconst (v := 0) hx hb dX8_day_67 (by decide) ?_
            refine lv_dup2_11 hx hb dX8_day_68 rfl rfl ?_
            refine kiald (f := upd N 31 ((N 31) + 1)) hx hb hK hP 0 rfl 0 rfl (by omega) (by omega) dX8_day_69 ?_
            refine lv_iconst (v := 1) hx hb dX8_day_70 (by decide) ?_
            refine lv_iadd hx hb dX8_day_71 ?_
            refine kiast (f := upd N 31 ((N 31) + 1)) hx hb hK hP hD hS 0 rfl 0 rfl (by omega) (by omega) dX8_day_72 ([(x, .inl (Y 0, 1497, .inl (upd (upd N 31 ((N 31) + 1)) 0 ((upd N 31 ((N 31) + 1) 0) + 1))))]) rfl (fun H locs hP hD hS => ?_)
            exact kvret (upd (upd N 31 ((N 31) + 1)) 0 ((upd N 31 ((N 31) + 1) 0) + 1)) hQ hx hb hr hlocks hP hS dX8_day_73 (by subst hB; unfold mDay mRest; rw [if_pos (Or.inr c6)] <;> rfl)
          · refine kTop (kb_f c6) ?_
            refine lv_if_eq (tgt := 62) hx hb dX8_day_48 (by decide) (fun _ => ?_) (fun h => False.elim (by revert h; decide))
            refine lv_aload_n hx hb dX8_day_62 rfl (lv_at hl 2 rfl) ?_
            refine kc_v (krS (As := [.ref x]) (rest := []) (c_X8_mills l D Y (x) N hXN) ⟨hx, hb, hml, hown, hta⟩ (cwX8_89 hta ⟨Nat.le_of_ble_eq_true rfl, Nat.le_of_ble_eq_true rfl⟩) kX0b (fun _ _ _ => trivial) hK hNs hP hD (kJ_all) rfl hl.1 rfl (Nat.le_of_ble_eq_true rfl) dX8_day_63 ⟨Nat.le_of_ble_eq_true rfl, Nat.le_of_ble_eq_true rfl⟩) hP hD hS hA (kJ_all) (fun _ => rfl) (fun N3 H locs hw hP hD hS => ?_)
            have hN3 := hw
            have hP : va_P D vwCl ([(x, .inl (Y 0, 1497, .inl N3))]) H := hP
            have hD : va_D A ([(x, .inl (Y 0, 1497, .inl N3))]) := hD
            refine lv_aload_n hx hb dX8_day_66 rfl (lv_at hl 2 rfl) ?_
            refine lv_iconst (v := 0) hx hb dX8_day_67 (by decide) ?_
            refine lv_dup2_11 hx hb dX8_day_68 rfl rfl ?_
            refine kiald (f := N3) hx hb hK hP 0 rfl 0 rfl (by omega) (by omega) dX8_day_69 ?_
            refine lv_iconst (v := 1) hx hb dX8_day_70 (by decide) ?_
            refine lv_iadd hx hb dX8_day_71 ?_
            refine kiast (f := N3) hx hb hK hP hD hS 0 rfl 0 rfl (by omega) (by omega) dX8_day_72 ([(x, .inl (Y 0, 1497, .inl (upd N3 0 ((N3 0) + 1))))]) rfl (fun H locs hP hD hS => ?_)
            exact kvret (upd N3 0 ((N3 0) + 1)) hQ hx hb hr hlocks hP hS dX8_day_73 (by subst hN3; subst hB; unfold mDay mRest; rw [if_neg (fun h => h.elim c4 c6)] <;> rfl)
      · have c3n : ¬ (mT (mLose s)) ≤ t := fun h => c3 ((nI_leI (a := mT (mLose s)) (b := t) (by omega) (by omega)).mpr h)
        rcases hc : mNextO N with _ | f
        · have hl : lv_has ls 4 [(3, .int (nI t)), (2, .int (-6)), (0, .ref x), (1, .int (kb P))] := by rw [hc] at hl; exact hl
          refine lv_iload_n hx hb dX8_day_18 rfl (lv_at hl 1 rfl) ?_
          refine lv_bipush (v := (-6)) hx hb dX8_day_19 (by decide) ?_
          refine lv_icmp_eq (tgt := 40) hx hb dX8_day_21 (by decide) (fun _ => ?_) (fun h => absurd rfl h)
          have hB : N = mBring (mLose s) := by have e2 := mBringTo_stop (s := mLose s) (t := t) (by rw [hN]; exact hc) (mT (mLose s) - t); rw [show t + (mT (mLose s) - t) = mT (mLose s) by omega, hN] at e2; exact e2.symm
          refine lv_iload_n hx hb dX8_day_40 rfl (lv_at hl 3 rfl) ?_
          by_cases c9 : P
          · refine kTop (kb_t c9) ?_
            refine lv_if_ne (tgt := 51) hx hb dX8_day_41 (by decide) (fun _ => ?_) (fun h => False.elim (by revert h; decide))
            refine lv_aload_n hx hb dX8_day_51 rfl (lv_at hl 2 rfl) ?_
            refine lv_bipush (v := 31) hx hb dX8_day_52 (by decide) ?_
            refine lv_dup2_11 hx hb dX8_day_54 rfl rfl ?_
            refine kiald (f := N) hx hb hK hP 0 rfl 31 rfl (by omega) (by omega) dX8_day_55 ?_
            refine lv_iconst (v := 1) hx hb dX8_day_56 (by decide) ?_
            refine lv_iadd hx hb dX8_day_57 ?_
            refine kiast (f := N) hx hb hK hP hD hS 0 rfl 31 rfl (by omega) (by omega) dX8_day_58 ([(x, .inl (Y 0, 1497, .inl (upd N 31 ((N 31) + 1))))]) rfl (fun H locs hP hD hS => ?_)
            refine lv_goto (tgt := 66) hx hb dX8_day_59 (by decide) ?_
            refine lv_aload_n hx hb dX8_day_66 rfl (lv_at hl 2 rfl) ?_
            refine lv_iconst (v := 0) hx hb dX8_day_67 (by decide) ?_
            refine lv_dup2_11 hx hb dX8_day_68 rfl rfl ?_
            refine kiald (f := upd N 31 ((N 31) + 1)) hx hb hK hP 0 rfl 0 rfl (by omega) (by omega) dX8_day_69 ?_
            refine lv_iconst (v := 1) hx hb dX8_day_70 (by decide) ?_
            refine lv_iadd hx hb dX8_day_71 ?_
            refine kiast (f := upd N 31 ((N 31) + 1)) hx hb hK hP hD hS 0 rfl 0 rfl (by omega) (by omega) dX8_day_72 ([(x, .inl (Y 0, 1497, .inl (upd (upd N 31 ((N 31) + 1)) 0 ((upd N 31 ((N 31) + 1) 0) + 1))))]) rfl (fun H locs hP hD hS => ?_)
            exact kvret (upd (upd N 31 ((N 31) + 1)) 0 ((upd N 31 ((N 31) + 1) 0) + 1)) hQ hx hb hr hlocks hP hS dX8_day_73 (by subst hB; unfold mDay mRest; rw [if_pos (Or.inl c9)] <;> rfl)
          · refine kTop (kb_f c9) ?_
            refine lv_if_ne (tgt := 51) hx hb dX8_day_41 (by decide) (fun h => False.elim (by revert h; decide)) (fun _ => ?_)
            refine lv_aload_n hx hb dX8_day_44 rfl (lv_at hl 2 rfl) ?_
            refine kc_i (krS (As := [.ref x]) (rest := []) (c_X8_isStopped l D Y (x) N hXN) ⟨hx, hb, hml, hown, hta⟩ (cwX8_85 hta ⟨Nat.le_of_ble_eq_true rfl, Nat.le_of_ble_eq_true rfl⟩) kX0b (fun _ _ _ => trivial) hK hNs hP hD (kJ_all) rfl hl.1 rfl (Nat.le_of_ble_eq_true rfl) dX8_day_45 ⟨Nat.le_of_ble_eq_true rfl, Nat.le_of_ble_eq_true rfl⟩) hP hD hS hA (kJ_all) (fun _ => rfl) (fun r10 u H locs hw hP hD hS => ?_)
            subst hw
            have hP : va_P D vwCl ([(x, .inl (Y 0, 1497, .inl N))]) H := hP
            have hD : va_D A ([(x, .inl (Y 0, 1497, .inl N))]) := hD
            by_cases c11 : mStopped N = true
            · refine kTop (kb_t c11) ?_
              refine lv_if_eq (tgt := 62) hx hb dX8_day_48 (by decide) (fun h => False.elim (by revert h; decide)) (fun _ => ?_)
              refine lv_aload_n hx hb dX8_day_51 rfl (lv_at hl 2 rfl) ?_
              refine lv_bipush (v := 31) hx hb dX8_day_52 (by decide) ?_
              refine lv_dup2_11 hx hb dX8_day_54 rfl rfl ?_
              refine kiald (f := N) hx hb hK hP 0 rfl 31 rfl (by omega) (by omega) dX8_day_55 ?_
              refine lv_iconst (v := 1) hx hb dX8_day_56 (by decide) ?_
              refine lv_iadd hx hb dX8_day_57 ?_
              refine kiast (f := N) hx hb hK hP hD hS 0 rfl 31 rfl (by omega) (by omega) dX8_day_58 ([(x, .inl (Y 0, 1497, .inl (upd N 31 ((N 31) + 1))))]) rfl (fun H locs hP hD hS => ?_)
              refine lv_goto (tgt := 66) hx hb dX8_day_59 (by decide) ?_
              refine lv_aload_n hx hb dX8_day_66 rfl (lv_at hl 2 rfl) ?_
              refine lv_iconst (v := 0) hx hb dX8_day_67 (by decide) ?_
              refine lv_dup2_11 hx hb dX8_day_68 rfl rfl ?_
              refine kiald (f := upd N 31 ((N 31) + 1)) hx hb hK hP 0 rfl 0 rfl (by omega) (by omega) dX8_day_69 ?_
              refine lv_iconst (v := 1) hx hb dX8_day_70 (by decide) ?_
              refine lv_iadd hx hb dX8_day_71 ?_
              refine kiast (f := upd N 31 ((N 31) + 1)) hx hb hK hP hD hS 0 rfl 0 rfl (by omega) (by omega) dX8_day_72 ([(x, .inl (Y 0, 1497, .inl (upd (upd N 31 ((N 31) + 1)) 0 ((upd N 31 ((N 31) + 1) 0) + 1))))]) rfl (fun H locs hP hD hS => ?_)
              exact kvret (upd (upd N 31 ((N 31) + 1)) 0 ((upd N 31 ((N 31) + 1) 0) + 1)) hQ hx hb hr hlocks hP hS dX8_day_73 (by subst hB; unfold mDay mRest; rw [if_pos (Or.inr c11)] <;> rfl)
            · refine kTop (kb_f c11) ?_
              refine lv_if_eq (tgt := 62) hx hb dX8_day_48 (by decide) (fun _ => ?_) (fun h => False.elim (by revert h; decide))
              refine lv_aload_n hx hb dX8_day_62 rfl (lv_at hl 2 rfl) ?_
              refine kc_v (krS (As := [.ref x]) (rest := []) (c_X8_mills l D Y (x) N hXN) ⟨hx, hb, hml, hown, hta⟩ (cwX8_89 hta ⟨Nat.le_of_ble_eq_true rfl, Nat.le_of_ble_eq_true rfl⟩) kX0b (fun _ _ _ => trivial) hK hNs hP hD (kJ_all) rfl hl.1 rfl (Nat.le_of_ble_eq_true rfl) dX8_day_63 ⟨Nat.le_of_ble_eq_true rfl, Nat.le_of_ble_eq_true rfl⟩) hP hD hS hA (kJ_all) (fun _ => rfl) (fun N3 H locs hw hP hD hS => ?_)
              have hN3 := hw
              have hP : va_P D vwCl ([(x, .inl (Y 0, 1497, .inl N3))]) H := hP
              have hD : va_D A ([(x, .inl (Y 0, 1497, .inl N3))]) := hD
              refine lv_aload_n hx hb dX8_day_66 rfl (lv_at hl 2 rfl) ?_
              refine lv_iconst (v := 0) hx hb dX8_day_67 (by decide) ?_
              refine lv_dup2_11 hx hb dX8_day_68 rfl rfl ?_
              refine kiald (f := N3) hx hb hK hP 0 rfl 0 rfl (by omega) (by omega) dX8_day_69 ?_
              refine lv_iconst (v := 1) hx hb dX8_day_70 (by decide) ?_
              refine lv_iadd hx hb dX8_day_71 ?_
              refine kiast (f := N3) hx hb hK hP hD hS 0 rfl 0 rfl (by omega) (by omega) dX8_day_72 ([(x, .inl (Y 0, 1497, .inl (upd N3 0 ((N3 0) + 1))))]) rfl (fun H locs hP hD hS => ?_)
              exact kvret (upd N3 0 ((N3 0) + 1)) hQ hx hb hr hlocks hP hS dX8_day_73 (by subst hN3; subst hB; unfold mDay mRest; rw [if_neg (fun h => h.elim c9 c11)] <;> rfl)
        · have hl : lv_has ls 4 [(3, .int (nI t)), (2, .int (nI f)), (0, .ref x), (1, .int (kb P))] := by rw [hc] at hl; exact hl
          obtain ⟨hbX, hbQ, hb4⟩ := mBrings_I hXN hQN hc
          have hfN := (mNextO_can hc).1
          have h30N := hXN.f30
          refine lv_iload_n hx hb dX8_day_18 rfl (lv_at hl 1 rfl) ?_
          refine lv_bipush (v := (-6)) hx hb dX8_day_19 (by decide) ?_
          refine lv_icmp_eq (tgt := 40) hx hb dX8_day_21 (by decide) (fun h => absurd h (oI_ne (by omega))) (fun _ => ?_)
          refine lv_aload_n hx hb dX8_day_24 rfl (lv_at hl 2 rfl) ?_
          refine lv_iload_n hx hb dX8_day_25 rfl (lv_at hl 1 rfl) ?_
          refine kc_v (krS (As := [.ref x, .int (nI f)]) (rest := []) (c_X8_brings l D Y (x) N f hXN hfN hb4) ⟨hx, hb, hml, hown, hta⟩ (cwX8_81 hta ⟨Nat.le_of_ble_eq_true rfl, Nat.le_of_ble_eq_true rfl⟩) kX0b (fun _ _ _ => trivial) hK hNs hP hD (kJ_all) rfl hl.1 rfl (Nat.le_of_ble_eq_true rfl) dX8_day_26 ⟨Nat.le_of_ble_eq_true rfl, Nat.le_of_ble_eq_true rfl⟩) hP hD hS hA (kJ_all) (fun _ => rfl) (fun u H locs hw hP hD hS => ?_)
          subst hw
          have hP : va_P D vwCl ([(x, .inl (Y 0, 1497, .inl (mBrings N f)))]) H := hP
          have hD : va_D A ([(x, .inl (Y 0, 1497, .inl (mBrings N f)))]) := hD
          refine lv_aload_n hx hb dX8_day_29 rfl (lv_at hl 2 rfl) ?_
          refine kc_i (krS (As := [.ref x]) (rest := []) (c_X8_nextField l D Y (x) (mBrings N f) hbX) ⟨hx, hb, hml, hown, hta⟩ (cwX8_78 hta ⟨Nat.le_of_ble_eq_true rfl, Nat.le_of_ble_eq_true rfl⟩) kX0b (fun _ _ _ => trivial) hK hNs hP hD (kJ_all) rfl hl.1 rfl (Nat.le_of_ble_eq_true rfl) dX8_day_30 ⟨Nat.le_of_ble_eq_true rfl, Nat.le_of_ble_eq_true rfl⟩) hP hD hS hA (kJ_all) (fun _ => rfl) (fun r15 u H locs hw hP hD hS => ?_)
          subst hw
          have hP : va_P D vwCl ([(x, .inl (Y 0, 1497, .inl (mBrings N f)))]) H := hP
          have hD : va_D A ([(x, .inl (Y 0, 1497, .inl (mBrings N f)))]) := hD
          refine lv_istore_n (lv' := [(2, .int (oI (mNextO (mBrings N f)))), (3, .int (nI t)), (0, .ref x), (1, .int (kb P))]) hx hb dX8_day_33 rfl hl (by decide) rfl (fun ls hl => ?_)
          refine lv_iinc (v := nI (t + 1)) (lv' := [(3, .int (nI (t + 1))), (2, .int (oI (mNextO (mBrings N f)))), (0, .ref x), (1, .int (kb P))]) hx hb dX8_day_34 hl (k := 1) rfl (nI_add t 1) (by decide) rfl (fun ls hl => ?_)
          refine lv_goto (tgt := 11) hx hb dX8_day_37 (by decide) ?_
          exact ih (t + 1) (mBrings N f) (by omega) (by show mStep (mBringTo (mLose s) t) = _; rw [hN, mStep_s hc]) (by omega) _ _ hP hD hS ls (lv_sub hl [0, 1, 2, 3] rfl)
  exact loop11 ((mT (mLose s) - 0) + 1) 0 (mLose s) (Nat.lt_succ_self _) rfl (by omega) _ _ hP hD hS ls (lv_sub hl [0, 1, 2, 3] rfl)
