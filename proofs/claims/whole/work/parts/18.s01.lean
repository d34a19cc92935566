set_option maxHeartbeats 4000000 in
set_option maxRecDepth 100000 in
theorem c_X8_days (l : Launch) (D : va_G) (Y : Nat → ClassId) (x : Nat) (s : kS) (mn : Nat) (idle : Int32) (hZ : mX s) (hQ0 : mQ s) (hmn : mn < 2 ^ 31) : kM l yX8_days wX8_days rX8_days D Y ([(x, .inl (Y 0, 1497, .inl s))]) [.ref x, .int (nI mn), .int idle] kX0 (kQv D (fun u => u = mDays s idle mn) (fun u => [(x, .inl (Y 0, 1497, .inl (u)))])) := by
  refine kentry (cc := cX8_days) (maxL := 4) (ret := none) (by decide +kernel) rfl (Nat.le_of_ble_eq_true rfl) ?_
  intro p e s0 m args below meth c A Q ls hQ hx hb hr hlocks hml hown hin hta hA hX0 hK hNs hP hD hS hl
  have hown : s0.vm.findClass RX8 = some m.cls := hown
  have hl : lv_has ls 4 [(0, .ref x), (1, .int (nI mn)), (2, .int idle)] := hl
  refine lv_iconst (v := 0) hx hb dX8_days_0 (by decide) ?_
  refine lv_istore_n (lv' := [(3, .int 0), (0, .ref x), (1, .int (nI mn)), (2, .int idle)]) hx hb dX8_days_1 rfl hl (by decide) rfl (fun ls hl => ?_)
  have loop2 : ∀ (n : Nat) (k : Nat) (N : kS), mn - k < n → mDays s idle k = N → k ≤ mn → ∀ (H : Heap) (locs : List Loc), va_P D vwCl ([(x, .inl (Y 0, 1497, .inl N))]) H → va_D A ([(x, .inl (Y 0, 1497, .inl N))]) → va_S A s0.heap H locs → ∀ (ls : Array Slot), lv_has ls 4 [(3, .int (nI k)), (0, .ref x), (1, .int (nI mn)), (2, .int idle)] → W p l e rX8_days s0 m args below meth c H locs 0 0 Q (F0 m 2 ls []) := by
    intro n
    induction n with
    | zero => intro k N hmu; exact absurd hmu (Nat.not_lt_zero _)
    | succ n ih =>
      intro k N hmu hN hk H locs hP hD hS ls hl
      obtain ⟨hXN, hQN⟩ : mX N ∧ mQ N := hN ▸ mDays_I hZ hQ0 idle k
      refine lv_iload_n hx hb dX8_days_2 rfl (lv_at hl 0 rfl) ?_
      refine lv_iload_n hx hb dX8_days_3 rfl (lv_at hl 2 rfl) ?_
      refine lv_icmp_ge (tgt := 27) hx hb dX8_days_4 (by decide) (fun c1 => ?_) (fun c1 => ?_)
      · have c1n : mn ≤ k := (nI_leI (a := mn) (b := k) (by omega) (by omega)).mp c1
        exact kvret (N) hQ hx hb hr hlocks hP hS dX8_days_27 (by have hk2 : k = mn := (by omega); subst hk2; exact hN.symm)
      · have c1n : ¬ mn ≤ k := fun h => c1 ((nI_leI (a := mn) (b := k) (by omega) (by omega)).mpr h)
        refine lv_aload_n hx hb dX8_days_7 rfl (lv_at hl 1 rfl) ?_
        refine lv_iload_n hx hb dX8_days_8 rfl (lv_at hl 0 rfl) ?_
        refine lv_iload_n hx hb dX8_days_9 rfl (lv_at hl 3 rfl) ?_
        refine lv_icmp_ge (tgt := 17) hx hb dX8_days_10 (by decide) (fun c2 => ?_) (fun c2 => ?_)
        · refine lv_iconst (v := 0) hx hb dX8_days_17 (by decide) ?_
          refine kTop (y := kb (nI k < idle)) (kb_f (Int32.not_lt.mpr c2)).symm ?_
          refine kc_v (krS (As := [.ref x, .int (kb (nI k < idle))]) (rest := []) (c_X8_day l D Y (x) N (nI k < idle) hXN hQN) ⟨hx, hb, hml, hown, hta⟩ (cwX8_92 hta ⟨Nat.le_of_ble_eq_true rfl, Nat.le_of_ble_eq_true rfl⟩) kX0b (fun _ _ _ => trivial) hK hNs hP hD (kJ_all) rfl hl.1 rfl (Nat.le_of_ble_eq_true rfl) dX8_days_18 ⟨Nat.le_of_ble_eq_true rfl, Nat.le_of_ble_eq_true rfl⟩) hP hD hS hA (kJ_all) (fun _ => rfl) (fun u H locs hw hP hD hS => ?_)
          subst hw
          have hP : va_P D vwCl ([(x, .inl (Y 0, 1497, .inl (mDay N (nI k < idle))))]) H := hP
          have hD : va_D A ([(x, .inl (Y 0, 1497, .inl (mDay N (nI k < idle))))]) := hD
          refine lv_iinc (v := nI (k + 1)) (lv' := [(3, .int (nI (k + 1))), (0, .ref x), (1, .int (nI mn)), (2, .int idle)]) hx hb dX8_days_21 hl (k := 0) rfl (nI_add k 1) (by decide) rfl (fun ls hl => ?_)
          refine lv_goto (tgt := 2) hx hb dX8_days_24 (by decide) ?_
          exact ih (k + 1) (mDay N (nI k < idle)) (by omega) (by rw [← hN]; rfl) (by omega) _ _ hP hD hS ls (lv_sub hl [0, 1, 2, 3] rfl)
        · refine lv_iconst (v := 1) hx hb dX8_days_13 (by decide) ?_
          refine lv_goto (tgt := 18) hx hb dX8_days_14 (by decide) ?_
          refine kTop (y := kb (nI k < idle)) (kb_t (Int32.not_le.mp c2)).symm ?_
          refine kc_v (krS (As := [.ref x, .int (kb (nI k < idle))]) (rest := []) (c_X8_day l D Y (x) N (nI k < idle) hXN hQN) ⟨hx, hb, hml, hown, hta⟩ (cwX8_92 hta ⟨Nat.le_of_ble_eq_true rfl, Nat.le_of_ble_eq_true rfl⟩) kX0b (fun _ _ _ => trivial) hK hNs hP hD (kJ_all) rfl hl.1 rfl (Nat.le_of_ble_eq_true rfl) dX8_days_18 ⟨Nat.le_of_ble_eq_true rfl, Nat.le_of_ble_eq_true rfl⟩) hP hD hS hA (kJ_all) (fun _ => rfl) (fun u H locs hw hP hD hS => ?_)
          subst hw
          have hP : va_P D vwCl ([(x, .inl (Y 0, 1497, .inl (mDay N (nI k < idle))))]) H := hP
          have hD : va_D A ([(x, .inl (Y 0, 1497, .inl (mDay N (nI k < idle))))]) := hD
          refine lv_iinc (v := nI (k + 1)) (lv' := [(3, .int (nI (k + 1))), (0, .ref x), (1, .int (nI mn)), (2, .int idle)]) hx hb dX8_days_21 hl (k := 0) rfl (nI_add k 1) (by decide) rfl (fun ls hl => ?_)
          refine lv_goto (tgt := 2) hx hb dX8_days_24 (by decide) ?_
          exact ih (k + 1) (mDay N (nI k < idle)) (by omega) (by rw [← hN]; rfl) (by omega) _ _ hP hD hS ls (lv_sub hl [0, 1, 2, 3] rfl)
  exact loop2 ((mn - 0) + 1) 0 s (Nat.lt_succ_self _) rfl (by omega) _ _ hP hD hS ls (lv_sub hl [0, 1, 2, 3] rfl)
