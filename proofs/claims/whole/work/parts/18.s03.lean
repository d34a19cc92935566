set_option maxHeartbeats 4000000 in
set_option maxRecDepth 100000 in
theorem c_X8_records (l : Launch) (D : va_G) (Y : Nat → ClassId) (b : Nat → Nat) (R : kN) (hk : R 7 0 = nI (kp R) ∧ kp R ≤ 6) : kM l yX8_records wX8_records rX8_records D Y (wR Y b R) [.ref (b 0)] kX0 (kQv D (fun u => u = mRec R) (fun u => wR Y b u)) := by
  refine kentry (cc := cX8_records) (maxL := 2) (ret := none) (by decide +kernel) rfl (Nat.le_of_ble_eq_true rfl) ?_
  intro p e s0 m args below meth c A Q ls hQ hx hb hr hlocks hml hown hin hta hA hX0 hK hNs hP hD hS hl
  have hown : s0.vm.findClass RX8 = some m.cls := hown
  have hl : lv_has ls 2 [(0, .ref (b 0))] := hl
  have hk6 := hk.2
  refine lv_aload_n hx hb dX8_records_0 rfl (lv_at hl 0 rfl) ?_
  refine gfX8_36 (v := .int (R 7 0)) hx hb hta hown hK hP 0 rfl rfl dX8_records_1 ?_
  refine kTop hk.1 ?_
  refine lv_bipush (v := 6) hx hb dX8_records_4 (by decide) ?_
  refine lv_icmp_ne (tgt := 50) hx hb dX8_records_6 (by decide) (fun c1 => ?_) (fun c1 => ?_)
  · have c1n : ¬ (kp R) = 6 := fun h => c1 ((nI_eq (a := kp R) (b := 6) (by omega) (by omega)).mpr h)
    refine lv_aload_n hx hb dX8_records_50 rfl (lv_at hl 0 rfl) ?_
    refine gfX8_7 (v := .ref (b 1)) hx hb hta hown hK hP 0 rfl rfl dX8_records_51 ?_
    refine lv_iconst (v := 0) hx hb dX8_records_54 (by decide) ?_
    refine lv_aload_n hx hb dX8_records_55 rfl (lv_at hl 0 rfl) ?_
    refine gfX8_16 (v := .ref (b 3)) hx hb hta hown hK hP 0 rfl rfl dX8_records_56 ?_
    refine lv_sipush (v := 1497) hx hb dX8_records_59 (by decide) ?_
    refine lv_aload_n hx hb dX8_records_62 rfl (lv_at hl 0 rfl) ?_
    refine gfX8_36 (v := .int (R 7 0)) hx hb hta hown hK hP 0 rfl rfl dX8_records_63 ?_
    refine kTop hk.1 ?_
    refine lv_imul hx hb dX8_records_66 ?_
    refine kTop (pk_mul 1497 (kp R)) ?_
    refine kc_v (krS (As := [.ref (b 1), .int 0, .ref (b 3), .int (nI (1497 * kp R))]) (rest := []) (c_X8_lays l D Y (b 1) 1497 (R 0) 0 (b 3) 8982 (R 2) (1497 * kp R) (by omega) (by omega) (by omega) (by omega)) ⟨hx, hb, hml, hown, hta⟩ (cwX8_40 hta ⟨Nat.le_of_ble_eq_true rfl, Nat.le_of_ble_eq_true rfl⟩) kX0b (fun _ _ _ => trivial) hK hNs hP hD (kJ_sub [1, 3] rfl rfl) rfl hl.1 rfl (Nat.le_of_ble_eq_true rfl) dX8_records_67 ⟨Nat.le_of_ble_eq_true rfl, Nat.le_of_ble_eq_true rfl⟩) hP hD hS hA (kJ_sub [1, 3] rfl rfl) (fun _ => rfl) (fun u H locs hw hP hD hS => ?_)
    have hP : va_P D vwCl (wR Y b (sR R 2 (kcy (R 0) (R 2) 0 (1497 * kp R) 1497))) H := hP
    have hD : va_D A (wR Y b (sR R 2 (kcy (R 0) (R 2) 0 (1497 * kp R) 1497))) := hD
    refine lv_aload_n hx hb dX8_records_70 rfl (lv_at hl 0 rfl) ?_
    refine lv_dup hx hb dX8_records_71 rfl ?_
    refine gfX8_36 (v := .int (R 7 0)) hx hb hta hown hK hP 0 rfl rfl dX8_records_72 ?_
    refine kTop hk.1 ?_
    refine lv_iconst (v := 1) hx hb dX8_records_75 (by decide) ?_
    refine lv_iadd hx hb dX8_records_76 ?_
    refine kTop (nI_add (kp R) 1) ?_
    refine pfX8_36 (ws1 := wR Y b (sM (sR R 2 (kcy (R 0) (R 2) 0 (1497 * kp R) 1497)) 7 0 (nI (kp R + 1)))) hx hb hta hown hK hP hD hS 0 rfl (Nat.le_of_ble_eq_true rfl) rfl dX8_records_77 (fun H locs hP hD hS => ?_)
    exact kvret (sM (sR R 2 (kcy (R 0) (R 2) 0 (1497 * kp R) 1497)) 7 0 (nI (kp R + 1))) hQ hx hb hr hlocks hP hS dX8_records_80 (by unfold mRec; rw [if_neg c1n] <;> rfl)
  · have c1n : (kp R) = 6 := (nI_eq (a := kp R) (b := 6) (by omega) (by omega)).mp c1
    refine lv_iconst (v := 0) hx hb dX8_records_9 (by decide) ?_
    refine lv_istore_n (lv' := [(1, .int 0), (0, .ref (b 0))]) hx hb dX8_records_10 rfl hl (by decide) rfl (fun ls hl => ?_)
    have loop11 : ∀ (n : Nat) (k : Nat) (P : kS), 7485 - k < n → mShP (R 2) k = P → k ≤ 7485 → ∀ (H : Heap) (locs : List Loc), va_P D vwCl (wR Y b (sR R 2 P)) H → va_D A (wR Y b (sR R 2 P)) → va_S A s0.heap H locs → ∀ (ls : Array Slot), lv_has ls 2 [(1, .int (nI k)), (0, .ref (b 0))] → W p l e rX8_records s0 m args below meth c H locs 0 0 Q (F0 m 11 ls []) := by
      intro n
      induction n with
      | zero => intro k P hmu; exact absurd hmu (Nat.not_lt_zero _)
      | succ n ih =>
        intro k P hmu hP0 hk0 H locs hP hD hS ls hl
        refine lv_iload_n hx hb dX8_records_11 rfl (lv_at hl 0 rfl) ?_
        refine lv_sipush (v := 7485) hx hb dX8_records_12 (by decide) ?_
        refine lv_icmp_ge (tgt := 40) hx hb dX8_records_15 (by decide) (fun c3 => ?_) (fun c3 => ?_)
        · have c3n : 7485 ≤ k := (nI_leI (a := 7485) (b := k) (by omega) (by omega)).mp c3
          refine lv_aload_n hx hb dX8_records_40 rfl (lv_at hl 1 rfl) ?_
          refine lv_dup hx hb dX8_records_41 rfl ?_
          refine gfX8_36 (v := .int (R 7 0)) hx hb hta hown hK hP 0 rfl rfl dX8_records_42 ?_
          refine kTop hk.1 ?_
          refine lv_iconst (v := 1) hx hb dX8_records_45 (by decide) ?_
          refine lv_isub hx hb dX8_records_46 ?_
          refine kTop (pk_sub (a := kp R) (b := 1) (by omega)) ?_
          refine pfX8_36 (ws1 := wR Y b (sM (sR R 2 P) 7 0 (nI ((kp R) - 1)))) hx hb hta hown hK hP hD hS 0 rfl (Nat.le_of_ble_eq_true rfl) rfl dX8_records_47 (fun H locs hP hD hS => ?_)
          refine lv_aload_n hx hb dX8_records_50 rfl (lv_at hl 1 rfl) ?_
          refine gfX8_7 (v := .ref (b 1)) hx hb hta hown hK hP 0 rfl rfl dX8_records_51 ?_
          refine lv_iconst (v := 0) hx hb dX8_records_54 (by decide) ?_
          refine lv_aload_n hx hb dX8_records_55 rfl (lv_at hl 1 rfl) ?_
          refine gfX8_16 (v := .ref (b 3)) hx hb hta hown hK hP 0 rfl rfl dX8_records_56 ?_
          refine lv_sipush (v := 1497) hx hb dX8_records_59 (by decide) ?_
          refine lv_aload_n hx hb dX8_records_62 rfl (lv_at hl 1 rfl) ?_
          refine gfX8_36 (v := .int (nI ((kp R) - 1))) hx hb hta hown hK hP 0 rfl rfl dX8_records_63 ?_
          refine lv_imul hx hb dX8_records_66 ?_
          refine kTop (pk_mul 1497 ((kp R) - 1)) ?_
          refine kc_v (krS (As := [.ref (b 1), .int 0, .ref (b 3), .int (nI (1497 * ((kp R) - 1)))]) (rest := []) (c_X8_lays l D Y (b 1) 1497 (R 0) 0 (b 3) 8982 (P) (1497 * ((kp R) - 1)) (by omega) (by omega) (by omega) (by omega)) ⟨hx, hb, hml, hown, hta⟩ (cwX8_40 hta ⟨Nat.le_of_ble_eq_true rfl, Nat.le_of_ble_eq_true rfl⟩) kX0b (fun _ _ _ => trivial) hK hNs hP hD (kJ_sub [1, 3] rfl rfl) rfl hl.1 rfl (Nat.le_of_ble_eq_true rfl) dX8_records_67 ⟨Nat.le_of_ble_eq_true rfl, Nat.le_of_ble_eq_true rfl⟩) hP hD hS hA (kJ_sub [1, 3] rfl rfl) (fun _ => rfl) (fun u H locs hw hP hD hS => ?_)
          have hP : va_P D vwCl (wR Y b (sR (sM (sR R 2 P) 7 0 (nI ((kp R) - 1))) 2 (kcy (R 0) (P) 0 (1497 * ((kp R) - 1)) 1497))) H := hP
          have hD : va_D A (wR Y b (sR (sM (sR R 2 P) 7 0 (nI ((kp R) - 1))) 2 (kcy (R 0) (P) 0 (1497 * ((kp R) - 1)) 1497))) := hD
          refine lv_aload_n hx hb dX8_records_70 rfl (lv_at hl 1 rfl) ?_
          refine lv_dup hx hb dX8_records_71 rfl ?_
          refine gfX8_36 (v := .int (nI ((kp R) - 1))) hx hb hta hown hK hP 0 rfl rfl dX8_records_72 ?_
          refine lv_iconst (v := 1) hx hb dX8_records_75 (by decide) ?_
          refine lv_iadd hx hb dX8_records_76 ?_
          refine kTop (nI_add ((kp R) - 1) 1) ?_
          refine pfX8_36 (ws1 := wR Y b (sM (sR (sM (sR R 2 P) 7 0 (nI ((kp R) - 1))) 2 (kcy (R 0) (P) 0 (1497 * ((kp R) - 1)) 1497)) 7 0 (nI ((kp R) - 1 + 1)))) hx hb hta hown hK hP hD hS 0 rfl (Nat.le_of_ble_eq_true rfl) rfl dX8_records_77 (fun H locs hP hD hS => ?_)
          exact kvret (sM (sR (sM (sR R 2 P) 7 0 (nI ((kp R) - 1))) 2 (kcy (R 0) (P) 0 (1497 * ((kp R) - 1)) 1497)) 7 0 (nI ((kp R) - 1 + 1))) hQ hx hb hr hlocks hP hS dX8_records_80 (by have hk2 : k = 7485 := (by omega); subst hk2; subst hP0; unfold mRec; rw [if_pos c1n] <;> rfl)
        · have c3n : ¬ 7485 ≤ k := fun h => c3 ((nI_leI (a := 7485) (b := k) (by omega) (by omega)).mpr h)
          refine lv_aload_n hx hb dX8_records_18 rfl (lv_at hl 1 rfl) ?_
          refine gfX8_16 (v := .ref (b 3)) hx hb hta hown hK hP 0 rfl rfl dX8_records_19 ?_
          refine lv_iload_n hx hb dX8_records_22 rfl (lv_at hl 0 rfl) ?_
          refine lv_aload_n hx hb dX8_records_23 rfl (lv_at hl 1 rfl) ?_
          refine gfX8_16 (v := .ref (b 3)) hx hb hta hown hK hP 0 rfl rfl dX8_records_24 ?_
          refine lv_iload_n hx hb dX8_records_27 rfl (lv_at hl 0 rfl) ?_
          refine lv_sipush (v := 1497) hx hb dX8_records_28 (by decide) ?_
          refine lv_iadd hx hb dX8_records_31 ?_
          refine kTop (nI_add k 1497) ?_
          refine kiald (f := P) hx hb hK hP 3 rfl (k + 1497) rfl (by omega) (by omega) dX8_records_32 ?_
          refine kiast (f := P) hx hb hK hP hD hS 3 rfl k rfl (by omega) (by omega) dX8_records_33 (wR Y b (sM (sR R 2 P) 2 k (P (k + 1497)))) rfl (fun H locs hP hD hS => ?_)
          refine lv_iinc (v := nI (k + 1)) (lv' := [(1, .int (nI (k + 1))), (0, .ref (b 0))]) hx hb dX8_records_34 hl (k := 0) rfl (nI_add k 1) (by decide) rfl (fun ls hl => ?_)
          refine lv_goto (tgt := 11) hx hb dX8_records_37 (by decide) ?_
          exact ih (k + 1) (upd (P) k (P (k + 1497))) (by omega) (by rw [← hP0]; rfl) (by omega) _ _ hP hD hS ls (lv_sub hl [0, 1] rfl)
    exact loop11 ((7485 - 0) + 1) 0 (R 2) (Nat.lt_succ_self _) rfl (by omega) _ _ hP hD hS ls (lv_sub hl [0, 1] rfl)
