set_option maxHeartbeats 4000000 in
set_option maxRecDepth 100000 in
theorem c_X8_dropStop (l : Launch) (D : va_G) (Y : Nat → ClassId) (b : Nat → Nat) (R : kN) (k0 : Int32) (hZ : mX (R 0)) (hk : R 7 0 = nI (kp R) ∧ kp R ≤ 6) : kM l yX8_dropStop wX8_dropStop rX8_dropStop D Y (wR Y b R) [.ref (b 0), .int k0] kX0 (kQi D (fun r u => r = (mDropStop R k0).1 ∧ u = (mDropStop R k0).2) (fun u => wR Y b u)) := by
  refine kentry (cc := cX8_dropStop) (maxL := 3) (ret := (some .int)) (by decide +kernel) rfl (Nat.le_of_ble_eq_true rfl) ?_
  intro p e s0 m args below meth c A Q ls hQ hx hb hr hlocks hml hown hin hta hA hX0 hK hNs hP hD hS hl
  have hown : s0.vm.findClass RX8 = some m.cls := hown
  have hl : lv_has ls 3 [(0, .ref (b 0)), (1, .int k0)] := hl
  have hS5 := hZ.s5
  refine lv_iload_n hx hb dX8_dropStop_0 rfl (lv_at hl 1 rfl) ?_
  refine lv_iconst (v := 0) hx hb dX8_dropStop_1 (by decide) ?_
  refine lv_aload_n hx hb dX8_dropStop_2 rfl (lv_at hl 0 rfl) ?_
  refine gfX8_7 (v := .ref (b 1)) hx hb hta hown hK hP 0 rfl rfl dX8_dropStop_3 ?_
  refine lv_iconst (v := 2) hx hb dX8_dropStop_6 (by decide) ?_
  refine kiald (f := R 0) hx hb hK hP 1 rfl 2 rfl (by omega) (by omega) dX8_dropStop_7 ?_
  refine kTop hZ.s ?_
  refine lv_iconst (v := 1) hx hb dX8_dropStop_8 (by decide) ?_
  refine lv_isub hx hb dX8_dropStop_9 ?_
  refine kc_i (krS (As := [.int k0, .int 0, .int ((nI (mS (R 0))) - 1)]) (rest := []) (c_X8_in l D Y k0 0 ((nI (mS (R 0))) - 1)) ⟨hx, hb, hml, hown, hta⟩ (cwX8_32 hta ⟨Nat.le_of_ble_eq_true rfl, Nat.le_of_ble_eq_true rfl⟩) kX0b (fun _ _ _ => trivial) hK hNs hP hD (kJ_nil) rfl hl.1 rfl (Nat.le_of_ble_eq_true rfl) dX8_dropStop_10 ⟨Nat.le_of_ble_eq_true rfl, Nat.le_of_ble_eq_true rfl⟩) hP hD hS hA (kJ_nil) (fun _ => rfl) (fun r1 u H locs hw hP hD hS => ?_)
  subst hw
  have hP : va_P D vwCl (wR Y b R) H := hP
  have hD : va_D A (wR Y b R) := hD
  by_cases c2 : pIn k0 0 ((nI (mS (R 0))) - 1)
  · refine kTop (kb_t c2) ?_
    refine lv_if_ne (tgt := 18) hx hb dX8_dropStop_13 (by decide) (fun _ => ?_) (fun h => False.elim (by revert h; decide))
    obtain ⟨k, rfl, hk0⟩ := pIn_lt (by omega) c2
    refine lv_aload_n hx hb dX8_dropStop_18 rfl (lv_at hl 0 rfl) ?_
    refine kc_v (krV (As := []) (rest := []) (c_X8_records l D Y b R hk) ⟨hx, hb, hml, hown, hta⟩ (cwX8_44 hta ⟨Nat.le_of_ble_eq_true rfl, Nat.le_of_ble_eq_true rfl⟩) kX0b (fun _ _ _ => trivial) hK hNs hP hD (kJ_all) (q0 := 0) rfl rfl rfl rfl hl.1 rfl (Nat.le_of_ble_eq_true rfl) dX8_dropStop_19 ⟨Nat.le_of_ble_eq_true rfl, Nat.le_of_ble_eq_true rfl⟩) hP hD hS hA (kJ_all) (fun _ => rfl) (fun N1 H locs hw hP hD hS => ?_)
    have hN1 := hw
    have hP : va_P D vwCl (wR Y b N1) H := hP
    have hD : va_D A (wR Y b N1) := hD
    have e0 : N1 0 = R 0 := by rw [hN1]; exact mRec_o R (by decide) (by decide)
    have hP : va_P D vwCl (wR Y b (sR N1 0 (R 0))) H := by rw [row0 e0]; exact hP
    have hD : va_D A (wR Y b (sR N1 0 (R 0))) := by rw [row0 e0]; exact hD
    refine lv_aload_n hx hb dX8_dropStop_22 rfl (lv_at hl 0 rfl) ?_
    refine gfX8_7 (v := .ref (b 1)) hx hb hta hown hK hP 0 rfl rfl dX8_dropStop_23 ?_
    refine lv_iconst (v := 2) hx hb dX8_dropStop_26 (by decide) ?_
    refine lv_dup2_11 hx hb dX8_dropStop_27 rfl rfl ?_
    refine kiald (f := R 0) hx hb hK hP 1 rfl 2 rfl (by omega) (by omega) dX8_dropStop_28 ?_
    refine kTop hZ.s ?_
    refine lv_iconst (v := 1) hx hb dX8_dropStop_29 (by decide) ?_
    refine lv_isub hx hb dX8_dropStop_30 ?_
    refine kTop (pk_sub (a := mS (R 0)) (b := 1) (by omega)) ?_
    refine kiast (f := R 0) hx hb hK hP hD hS 1 rfl 2 rfl (by omega) (by omega) dX8_dropStop_31 (wR Y b (sR N1 0 (upd (R 0) 2 (nI ((mS (R 0)) - 1))))) rfl (fun H locs hP hD hS => ?_)
    refine lv_bipush (v := 16) hx hb dX8_dropStop_32 (by decide) ?_
    refine lv_iconst (v := 2) hx hb dX8_dropStop_34 (by decide) ?_
    refine lv_iload_n hx hb dX8_dropStop_35 rfl (lv_at hl 1 rfl) ?_
    refine lv_imul hx hb dX8_dropStop_36 ?_
    refine kTop (pk_mul 2 k) ?_
    refine lv_iadd hx hb dX8_dropStop_37 ?_
    refine kTop (nI_add 16 (2 * k)) ?_
    refine lv_istore_n (lv' := [(2, .int (nI (16 + 2 * k))), (0, .ref (b 0)), (1, .int (nI k))]) hx hb dX8_dropStop_38 rfl hl (by decide) rfl (fun ls hl => ?_)
    have loop39 : ∀ (n : Nat) (q : Nat) (N : kS), 2 * (mS (R 0) - 1 - k) - q < n → mDropTo (upd (R 0) 2 (nI (mS (R 0) - 1))) (16 + 2 * k) q = N → q ≤ 2 * (mS (R 0) - 1 - k) → ∀ (H : Heap) (locs : List Loc), va_P D vwCl (wR Y b (sR N1 0 (N))) H → va_D A (wR Y b (sR N1 0 (N))) → va_S A s0.heap H locs → ∀ (ls : Array Slot), lv_has ls 3 [(2, .int (nI (16 + 2 * k + q))), (0, .ref (b 0)), (1, .int (nI k))] → W p l e rX8_dropStop s0 m args below meth c H locs 0 0 Q (F0 m 39 ls []) := by
      intro n
      induction n with
      | zero => intro q N hmu; exact absurd hmu (Nat.not_lt_zero _)
      | succ n ih =>
        intro q N hmu hN hq H locs hP hD hS ls hl
        have h2 : N 2 = nI (mS (R 0) - 1) := by rw [← hN, mDropTo_at, if_neg (by omega), upd_s]
        refine lv_iload_n hx hb dX8_dropStop_39 rfl (lv_at hl 0 rfl) ?_
        refine lv_bipush (v := 16) hx hb dX8_dropStop_40 (by decide) ?_
        refine lv_iconst (v := 2) hx hb dX8_dropStop_42 (by decide) ?_
        refine lv_aload_n hx hb dX8_dropStop_43 rfl (lv_at hl 1 rfl) ?_
        refine gfX8_7 (v := .ref (b 1)) hx hb hta hown hK hP 0 rfl rfl dX8_dropStop_44 ?_
        refine lv_iconst (v := 2) hx hb dX8_dropStop_47 (by decide) ?_
        refine kiald (f := N) hx hb hK hP 1 rfl 2 rfl (by omega) (by omega) dX8_dropStop_48 ?_
        refine kTop h2 ?_
        refine lv_imul hx hb dX8_dropStop_49 ?_
        refine kTop (pk_mul 2 (mS (R 0) - 1)) ?_
        refine lv_iadd hx hb dX8_dropStop_50 ?_
        refine kTop (nI_add 16 (2 * (mS (R 0) - 1))) ?_
        refine lv_icmp_ge (tgt := 74) hx hb dX8_dropStop_51 (by decide) (fun c4 => ?_) (fun c4 => ?_)
        · have c4n : (16 + 2 * (mS (R 0) - 1)) ≤ (16 + 2 * k + q) := (nI_leI (a := 16 + 2 * (mS (R 0) - 1)) (b := 16 + 2 * k + q) (by omega) (by omega)).mp c4
          refine lv_aload_n hx hb dX8_dropStop_74 rfl (lv_at hl 1 rfl) ?_
          refine gfX8_7 (v := .ref (b 1)) hx hb hta hown hK hP 0 rfl rfl dX8_dropStop_75 ?_
          refine lv_iconst (v := 2) hx hb dX8_dropStop_78 (by decide) ?_
          refine kiald (f := N) hx hb hK hP 1 rfl 2 rfl (by omega) (by omega) dX8_dropStop_79 ?_
          refine kTop h2 ?_
          exact kiret (sR N1 0 (N)) hQ hx hb hr hlocks hP hS dX8_dropStop_80 (by have hq2 : q = 2 * (mS (R 0) - 1 - k) := (by omega); subst hq2; subst hN1; unfold mDropStop mDropRow; rw [hZ.s, if_pos c2, nI_clamp (by omega), hN]; exact ⟨rfl, rfl⟩)
        · have c4n : ¬ (16 + 2 * (mS (R 0) - 1)) ≤ (16 + 2 * k + q) := fun h => c4 ((nI_leI (a := 16 + 2 * (mS (R 0) - 1)) (b := 16 + 2 * k + q) (by omega) (by omega)).mpr h)
          refine lv_aload_n hx hb dX8_dropStop_54 rfl (lv_at hl 1 rfl) ?_
          refine gfX8_7 (v := .ref (b 1)) hx hb hta hown hK hP 0 rfl rfl dX8_dropStop_55 ?_
          refine lv_iload_n hx hb dX8_dropStop_58 rfl (lv_at hl 0 rfl) ?_
          refine lv_aload_n hx hb dX8_dropStop_59 rfl (lv_at hl 1 rfl) ?_
          refine gfX8_7 (v := .ref (b 1)) hx hb hta hown hK hP 0 rfl rfl dX8_dropStop_60 ?_
          refine lv_iload_n hx hb dX8_dropStop_63 rfl (lv_at hl 0 rfl) ?_
          refine lv_iconst (v := 2) hx hb dX8_dropStop_64 (by decide) ?_
          refine lv_iadd hx hb dX8_dropStop_65 ?_
          refine kTop (nI_add (16 + 2 * k + q) 2) ?_
          refine kiald (f := N) hx hb hK hP 1 rfl (16 + 2 * k + q + 2) rfl (by omega) (by omega) dX8_dropStop_66 ?_
          refine kiast (f := N) hx hb hK hP hD hS 1 rfl (16 + 2 * k + q) rfl (by omega) (by omega) dX8_dropStop_67 (wR Y b (sR N1 0 (upd (N) (16 + 2 * k + q) (N (16 + 2 * k + q + 2))))) rfl (fun H locs hP hD hS => ?_)
          refine lv_iinc (v := nI (16 + 2 * k + q + 1)) (lv' := [(2, .int (nI (16 + 2 * k + q + 1))), (0, .ref (b 0)), (1, .int (nI k))]) hx hb dX8_dropStop_68 hl (k := 0) rfl (nI_add (16 + 2 * k + q) 1) (by decide) rfl (fun ls hl => ?_)
          refine lv_goto (tgt := 39) hx hb dX8_dropStop_71 (by decide) ?_
          exact ih (q + 1) (upd (N) (16 + 2 * k + q) (N (16 + 2 * k + q + 2))) (by omega) (by rw [← hN]; rfl) (by omega) _ _ hP hD hS ls (lv_sub hl [0, 1, 2] rfl)
    exact loop39 ((2 * (mS (R 0) - 1 - k) - 0) + 1) 0 (upd (R 0) 2 (nI ((mS (R 0)) - 1))) (Nat.lt_succ_self _) rfl (by omega) _ _ hP hD hS ls (lv_sub hl [0, 1, 2] rfl)
  · refine kTop (kb_f c2) ?_
    refine lv_if_ne (tgt := 18) hx hb dX8_dropStop_13 (by decide) (fun h => False.elim (by revert h; decide)) (fun _ => ?_)
    refine lv_iconst (v := (-1)) hx hb dX8_dropStop_16 (by decide) ?_
    exact kiret (R) hQ hx hb hr hlocks hP hS dX8_dropStop_17 (by unfold mDropStop; rw [hZ.s, if_neg c2]; exact ⟨rfl, rfl⟩)
