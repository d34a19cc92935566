set_option maxHeartbeats 4000000 in
set_option maxRecDepth 100000 in
theorem c_X4_append (l : Launch) (D : va_G) (Y : Nat → ClassId) (d : Nat → Nat) (P : Nat → Int32) (n a : Nat) (kd : Int32) (V : Nat → Int32) (vc : Nat) (w : Int64) (h80 : n ≤ 80) : kM l yX4_append wX4_append rX4_append D Y (wP Y d P n a kd V vc) [.ref (d 0), .long w] kX0 (kQi D (fun r u => r = (cApp P n w).1 ∧ u = (cApp P n w).2) (fun u => wP Y d u.1 u.2 a kd V vc)) := by
  refine kentry (cc := cX4_append) (maxL := 5) (ret := (some .int)) (by decide +kernel) rfl (Nat.le_of_ble_eq_true rfl) ?_
  intro p e s0 m args below meth c A Q ls hQ hx hb hr hlocks hml hown hin hta hA hX0 hK hNs hP hD hS hl
  have hown : s0.vm.findClass RX4 = some m.cls := hown
  have hl : lv_has ls 5 [(0, .ref (d 0)), (1, .long w)] := hl
  refine lv_lload_n hx hb dX4_append_0 rfl (lv_at hl 1 rfl) ?_
  refine kc_i (krS (As := [.long w]) (rest := []) (c_X4_countSigns l D Y w) ⟨hx, hb, hml, hown, hta⟩ (cwX4_19 hta ⟨Nat.le_of_ble_eq_true rfl, Nat.le_of_ble_eq_true rfl⟩) kX0b (fun _ _ _ => trivial) hK hNs hP hD (kJ_nil) rfl hl.1 rfl (Nat.le_of_ble_eq_true rfl) dX4_append_1 ⟨Nat.le_of_ble_eq_true rfl, Nat.le_of_ble_eq_true rfl⟩) hP hD hS hA (kJ_nil) (fun _ => rfl) (fun r1 u H locs hw hP hD hS => ?_)
  subst hw
  have hP : va_P D vwCl (wP Y d P n a kd V vc) H := hP
  have hD : va_D A (wP Y d P n a kd V vc) := hD
  refine lv_istore_n (lv' := [(3, .int (cCount w)), (0, .ref (d 0)), (1, .long w)]) hx hb dX4_append_4 rfl hl (by decide) rfl (fun ls hl => ?_)
  refine lv_iload_n hx hb dX4_append_5 rfl (lv_at hl 0 rfl) ?_
  refine lv_if_ne (tgt := 12) hx hb dX4_append_6 (by decide) (fun c2 => ?_) (fun c2 => ?_)
  · obtain ⟨m1, hm, hm1, hm8⟩ := cCount_b c2
    rw [hm] at hl
    refine lv_aload_n hx hb dX4_append_12 rfl (lv_at hl 1 rfl) ?_
    refine gfX4_23 (v := .int (nI n)) hx hb hta hown hK hP 0 rfl rfl dX4_append_13 ?_
    refine lv_iload_n hx hb dX4_append_16 rfl (lv_at hl 0 rfl) ?_
    refine lv_iadd hx hb dX4_append_17 ?_
    refine kTop (nI_add n m1) ?_
    refine lv_bipush (v := 80) hx hb dX4_append_18 (by decide) ?_
    refine lv_icmp_le (tgt := 26) hx hb dX4_append_20 (by decide) (fun c3 => ?_) (fun c3 => ?_)
    · have c3n : (n + m1) ≤ 80 := (nI_leI (a := n + m1) (b := 80) (by omega) (by omega)).mp c3
      refine lv_iconst (v := 0) hx hb dX4_append_26 (by decide) ?_
      refine lv_istore (lv' := [(4, .int 0), (3, .int (nI m1)), (0, .ref (d 0)), (1, .long w)]) hx hb dX4_append_27 hl (by decide) rfl (fun ls hl => ?_)
      have loop29 : ∀ (zf : Nat) (i : Nat) (P2 : Nat → Int32), m1 - i < zf → cApP P n w m1 i = P2 → i ≤ m1 → ∀ (H : Heap) (locs : List Loc), va_P D vwCl (wP Y d P2 n a kd V vc) H → va_D A (wP Y d P2 n a kd V vc) → va_S A s0.heap H locs → ∀ (ls : Array Slot), lv_has ls 5 [(4, .int (nI i)), (0, .ref (d 0)), (1, .long w), (3, .int (nI m1))] → W p l e rX4_append s0 m args below meth c H locs 0 0 Q (F0 m 29 ls []) := by
        intro zf
        induction zf with
        | zero => intro i P2 hmu; exact absurd hmu (Nat.not_lt_zero _)
        | succ zf ih =>
          intro i P2 hmu hr0 hi H locs hP hD hS ls hl
          refine lv_iload hx hb dX4_append_29 (lv_at hl 0 rfl) ?_
          refine lv_iload_n hx hb dX4_append_31 rfl (lv_at hl 3 rfl) ?_
          refine lv_icmp_ge (tgt := 70) hx hb dX4_append_32 (by decide) (fun c4 => ?_) (fun c4 => ?_)
          · have c4n : m1 ≤ i := (nI_leI (a := m1) (b := i) (by omega) (by omega)).mp c4
            refine lv_aload_n hx hb dX4_append_70 rfl (lv_at hl 1 rfl) ?_
            refine lv_dup hx hb dX4_append_71 rfl ?_
            refine gfX4_23 (v := .int (nI n)) hx hb hta hown hK hP 0 rfl rfl dX4_append_72 ?_
            refine lv_iload_n hx hb dX4_append_75 rfl (lv_at hl 3 rfl) ?_
            refine lv_iadd hx hb dX4_append_76 ?_
            refine kTop (nI_add n m1) ?_
            refine pfX4_23 (ws1 := wP Y d P2 (n + m1) a kd V vc) hx hb hta hown hK hP hD hS 0 rfl (Nat.le_of_ble_eq_true rfl) rfl dX4_append_77 (fun H locs hP hD hS => ?_)
            refine lv_aload_n hx hb dX4_append_80 rfl (lv_at hl 1 rfl) ?_
            refine gfX4_23 (v := .int (nI (n + m1))) hx hb hta hown hK hP 0 rfl rfl dX4_append_81 ?_
            exact kiret ((P2, n + m1)) hQ hx hb hr hlocks hP hS dX4_append_84 (by have hi2 : i = m1 := (by omega); subst hi2; unfold cApp; rw [if_neg c2, hm, nI_clamp (n := i) (by omega), if_neg (by omega), hr0]; exact ⟨rfl, rfl⟩)
          · have c4n : ¬ m1 ≤ i := fun h => c4 ((nI_leI (a := m1) (b := i) (by omega) (by omega)).mpr h)
            refine lv_aload_n hx hb dX4_append_35 rfl (lv_at hl 1 rfl) ?_
            refine gfX4_9 (v := .ref (d 1)) hx hb hta hown hK hP 0 rfl rfl dX4_append_36 ?_
            refine lv_aload_n hx hb dX4_append_39 rfl (lv_at hl 1 rfl) ?_
            refine gfX4_23 (v := .int (nI n)) hx hb hta hown hK hP 0 rfl rfl dX4_append_40 ?_
            refine lv_iload_n hx hb dX4_append_43 rfl (lv_at hl 3 rfl) ?_
            refine lv_iadd hx hb dX4_append_44 ?_
            refine kTop (nI_add n m1) ?_
            refine lv_iconst (v := 1) hx hb dX4_append_45 (by decide) ?_
            refine lv_isub hx hb dX4_append_46 ?_
            refine kTop (y := nI (n + m1 - 1)) (pk_sub (a := n + m1) (b := 1) (by omega)) ?_
            refine lv_iload hx hb dX4_append_47 (lv_at hl 0 rfl) ?_
            refine lv_isub hx hb dX4_append_49 ?_
            refine kTop (y := nI (n + m1 - 1 - i)) (pk_sub (a := n + m1 - 1) (b := i) (by omega)) ?_
            refine lv_lload_n hx hb dX4_append_50 rfl (lv_at hl 2 rfl) ?_
            refine lv_bipush (v := 8) hx hb dX4_append_51 (by decide) ?_
            refine lv_iload hx hb dX4_append_53 (lv_at hl 0 rfl) ?_
            refine lv_imul hx hb dX4_append_55 ?_
            refine kTop (pk_mul 8 i) ?_
            refine lv_lushr (v := (w.toUInt64 >>> ((nI (8 * i)).toInt64.toUInt64 &&& Int64.toUInt64 63)).toInt64) hx hb dX4_append_56 rfl ?_
            refine lv_ldc2 hx hb hown (hta _ al_597) dX4_append_57 ?_
            refine lv_land hx hb dX4_append_60 ?_
            refine lv_l2i (v := (((w.toUInt64 >>> ((nI (8 * i)).toInt64.toUInt64 &&& Int64.toUInt64 63)).toInt64) &&& 255).toInt32) hx hb dX4_append_61 rfl ?_
            refine lv_i2c (v := (((((w.toUInt64 >>> ((nI (8 * i)).toInt64.toUInt64 &&& Int64.toUInt64 63)).toInt64) &&& 255).toInt32).toUInt32 % 65536).toInt32) hx hb dX4_append_62 rfl ?_
            refine kTop (y := cBy w i) rfl ?_
            refine kcast (f := P2) hx hb hK hP hD hS 1 rfl (n + m1 - 1 - i) rfl (by omega) (by omega) dX4_append_63 (kChr_nar (cBy_c w i).1) (wP Y d (upd P2 (n + m1 - 1 - i) (cBy w i)) n a kd V vc) rfl (fun H locs hP hD hS => ?_)
            refine lv_iinc (v := nI (i + 1)) (lv' := [(4, .int (nI (i + 1))), (0, .ref (d 0)), (1, .long w), (3, .int (nI m1))]) hx hb dX4_append_64 hl (k := 0) rfl (nI_add i 1) (by decide) rfl (fun ls hl => ?_)
            refine lv_goto (tgt := 29) hx hb dX4_append_67 (by decide) ?_
            exact ih (i + 1) (upd P2 (n + m1 - 1 - i) (cBy w i)) (by omega) (by rw [← hr0]; rfl) (by omega) _ _ hP hD hS ls (lv_sub hl [0, 1, 2, 3] rfl)
      exact loop29 ((m1 - 0) + 1) 0 P (Nat.lt_succ_self _) rfl (by omega) _ _ hP hD hS ls (lv_sub hl [0, 2, 3, 1] rfl)
    · have c3n : ¬ (n + m1) ≤ 80 := fun h => c3 ((nI_leI (a := n + m1) (b := 80) (by omega) (by omega)).mpr h)
      refine lv_bipush (v := (-4)) hx hb dX4_append_23 (by decide) ?_
      exact kiret ((P, n)) hQ hx hb hr hlocks hP hS dX4_append_25 (by unfold cApp; rw [if_neg c2, hm, nI_clamp (n := m1) (by omega), if_pos (by omega)]; exact ⟨rfl, rfl⟩)
  · refine lv_bipush (v := (-2)) hx hb dX4_append_9 (by decide) ?_
    exact kiret ((P, n)) hQ hx hb hr hlocks hP hS dX4_append_11 (by unfold cApp; rw [if_pos c2]; exact ⟨rfl, rfl⟩)
