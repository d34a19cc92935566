set_option maxHeartbeats 4000000 in
set_option maxRecDepth 100000 in
theorem c_X4_readNumber (l : Launch) (D : va_G) (Y : Nat → ClassId) (d : Nat → Nat) (P : Nat → Int32) (n a : Nat) (kd : Int32) (V : Nat → Int32) (vc : Nat) (h80 : n ≤ 80) (ha : a ≤ n) (hv : vc ≤ 4) : kM l yX4_readNumber wX4_readNumber rX4_readNumber D Y (wP Y d P n a kd V vc) [.ref (d 0)] kX0 (kQi D (fun r u => r = kb (pAt P n a 48 57) ∧ u = (cNm P n a V vc).2) (fun u => wP Y d P n u.1 kd u.2.1 u.2.2)) := by
  refine kentry (cc := cX4_readNumber) (maxL := 3) (ret := (some .boolean)) (by decide +kernel) rfl (Nat.le_of_ble_eq_true rfl) ?_
  intro p e s0 m args below meth c A Q ls hQ hx hb hr hlocks hml hown hin hta hA hX0 hK hNs hP hD hS hl
  have hown : s0.vm.findClass RX4 = some m.cls := hown
  have hl : lv_has ls 3 [(0, .ref (d 0))] := hl
  refine lv_aload_n hx hb dX4_readNumber_0 rfl (lv_at hl 0 rfl) ?_
  refine kc_i (krV (As := []) (rest := []) (c_X4_digitFollows l D Y d P n a kd V vc h80 ha hv) ⟨hx, hb, hml, hown, hta⟩ (cwX4_91 hta ⟨Nat.le_of_ble_eq_true rfl, Nat.le_of_ble_eq_true rfl⟩) kX0b (fun _ _ _ => trivial) hK hNs hP hD (kJ_all) (q0 := 0) rfl rfl rfl rfl hl.1 rfl (Nat.le_of_ble_eq_true rfl) dX4_readNumber_1 ⟨Nat.le_of_ble_eq_true rfl, Nat.le_of_ble_eq_true rfl⟩) hP hD hS hA (kJ_all) (fun _ => rfl) (fun r1 u H locs hw hP hD hS => ?_)
  subst hw
  have hP : va_P D vwCl (wP Y d P n a kd V vc) H := hP
  have hD : va_D A (wP Y d P n a kd V vc) := hD
  by_cases c2 : pAt P n a 48 57
  · refine kTop (kb_t c2) ?_
    refine lv_if_ne (tgt := 9) hx hb dX4_readNumber_4 (by decide) (fun _ => ?_) (fun h => False.elim (by revert h; decide))
    refine lv_iconst (v := 0) hx hb dX4_readNumber_9 (by decide) ?_
    refine lv_istore_n (lv' := [(1, .int 0), (0, .ref (d 0))]) hx hb dX4_readNumber_10 rfl hl (by decide) rfl (fun ls hl => ?_)
    refine lv_iconst (v := 0) hx hb dX4_readNumber_11 (by decide) ?_
    refine lv_istore_n (lv' := [(2, .int 0), (1, .int 0), (0, .ref (d 0))]) hx hb dX4_readNumber_12 rfl hl (by decide) rfl (fun ls hl => ?_)
    have loop13 : ∀ (zf : Nat) (i : Nat) (v : Int32) (a2 : Nat), 4 - i < zf → cNuT P n a i = (v, i, a2) → a2 ≤ n → i ≤ 4 → ∀ (H : Heap) (locs : List Loc), va_P D vwCl (wP Y d P n a2 kd V vc) H → va_D A (wP Y d P n a2 kd V vc) → va_S A s0.heap H locs → ∀ (ls : Array Slot), lv_has ls 3 [(2, .int (nI i)), (1, .int v), (0, .ref (d 0))] → W p l e rX4_readNumber s0 m args below meth c H locs 0 0 Q (F0 m 13 ls []) := by
      intro zf
      induction zf with
      | zero => intro i v a2 hmu; exact absurd hmu (Nat.not_lt_zero _)
      | succ zf ih =>
        intro i v a2 hmu hx0 ha2 hi H locs hP hD hS ls hl
        refine lv_iload_n hx hb dX4_readNumber_13 rfl (lv_at hl 0 rfl) ?_
        refine lv_iconst (v := 4) hx hb dX4_readNumber_14 (by decide) ?_
        refine lv_icmp_ge (tgt := 70) hx hb dX4_readNumber_15 (by decide) (fun c3 => ?_) (fun c3 => ?_)
        · have c3n : 4 ≤ i := (nI_leI (a := 4) (b := i) (by omega) (by omega)).mp c3
          have hend : cNuT P n a 4 = (v, i, a2) := by have e2 := cNuT_stop (P := P) (n := n) (a := a) (i := i) (by rw [hx0]; exact fun h => absurd (show i < 4 from h.1) (by omega)) (4 - i); rw [show i + (4 - i) = 4 by omega] at e2; exact e2.trans hx0
          refine lv_aload_n hx hb dX4_readNumber_70 rfl (lv_at hl 2 rfl) ?_
          refine lv_iload_n hx hb dX4_readNumber_71 rfl (lv_at hl 1 rfl) ?_
          refine kc_v (krV (As := [.int v]) (rest := []) (c_X4_keepValue l D Y d P n a2 kd V vc v h80 ha2 hv) ⟨hx, hb, hml, hown, hta⟩ (cwX4_94 hta ⟨Nat.le_of_ble_eq_true rfl, Nat.le_of_ble_eq_true rfl⟩) kX0b (fun _ _ _ => trivial) hK hNs hP hD (kJ_all) (q0 := 0) rfl rfl rfl rfl hl.1 rfl (Nat.le_of_ble_eq_true rfl) dX4_readNumber_72 ⟨Nat.le_of_ble_eq_true rfl, Nat.le_of_ble_eq_true rfl⟩) hP hD hS hA (kJ_all) (fun _ => rfl) (fun u H locs hw hP hD hS => ?_)
          subst hw
          have hP : va_P D vwCl (wP Y d P n a2 kd (kpV V vc v) (kpC vc)) H := hP
          have hD : va_D A (wP Y d P n a2 kd (kpV V vc v) (kpC vc)) := hD
          refine lv_iconst (v := 1) hx hb dX4_readNumber_75 (by decide) ?_
          exact kzret (((a2), (kpV V vc v), (kpC vc))) hQ hx hb hr hlocks hP hS dX4_readNumber_76 (by first | exact Or.inl rfl | exact Or.inr rfl | exact kb_01 _) (by unfold cNm; rw [if_pos c2, hend]; exact ⟨(kb_t c2).symm, rfl⟩)
        · have c3n : ¬ 4 ≤ i := fun h => c3 ((nI_leI (a := 4) (b := i) (by omega) (by omega)).mpr h)
          refine lv_aload_n hx hb dX4_readNumber_18 rfl (lv_at hl 2 rfl) ?_
          refine kc_i (krV (As := []) (rest := []) (c_X4_digitFollows l D Y d P n a2 kd V vc h80 ha2 hv) ⟨hx, hb, hml, hown, hta⟩ (cwX4_91 hta ⟨Nat.le_of_ble_eq_true rfl, Nat.le_of_ble_eq_true rfl⟩) kX0b (fun _ _ _ => trivial) hK hNs hP hD (kJ_all) (q0 := 0) rfl rfl rfl rfl hl.1 rfl (Nat.le_of_ble_eq_true rfl) dX4_readNumber_19 ⟨Nat.le_of_ble_eq_true rfl, Nat.le_of_ble_eq_true rfl⟩) hP hD hS hA (kJ_all) (fun _ => rfl) (fun r5 u H locs hw hP hD hS => ?_)
          subst hw
          have hP : va_P D vwCl (wP Y d P n a2 kd V vc) H := hP
          have hD : va_D A (wP Y d P n a2 kd V vc) := hD
          by_cases c6 : pAt P n a2 48 57
          · refine kTop (kb_t c6) ?_
            refine lv_if_eq (tgt := 70) hx hb dX4_readNumber_22 (by decide) (fun h => False.elim (by revert h; decide)) (fun _ => ?_)
            refine lv_iload_n hx hb dX4_readNumber_25 rfl (lv_at hl 0 rfl) ?_
            refine lv_if_le (tgt := 36) hx hb dX4_readNumber_26 (by decide) (fun c7 => ?_) (fun c7 => ?_)
            · have c7n : i ≤ 0 := (nI_leI (a := i) (b := 0) (by omega) (by omega)).mp c7
              have haN : a2 < n := c6.1
              refine lv_iload_n hx hb dX4_readNumber_36 rfl (lv_at hl 1 rfl) ?_
              refine lv_bipush (v := 10) hx hb dX4_readNumber_37 (by decide) ?_
              refine lv_imul hx hb dX4_readNumber_39 ?_
              refine lv_aload_n hx hb dX4_readNumber_40 rfl (lv_at hl 2 rfl) ?_
              refine gfX4_9 (v := .ref (d 1)) hx hb hta hown hK hP 0 rfl rfl dX4_readNumber_41 ?_
              refine lv_aload_n hx hb dX4_readNumber_44 rfl (lv_at hl 2 rfl) ?_
              refine gfX4_40 (v := .int (nI a2)) hx hb hta hown hK hP 0 rfl rfl dX4_readNumber_45 ?_
              refine kcald (f := P) hx hb hK hP 1 rfl a2 rfl (by omega) (by omega) dX4_readNumber_48 ?_
              refine lv_iadd hx hb dX4_readNumber_49 ?_
              refine lv_bipush (v := 48) hx hb dX4_readNumber_50 (by decide) ?_
              refine lv_isub hx hb dX4_readNumber_52 ?_
              refine lv_istore_n (lv' := [(1, .int (((v * 10) + (P a2)) - 48)), (2, .int (nI i)), (0, .ref (d 0))]) hx hb dX4_readNumber_53 rfl hl (by decide) rfl (fun ls hl => ?_)
              refine lv_aload_n hx hb dX4_readNumber_54 rfl (lv_at hl 2 rfl) ?_
              refine lv_dup hx hb dX4_readNumber_55 rfl ?_
              refine gfX4_40 (v := .int (nI a2)) hx hb hta hown hK hP 0 rfl rfl dX4_readNumber_56 ?_
              refine lv_iconst (v := 1) hx hb dX4_readNumber_59 (by decide) ?_
              refine lv_iadd hx hb dX4_readNumber_60 ?_
              refine kTop (nI_add a2 1) ?_
              refine pfX4_40 (ws1 := wP Y d P n (a2 + 1) kd V vc) hx hb hta hown hK hP hD hS 0 rfl (Nat.le_of_ble_eq_true rfl) rfl dX4_readNumber_61 (fun H locs hP hD hS => ?_)
              refine lv_iinc (v := nI (i + 1)) (lv' := [(2, .int (nI (i + 1))), (1, .int (((v * 10) + (P a2)) - 48)), (0, .ref (d 0))]) hx hb dX4_readNumber_64 hl (k := 1) rfl (nI_add i 1) (by decide) rfl (fun ls hl => ?_)
              refine lv_goto (tgt := 13) hx hb dX4_readNumber_67 (by decide) ?_
              exact ih (i + 1) (((v * 10) + (P a2)) - 48) (a2 + 1) (by omega) (by show cNuS P n (cNuT P n a i) = _; rw [hx0]; exact if_pos ⟨by dsimp only; omega, c6, fun z => absurd (show 0 < i from z.1) (by omega)⟩) (by omega) (by omega) _ _ hP hD hS ls (lv_sub hl [0, 1, 2] rfl)
            · have c7n : ¬ i ≤ 0 := fun h => c7 ((nI_leI (a := i) (b := 0) (by omega) (by omega)).mpr h)
              refine lv_iload_n hx hb dX4_readNumber_29 rfl (lv_at hl 1 rfl) ?_
              refine lv_if_ne (tgt := 36) hx hb dX4_readNumber_30 (by decide) (fun c8 => ?_) (fun c8 => ?_)
              · have haN : a2 < n := c6.1
                refine lv_iload_n hx hb dX4_readNumber_36 rfl (lv_at hl 1 rfl) ?_
                refine lv_bipush (v := 10) hx hb dX4_readNumber_37 (by decide) ?_
                refine lv_imul hx hb dX4_readNumber_39 ?_
                refine lv_aload_n hx hb dX4_readNumber_40 rfl (lv_at hl 2 rfl) ?_
                refine gfX4_9 (v := .ref (d 1)) hx hb hta hown hK hP 0 rfl rfl dX4_readNumber_41 ?_
                refine lv_aload_n hx hb dX4_readNumber_44 rfl (lv_at hl 2 rfl) ?_
                refine gfX4_40 (v := .int (nI a2)) hx hb hta hown hK hP 0 rfl rfl dX4_readNumber_45 ?_
                refine kcald (f := P) hx hb hK hP 1 rfl a2 rfl (by omega) (by omega) dX4_readNumber_48 ?_
                refine lv_iadd hx hb dX4_readNumber_49 ?_
                refine lv_bipush (v := 48) hx hb dX4_readNumber_50 (by decide) ?_
                refine lv_isub hx hb dX4_readNumber_52 ?_
                refine lv_istore_n (lv' := [(1, .int (((v * 10) + (P a2)) - 48)), (2, .int (nI i)), (0, .ref (d 0))]) hx hb dX4_readNumber_53 rfl hl (by decide) rfl (fun ls hl => ?_)
                refine lv_aload_n hx hb dX4_readNumber_54 rfl (lv_at hl 2 rfl) ?_
                refine lv_dup hx hb dX4_readNumber_55 rfl ?_
                refine gfX4_40 (v := .int (nI a2)) hx hb hta hown hK hP 0 rfl rfl dX4_readNumber_56 ?_
                refine lv_iconst (v := 1) hx hb dX4_readNumber_59 (by decide) ?_
                refine lv_iadd hx hb dX4_readNumber_60 ?_
                refine kTop (nI_add a2 1) ?_
                refine pfX4_40 (ws1 := wP Y d P n (a2 + 1) kd V vc) hx hb hta hown hK hP hD hS 0 rfl (Nat.le_of_ble_eq_true rfl) rfl dX4_readNumber_61 (fun H locs hP hD hS => ?_)
                refine lv_iinc (v := nI (i + 1)) (lv' := [(2, .int (nI (i + 1))), (1, .int (((v * 10) + (P a2)) - 48)), (0, .ref (d 0))]) hx hb dX4_readNumber_64 hl (k := 1) rfl (nI_add i 1) (by decide) rfl (fun ls hl => ?_)
                refine lv_goto (tgt := 13) hx hb dX4_readNumber_67 (by decide) ?_
                exact ih (i + 1) (((v * 10) + (P a2)) - 48) (a2 + 1) (by omega) (by show cNuS P n (cNuT P n a i) = _; rw [hx0]; exact if_pos ⟨by dsimp only; omega, c6, fun z => c8 z.2⟩) (by omega) (by omega) _ _ hP hD hS ls (lv_sub hl [0, 1, 2] rfl)
              · refine lv_goto (tgt := 70) hx hb dX4_readNumber_33 (by decide) ?_
                have hend : cNuT P n a 4 = (v, i, a2) := by have e2 := cNuT_stop (P := P) (n := n) (a := a) (i := i) (by rw [hx0]; exact fun h => h.2.2 ⟨Nat.not_le.mp c7n, c8⟩) (4 - i); rw [show i + (4 - i) = 4 by omega] at e2; exact e2.trans hx0
                refine lv_aload_n hx hb dX4_readNumber_70 rfl (lv_at hl 2 rfl) ?_
                refine lv_iload_n hx hb dX4_readNumber_71 rfl (lv_at hl 1 rfl) ?_
                refine kc_v (krV (As := [.int v]) (rest := []) (c_X4_keepValue l D Y d P n a2 kd V vc v h80 ha2 hv) ⟨hx, hb, hml, hown, hta⟩ (cwX4_94 hta ⟨Nat.le_of_ble_eq_true rfl, Nat.le_of_ble_eq_true rfl⟩) kX0b (fun _ _ _ => trivial) hK hNs hP hD (kJ_all) (q0 := 0) rfl rfl rfl rfl hl.1 rfl (Nat.le_of_ble_eq_true rfl) dX4_readNumber_72 ⟨Nat.le_of_ble_eq_true rfl, Nat.le_of_ble_eq_true rfl⟩) hP hD hS hA (kJ_all) (fun _ => rfl) (fun u H locs hw hP hD hS => ?_)
                subst hw
                have hP : va_P D vwCl (wP Y d P n a2 kd (kpV V vc v) (kpC vc)) H := hP
                have hD : va_D A (wP Y d P n a2 kd (kpV V vc v) (kpC vc)) := hD
                refine lv_iconst (v := 1) hx hb dX4_readNumber_75 (by decide) ?_
                exact kzret (((a2), (kpV V vc v), (kpC vc))) hQ hx hb hr hlocks hP hS dX4_readNumber_76 (by first | exact Or.inl rfl | exact Or.inr rfl | exact kb_01 _) (by unfold cNm; rw [if_pos c2, hend]; exact ⟨(kb_t c2).symm, rfl⟩)
          · refine kTop (kb_f c6) ?_
            refine lv_if_eq (tgt := 70) hx hb dX4_readNumber_22 (by decide) (fun _ => ?_) (fun h => False.elim (by revert h; decide))
            have hend : cNuT P n a 4 = (v, i, a2) := by have e2 := cNuT_stop (P := P) (n := n) (a := a) (i := i) (by rw [hx0]; exact fun h => c6 h.2.1) (4 - i); rw [show i + (4 - i) = 4 by omega] at e2; exact e2.trans hx0
            refine lv_aload_n hx hb dX4_readNumber_70 rfl (lv_at hl 2 rfl) ?_
            refine lv_iload_n hx hb dX4_readNumber_71 rfl (lv_at hl 1 rfl) ?_
            refine kc_v (krV (As := [.int v]) (rest := []) (c_X4_keepValue l D Y d P n a2 kd V vc v h80 ha2 hv) ⟨hx, hb, hml, hown, hta⟩ (cwX4_94 hta ⟨Nat.le_of_ble_eq_true rfl, Nat.le_of_ble_eq_true rfl⟩) kX0b (fun _ _ _ => trivial) hK hNs hP hD (kJ_all) (q0 := 0) rfl rfl rfl rfl hl.1 rfl (Nat.le_of_ble_eq_true rfl) dX4_readNumber_72 ⟨Nat.le_of_ble_eq_true rfl, Nat.le_of_ble_eq_true rfl⟩) hP hD hS hA (kJ_all) (fun _ => rfl) (fun u H locs hw hP hD hS => ?_)
            subst hw
            have hP : va_P D vwCl (wP Y d P n a2 kd (kpV V vc v) (kpC vc)) H := hP
            have hD : va_D A (wP Y d P n a2 kd (kpV V vc v) (kpC vc)) := hD
            refine lv_iconst (v := 1) hx hb dX4_readNumber_75 (by decide) ?_
            exact kzret (((a2), (kpV V vc v), (kpC vc))) hQ hx hb hr hlocks hP hS dX4_readNumber_76 (by first | exact Or.inl rfl | exact Or.inr rfl | exact kb_01 _) (by unfold cNm; rw [if_pos c2, hend]; exact ⟨(kb_t c2).symm, rfl⟩)
    exact loop13 ((4 - 0) + 1) 0 0 a (Nat.lt_succ_self _) rfl ha (by omega) _ _ hP hD hS ls (lv_sub hl [0, 1, 2] rfl)
  · refine kTop (kb_f c2) ?_
    refine lv_if_ne (tgt := 9) hx hb dX4_readNumber_4 (by decide) (fun h => False.elim (by revert h; decide)) (fun _ => ?_)
    refine lv_iconst (v := 0) hx hb dX4_readNumber_7 (by decide) ?_
    exact kzret (((a), (V), (vc))) hQ hx hb hr hlocks hP hS dX4_readNumber_8 (by first | exact Or.inl rfl | exact Or.inr rfl | exact kb_01 _) (by unfold cNm; rw [if_neg c2]; exact ⟨(kb_f c2).symm, rfl⟩)
