set_option maxHeartbeats 4000000 in
set_option maxRecDepth 100000 in
theorem c_X8_isNumber (l : Launch) (D : va_G) (Y : Nat → ClassId) (b : Nat → Nat) (R : kN) (a : Nat) (O : Nat → Int32) (o : Nat) (hn : R 7 1 = nI (pn R)) (h80 : pn R ≤ 80) (ha : a ≤ pn R) (k : Nat) (ho : o ≤ 26) (hk : k < 5) : kM l yX8_isNumber wX8_isNumber rX8_isNumber D Y (wR Y b (pWr R (a) (O) (o))) [.ref (b 0), .int (nI k)] kX0 (kQi D (fun r u => r = kb (pAt (R 5) (pn R) a 48 57) ∧ u = (pNuA (R 5) (pn R) a, pNuO (R 5) (pn R) a O (5 * o + k))) (fun u => wR Y b (pWr R u.1 u.2 o))) := by
  refine kentry (cc := cX8_isNumber) (maxL := 3) (ret := (some .boolean)) (by decide +kernel) rfl (Nat.le_of_ble_eq_true rfl) ?_
  intro p e s0 m args below meth c A Q ls hQ hx hb hr hlocks hml hown hin hta hA hX0 hK hNs hP hD hS hl
  have hown : s0.vm.findClass RX8 = some m.cls := hown
  have hl : lv_has ls 3 [(0, .ref (b 0)), (1, .int (nI k))] := hl
  refine lv_aload_n hx hb dX8_isNumber_0 rfl (lv_at hl 0 rfl) ?_
  refine lv_bipush (v := 48) hx hb dX8_isNumber_1 (by decide) ?_
  refine lv_bipush (v := 57) hx hb dX8_isNumber_3 (by decide) ?_
  refine kc_i (krV (As := [.int 48, .int 57]) (rest := []) (c_X8_isAt l D Y b R (a) (O) (o) hn h80 ha 48 57) ⟨hx, hb, hml, hown, hta⟩ (cwX8_166 hta ⟨Nat.le_of_ble_eq_true rfl, Nat.le_of_ble_eq_true rfl⟩) kX0b (fun _ _ _ => trivial) hK hNs hP hD (kJ_all) (q0 := 0) rfl rfl rfl rfl hl.1 rfl (Nat.le_of_ble_eq_true rfl) dX8_isNumber_5 ⟨Nat.le_of_ble_eq_true rfl, Nat.le_of_ble_eq_true rfl⟩) hP hD hS hA (kJ_all) (fun _ => rfl) (fun r1 u H locs hw hP hD hS => ?_)
  subst hw
  have hP : va_P D vwCl (wR Y b (pWr R (a) (O) (o))) H := hP
  have hD : va_D A (wR Y b (pWr R (a) (O) (o))) := hD
  by_cases c2 : pAt (R 5) (pn R) (a) 48 57
  · refine kTop (kb_t c2) ?_
    refine lv_if_ne (tgt := 13) hx hb dX8_isNumber_8 (by decide) (fun _ => ?_) (fun h => False.elim (by revert h; decide))
    have haN : a < pn R := c2.1
    refine lv_aload_n hx hb dX8_isNumber_13 rfl (lv_at hl 0 rfl) ?_
    refine gfX8_26 (v := .ref (b 6)) hx hb hta hown hK hP 0 rfl rfl dX8_isNumber_14 ?_
    refine lv_aload_n hx hb dX8_isNumber_17 rfl (lv_at hl 0 rfl) ?_
    refine gfX8_163 (v := .int (nI a)) hx hb hta hown hK hP 0 rfl rfl dX8_isNumber_18 ?_
    refine kiald (f := R 5) hx hb hK hP 6 rfl a rfl (by omega) (by omega) dX8_isNumber_21 ?_
    refine lv_bipush (v := 48) hx hb dX8_isNumber_22 (by decide) ?_
    refine lv_isub hx hb dX8_isNumber_24 ?_
    refine lv_istore_n (lv' := [(2, .int ((R 5 a) - 48)), (0, .ref (b 0)), (1, .int (nI k))]) hx hb dX8_isNumber_25 rfl hl (by decide) rfl (fun ls hl => ?_)
    refine lv_aload_n hx hb dX8_isNumber_26 rfl (lv_at hl 1 rfl) ?_
    refine lv_dup hx hb dX8_isNumber_27 rfl ?_
    refine gfX8_163 (v := .int (nI a)) hx hb hta hown hK hP 0 rfl rfl dX8_isNumber_28 ?_
    refine lv_iconst (v := 1) hx hb dX8_isNumber_31 (by decide) ?_
    refine lv_iadd hx hb dX8_isNumber_32 ?_
    refine kTop (nI_add a 1) ?_
    refine pfX8_163 (ws1 := wR Y b (pWr R (a + 1) (O) (o))) hx hb hta hown hK hP hD hS 0 rfl (Nat.le_of_ble_eq_true rfl) rfl dX8_isNumber_33 (fun H locs hP hD hS => ?_)
    have loop36 : ∀ (n : Nat) (i : Nat) (v : Int32) (a2 : Nat), pn R - a2 < n → pNuT (R 5) (pn R) (R 5 a - 48, a + 1) i = (v, a2) → a2 ≤ pn R → a2 = a + 1 + i → i ≤ pn R → ∀ (H : Heap) (locs : List Loc), va_P D vwCl (wR Y b (pWr R (a2) (O) (o))) H → va_D A (wR Y b (pWr R (a2) (O) (o))) → va_S A s0.heap H locs → ∀ (ls : Array Slot), lv_has ls 3 [(2, .int v), (0, .ref (b 0)), (1, .int (nI k))] → W p l e rX8_isNumber s0 m args below meth c H locs 0 0 Q (F0 m 36 ls []) := by
      intro n
      induction n with
      | zero => intro i v a2 hmu; exact absurd hmu (Nat.not_lt_zero _)
      | succ n ih =>
        intro i v a2 hmu hx0 ha2 hia hi H locs hP hD hS ls hl
        refine lv_iload_n hx hb dX8_isNumber_36 rfl (lv_at hl 0 rfl) ?_
        refine lv_if_le (tgt := 89) hx hb dX8_isNumber_37 (by decide) (fun c3 => ?_) (fun c3 => ?_)
        · have hend : pNu (R 5) (pn R) a = (v, a2) := by have e2 := pNuT_stop (P := R 5) (n := pn R) (x := (R 5 a - 48, a + 1)) (i := i) (by rw [hx0]; exact fun h => (Int32.not_lt.mpr c3) h.1) (pn R - i); rw [show i + (pn R - i) = pn R by omega] at e2; exact e2.trans hx0
          refine lv_aload_n hx hb dX8_isNumber_89 rfl (lv_at hl 1 rfl) ?_
          refine gfX8_29 (v := .ref (b 7)) hx hb hta hown hK hP 0 rfl rfl dX8_isNumber_90 ?_
          refine lv_iconst (v := 5) hx hb dX8_isNumber_93 (by decide) ?_
          refine lv_aload_n hx hb dX8_isNumber_94 rfl (lv_at hl 1 rfl) ?_
          refine gfX8_169 (v := .int (nI o)) hx hb hta hown hK hP 0 rfl rfl dX8_isNumber_95 ?_
          refine lv_imul hx hb dX8_isNumber_98 ?_
          refine kTop (pk_mul 5 o) ?_
          refine lv_iload_n hx hb dX8_isNumber_99 rfl (lv_at hl 2 rfl) ?_
          refine lv_iadd hx hb dX8_isNumber_100 ?_
          refine kTop (nI_add (5 * o) k) ?_
          refine lv_iload_n hx hb dX8_isNumber_101 rfl (lv_at hl 0 rfl) ?_
          refine kiast (f := O) hx hb hK hP hD hS 7 rfl (5 * o + k) rfl (by omega) (by omega) dX8_isNumber_102 (wR Y b (pWr R (a2) (upd (O) (5 * o + k) v) (o))) rfl (fun H locs hP hD hS => ?_)
          refine lv_iconst (v := 1) hx hb dX8_isNumber_103 (by decide) ?_
          exact kzret (((a2), (upd (O) (5 * o + k) v))) hQ hx hb hr hlocks hP hS dX8_isNumber_104 (by first | exact Or.inl rfl | exact Or.inr rfl | exact kb_01 _) (by refine ⟨(kb_t c2).symm, ?_⟩; unfold pNuA pNuO; rw [if_pos c2, if_pos c2, hend])
        · refine lv_iload_n hx hb dX8_isNumber_40 rfl (lv_at hl 0 rfl) ?_
          refine lv_sipush (v := 1000) hx hb dX8_isNumber_41 (by decide) ?_
          refine lv_icmp_ge (tgt := 89) hx hb dX8_isNumber_44 (by decide) (fun c4 => ?_) (fun c4 => ?_)
          · have hend : pNu (R 5) (pn R) a = (v, a2) := by have e2 := pNuT_stop (P := R 5) (n := pn R) (x := (R 5 a - 48, a + 1)) (i := i) (by rw [hx0]; exact fun h => (Int32.not_lt.mpr c4) h.2.1) (pn R - i); rw [show i + (pn R - i) = pn R by omega] at e2; exact e2.trans hx0
            refine lv_aload_n hx hb dX8_isNumber_89 rfl (lv_at hl 1 rfl) ?_
            refine gfX8_29 (v := .ref (b 7)) hx hb hta hown hK hP 0 rfl rfl dX8_isNumber_90 ?_
            refine lv_iconst (v := 5) hx hb dX8_isNumber_93 (by decide) ?_
            refine lv_aload_n hx hb dX8_isNumber_94 rfl (lv_at hl 1 rfl) ?_
            refine gfX8_169 (v := .int (nI o)) hx hb hta hown hK hP 0 rfl rfl dX8_isNumber_95 ?_
            refine lv_imul hx hb dX8_isNumber_98 ?_
            refine kTop (pk_mul 5 o) ?_
            refine lv_iload_n hx hb dX8_isNumber_99 rfl (lv_at hl 2 rfl) ?_
            refine lv_iadd hx hb dX8_isNumber_100 ?_
            refine kTop (nI_add (5 * o) k) ?_
            refine lv_iload_n hx hb dX8_isNumber_101 rfl (lv_at hl 0 rfl) ?_
            refine kiast (f := O) hx hb hK hP hD hS 7 rfl (5 * o + k) rfl (by omega) (by omega) dX8_isNumber_102 (wR Y b (pWr R (a2) (upd (O) (5 * o + k) v) (o))) rfl (fun H locs hP hD hS => ?_)
            refine lv_iconst (v := 1) hx hb dX8_isNumber_103 (by decide) ?_
            exact kzret (((a2), (upd (O) (5 * o + k) v))) hQ hx hb hr hlocks hP hS dX8_isNumber_104 (by first | exact Or.inl rfl | exact Or.inr rfl | exact kb_01 _) (by refine ⟨(kb_t c2).symm, ?_⟩; unfold pNuA pNuO; rw [if_pos c2, if_pos c2, hend])
          · refine lv_aload_n hx hb dX8_isNumber_47 rfl (lv_at hl 1 rfl) ?_
            refine lv_bipush (v := 48) hx hb dX8_isNumber_48 (by decide) ?_
            refine lv_bipush (v := 57) hx hb dX8_isNumber_50 (by decide) ?_
            refine kc_i (krV (As := [.int 48, .int 57]) (rest := []) (c_X8_isAt l D Y b R (a2) (O) (o) hn h80 (by omega) 48 57) ⟨hx, hb, hml, hown, hta⟩ (cwX8_166 hta ⟨Nat.le_of_ble_eq_true rfl, Nat.le_of_ble_eq_true rfl⟩) kX0b (fun _ _ _ => trivial) hK hNs hP hD (kJ_all) (q0 := 0) rfl rfl rfl rfl hl.1 rfl (Nat.le_of_ble_eq_true rfl) dX8_isNumber_52 ⟨Nat.le_of_ble_eq_true rfl, Nat.le_of_ble_eq_true rfl⟩) hP hD hS hA (kJ_all) (fun _ => rfl) (fun r5 u H locs hw hP hD hS => ?_)
            subst hw
            have hP : va_P D vwCl (wR Y b (pWr R (a2) (O) (o))) H := hP
            have hD : va_D A (wR Y b (pWr R (a2) (O) (o))) := hD
            by_cases c6 : pAt (R 5) (pn R) (a2) 48 57
            · refine kTop (kb_t c6) ?_
              refine lv_if_eq (tgt := 89) hx hb dX8_isNumber_55 (by decide) (fun h => False.elim (by revert h; decide)) (fun _ => ?_)
              have ha2N : a2 < pn R := c6.1
              refine lv_bipush (v := 10) hx hb dX8_isNumber_58 (by decide) ?_
              refine lv_iload_n hx hb dX8_isNumber_60 rfl (lv_at hl 0 rfl) ?_
              refine lv_imul hx hb dX8_isNumber_61 ?_
              refine lv_aload_n hx hb dX8_isNumber_62 rfl (lv_at hl 1 rfl) ?_
              refine gfX8_26 (v := .ref (b 6)) hx hb hta hown hK hP 0 rfl rfl dX8_isNumber_63 ?_
              refine lv_aload_n hx hb dX8_isNumber_66 rfl (lv_at hl 1 rfl) ?_
              refine gfX8_163 (v := .int (nI a2)) hx hb hta hown hK hP 0 rfl rfl dX8_isNumber_67 ?_
              refine kiald (f := R 5) hx hb hK hP 6 rfl a2 rfl (by omega) (by omega) dX8_isNumber_70 ?_
              refine lv_iadd hx hb dX8_isNumber_71 ?_
              refine lv_bipush (v := 48) hx hb dX8_isNumber_72 (by decide) ?_
              refine lv_isub hx hb dX8_isNumber_74 ?_
              refine lv_istore_n (lv' := [(2, .int (((10 * v) + (R 5 a2)) - 48)), (0, .ref (b 0)), (1, .int (nI k))]) hx hb dX8_isNumber_75 rfl hl (by decide) rfl (fun ls hl => ?_)
              refine lv_aload_n hx hb dX8_isNumber_76 rfl (lv_at hl 1 rfl) ?_
              refine lv_dup hx hb dX8_isNumber_77 rfl ?_
              refine gfX8_163 (v := .int (nI a2)) hx hb hta hown hK hP 0 rfl rfl dX8_isNumber_78 ?_
              refine lv_iconst (v := 1) hx hb dX8_isNumber_81 (by decide) ?_
              refine lv_iadd hx hb dX8_isNumber_82 ?_
              refine kTop (nI_add a2 1) ?_
              refine pfX8_163 (ws1 := wR Y b (pWr R (a2 + 1) (O) (o))) hx hb hta hown hK hP hD hS 0 rfl (Nat.le_of_ble_eq_true rfl) rfl dX8_isNumber_83 (fun H locs hP hD hS => ?_)
              refine lv_goto (tgt := 36) hx hb dX8_isNumber_86 (by decide) ?_
              exact ih (i + 1) (((10 * v) + (R 5 a2)) - 48) (a2 + 1) (by omega) (by show pNuS (R 5) (pn R) (pNuT (R 5) (pn R) (R 5 a - 48, a + 1) i) = _; rw [hx0]; exact if_pos ⟨Int32.not_le.mp c3, Int32.not_le.mp c4, c6⟩) (by omega) (by omega) (by omega) _ _ hP hD hS ls (lv_sub hl [0, 1, 2] rfl)
            · refine kTop (kb_f c6) ?_
              refine lv_if_eq (tgt := 89) hx hb dX8_isNumber_55 (by decide) (fun _ => ?_) (fun h => False.elim (by revert h; decide))
              have hend : pNu (R 5) (pn R) a = (v, a2) := by have e2 := pNuT_stop (P := R 5) (n := pn R) (x := (R 5 a - 48, a + 1)) (i := i) (by rw [hx0]; exact fun h => c6 h.2.2) (pn R - i); rw [show i + (pn R - i) = pn R by omega] at e2; exact e2.trans hx0
              refine lv_aload_n hx hb dX8_isNumber_89 rfl (lv_at hl 1 rfl) ?_
              refine gfX8_29 (v := .ref (b 7)) hx hb hta hown hK hP 0 rfl rfl dX8_isNumber_90 ?_
              refine lv_iconst (v := 5) hx hb dX8_isNumber_93 (by decide) ?_
              refine lv_aload_n hx hb dX8_isNumber_94 rfl (lv_at hl 1 rfl) ?_
              refine gfX8_169 (v := .int (nI o)) hx hb hta hown hK hP 0 rfl rfl dX8_isNumber_95 ?_
              refine lv_imul hx hb dX8_isNumber_98 ?_
              refine kTop (pk_mul 5 o) ?_
              refine lv_iload_n hx hb dX8_isNumber_99 rfl (lv_at hl 2 rfl) ?_
              refine lv_iadd hx hb dX8_isNumber_100 ?_
              refine kTop (nI_add (5 * o) k) ?_
              refine lv_iload_n hx hb dX8_isNumber_101 rfl (lv_at hl 0 rfl) ?_
              refine kiast (f := O) hx hb hK hP hD hS 7 rfl (5 * o + k) rfl (by omega) (by omega) dX8_isNumber_102 (wR Y b (pWr R (a2) (upd (O) (5 * o + k) v) (o))) rfl (fun H locs hP hD hS => ?_)
              refine lv_iconst (v := 1) hx hb dX8_isNumber_103 (by decide) ?_
              exact kzret (((a2), (upd (O) (5 * o + k) v))) hQ hx hb hr hlocks hP hS dX8_isNumber_104 (by first | exact Or.inl rfl | exact Or.inr rfl | exact kb_01 _) (by refine ⟨(kb_t c2).symm, ?_⟩; unfold pNuA pNuO; rw [if_pos c2, if_pos c2, hend])
    exact loop36 ((pn R - (a + 1)) + 1) 0 (R 5 a - 48) (a + 1) (Nat.lt_succ_self _) rfl (by omega) (by omega) (by omega) _ _ hP hD hS ls (lv_sub hl [0, 1, 2] rfl)
  · refine kTop (kb_f c2) ?_
    refine lv_if_ne (tgt := 13) hx hb dX8_isNumber_8 (by decide) (fun h => False.elim (by revert h; decide)) (fun _ => ?_)
    refine lv_iconst (v := 0) hx hb dX8_isNumber_11 (by decide) ?_
    exact kzret (((a), (O))) hQ hx hb hr hlocks hP hS dX8_isNumber_12 (by first | exact Or.inl rfl | exact Or.inr rfl | exact kb_01 _) (by refine ⟨(kb_f c2).symm, ?_⟩; unfold pNuA pNuO; rw [if_neg c2, if_neg c2])
