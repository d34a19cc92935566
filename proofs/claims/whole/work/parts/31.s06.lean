set_option maxHeartbeats 4000000 in
set_option maxRecDepth 100000 in
theorem c_X8_toldBy (l : Launch) (D : va_G) (Y : Nat → ClassId) (w : Int64) : kM l yX8_toldBy wX8_toldBy rX8_toldBy D Y ([]) [.long w] kX0 (kQi D (fun r (_ : Unit) => r = mTold w) (fun _ => [])) := by
  refine kentry (cc := cX8_toldBy) (maxL := 4) (ret := (some .int)) (by decide +kernel) rfl (Nat.le_of_ble_eq_true rfl) ?_
  intro p e s0 m args below meth c A Q ls hQ hx hb hr hlocks hml hown hin hta hA hX0 hK hNs hP hD hS hl
  have hown : s0.vm.findClass RX8 = some m.cls := hown
  have hl : lv_has ls 4 [(0, .long w)] := hl
  refine lv_iconst (v := 0) hx hb dX8_toldBy_0 (by decide) ?_
  refine lv_istore_n (lv' := [(2, .int 0), (0, .long w)]) hx hb dX8_toldBy_1 rfl hl (by decide) rfl (fun ls hl => ?_)
  have loop2 : ∀ (n : Nat) (i : Nat), 8 - i < n → mBy w (8 - i) i = mBy w 8 0 → i ≤ 8 → ∀ (H : Heap) (locs : List Loc), va_P D vwCl ([]) H → va_D A ([]) → va_S A s0.heap H locs → ∀ (ls : Array Slot), lv_has ls 4 [(2, .int (nI i)), (0, .long w)] → W p l e rX8_toldBy s0 m args below meth c H locs 0 0 Q (F0 m 2 ls []) := by
    intro n
    induction n with
    | zero => intro i hmu; exact absurd hmu (Nat.not_lt_zero _)
    | succ n ih =>
      intro i hmu hr0 hi H locs hP hD hS ls hl
      refine lv_iload_n hx hb dX8_toldBy_2 rfl (lv_at hl 0 rfl) ?_
      refine lv_bipush (v := 8) hx hb dX8_toldBy_3 (by decide) ?_
      refine lv_icmp_ge (tgt := 40) hx hb dX8_toldBy_5 (by decide) (fun c1 => ?_) (fun c1 => ?_)
      · have c1n : 8 ≤ i := (nI_leI (a := 8) (b := i) (by omega) (by omega)).mp c1
        have hby : mBy w 8 0 = some i := by rw [← hr0]; rw [show 8 - i = 0 by omega]; rfl
        refine lv_iload_n hx hb dX8_toldBy_40 rfl (lv_at hl 0 rfl) ?_
        refine lv_istore_n (lv' := [(3, .int (nI i)), (2, .int (nI i)), (0, .long w)]) hx hb dX8_toldBy_41 rfl hl (by decide) rfl (fun ls hl => ?_)
        have loop42 : ∀ (n : Nat) (q : Nat), 8 - q < n → mZe w (8 - q) q = mZe w (8 - i) i → q ≤ 8 → ∀ (H : Heap) (locs : List Loc), va_P D vwCl ([]) H → va_D A ([]) → va_S A s0.heap H locs → ∀ (ls : Array Slot), lv_has ls 4 [(3, .int (nI q)), (0, .long w), (2, .int (nI i))] → W p l e rX8_toldBy s0 m args below meth c H locs 0 0 Q (F0 m 42 ls []) := by
          intro n
          induction n with
          | zero => intro q hmu; exact absurd hmu (Nat.not_lt_zero _)
          | succ n ih =>
            intro q hmu hz0 hq H locs hP hD hS ls hl
            refine lv_iload_n hx hb dX8_toldBy_42 rfl (lv_at hl 0 rfl) ?_
            refine lv_bipush (v := 8) hx hb dX8_toldBy_43 (by decide) ?_
            refine lv_icmp_ge (tgt := 65) hx hb dX8_toldBy_45 (by decide) (fun c2 => ?_) (fun c2 => ?_)
            · have c2n : 8 ≤ q := (nI_leI (a := 8) (b := q) (by omega) (by omega)).mp c2
              refine lv_iload_n hx hb dX8_toldBy_65 rfl (lv_at hl 2 rfl) ?_
              refine lv_if_ne (tgt := 74) hx hb dX8_toldBy_66 (by decide) (fun c3 => ?_) (fun c3 => ?_)
              · have c3n : ¬ i = 0 := fun h => c3 ((nI_eq (a := i) (b := 0) (by omega) (by omega)).mpr h)
                refine lv_iload_n hx hb dX8_toldBy_74 rfl (lv_at hl 2 rfl) ?_
                exact kiret (()) hQ hx hb hr hlocks hP hS dX8_toldBy_75 (by have hz : mZe w (8 - i) i = true := by { rw [← hz0]; rw [show 8 - q = 0 by omega]; rfl }; unfold mTold; rw [hby]; dsimp only; rw [hz, if_pos rfl, if_neg c3n])
              · have c3n : i = 0 := (nI_eq (a := i) (b := 0) (by omega) (by omega)).mp c3
                refine lv_bipush (v := (-2)) hx hb dX8_toldBy_69 (by decide) ?_
                refine lv_goto (tgt := 75) hx hb dX8_toldBy_71 (by decide) ?_
                exact kiret (()) hQ hx hb hr hlocks hP hS dX8_toldBy_75 (by have hz : mZe w (8 - i) i = true := by { rw [← hz0]; rw [show 8 - q = 0 by omega]; rfl }; unfold mTold; rw [hby]; dsimp only; rw [hz, if_pos rfl, if_pos c3n])
            · have c2n : ¬ 8 ≤ q := fun h => c2 ((nI_leI (a := 8) (b := q) (by omega) (by omega)).mpr h)
              refine lv_lload_n hx hb dX8_toldBy_48 rfl (lv_at hl 1 rfl) ?_
              refine lv_iload_n hx hb dX8_toldBy_49 rfl (lv_at hl 0 rfl) ?_
              refine kc_i (krS (As := [.long w, .int (nI q)]) (rest := []) (c_X8_byteOf l D Y w q) ⟨hx, hb, hml, hown, hta⟩ (cwX8_155 hta ⟨Nat.le_of_ble_eq_true rfl, Nat.le_of_ble_eq_true rfl⟩) kX0b (fun _ _ _ => trivial) hK hNs hP hD (kJ_nil) rfl hl.1 rfl (Nat.le_of_ble_eq_true rfl) dX8_toldBy_50 ⟨Nat.le_of_ble_eq_true rfl, Nat.le_of_ble_eq_true rfl⟩) hP hD hS hA (kJ_nil) (fun _ => rfl) (fun r4 u H locs hw hP hD hS => ?_)
              subst hw
              have hP : va_P D vwCl ([]) H := hP
              have hD : va_D A ([]) := hD
              refine lv_if_eq (tgt := 59) hx hb dX8_toldBy_53 (by decide) (fun c5 => ?_) (fun c5 => ?_)
              · refine lv_iinc (v := nI (q + 1)) (lv' := [(3, .int (nI (q + 1))), (0, .long w), (2, .int (nI i))]) hx hb dX8_toldBy_59 hl (k := 0) rfl (nI_add q 1) (by decide) rfl (fun ls hl => ?_)
                refine lv_goto (tgt := 42) hx hb dX8_toldBy_62 (by decide) ?_
                exact ih (q + 1) (by omega) (by rw [← hz0]; rw [show 8 - q = (8 - (q + 1)) + 1 by omega]; exact (if_pos c5).symm) (by omega) _ _ hP hD hS ls (lv_sub hl [0, 1, 2] rfl)
              · refine lv_bipush (v := (-2)) hx hb dX8_toldBy_56 (by decide) ?_
                exact kiret (()) hQ hx hb hr hlocks hP hS dX8_toldBy_58 (by have hz : mZe w (8 - i) i = false := by { rw [← hz0]; rw [show 8 - q = (8 - (q + 1)) + 1 by omega]; exact if_neg c5 }; unfold mTold; rw [hby]; dsimp only; rw [hz]; rfl)
        exact loop42 ((8 - i) + 1) i (Nat.lt_succ_self _) rfl (by omega) _ _ hP hD hS ls (lv_sub hl [0, 2, 1] rfl)
      · have c1n : ¬ 8 ≤ i := fun h => c1 ((nI_leI (a := 8) (b := i) (by omega) (by omega)).mpr h)
        refine lv_lload_n hx hb dX8_toldBy_8 rfl (lv_at hl 1 rfl) ?_
        refine lv_iload_n hx hb dX8_toldBy_9 rfl (lv_at hl 0 rfl) ?_
        refine kc_i (krS (As := [.long w, .int (nI i)]) (rest := []) (c_X8_byteOf l D Y w i) ⟨hx, hb, hml, hown, hta⟩ (cwX8_155 hta ⟨Nat.le_of_ble_eq_true rfl, Nat.le_of_ble_eq_true rfl⟩) kX0b (fun _ _ _ => trivial) hK hNs hP hD (kJ_nil) rfl hl.1 rfl (Nat.le_of_ble_eq_true rfl) dX8_toldBy_10 ⟨Nat.le_of_ble_eq_true rfl, Nat.le_of_ble_eq_true rfl⟩) hP hD hS hA (kJ_nil) (fun _ => rfl) (fun r6 u H locs hw hP hD hS => ?_)
        subst hw
        have hP : va_P D vwCl ([]) H := hP
        have hD : va_D A ([]) := hD
        refine lv_if_eq (tgt := 40) hx hb dX8_toldBy_13 (by decide) (fun c7 => ?_) (fun c7 => ?_)
        · have hby : mBy w 8 0 = some i := by rw [← hr0]; rw [show 8 - i = (8 - (i + 1)) + 1 by omega]; exact if_pos c7
          refine lv_iload_n hx hb dX8_toldBy_40 rfl (lv_at hl 0 rfl) ?_
          refine lv_istore_n (lv' := [(3, .int (nI i)), (2, .int (nI i)), (0, .long w)]) hx hb dX8_toldBy_41 rfl hl (by decide) rfl (fun ls hl => ?_)
          have loop42 : ∀ (n : Nat) (q : Nat), 8 - q < n → mZe w (8 - q) q = mZe w (8 - i) i → q ≤ 8 → ∀ (H : Heap) (locs : List Loc), va_P D vwCl ([]) H → va_D A ([]) → va_S A s0.heap H locs → ∀ (ls : Array Slot), lv_has ls 4 [(3, .int (nI q)), (0, .long w), (2, .int (nI i))] → W p l e rX8_toldBy s0 m args below meth c H locs 0 0 Q (F0 m 42 ls []) := by
            intro n
            induction n with
            | zero => intro q hmu; exact absurd hmu (Nat.not_lt_zero _)
            | succ n ih =>
              intro q hmu hz0 hq H locs hP hD hS ls hl
              refine lv_iload_n hx hb dX8_toldBy_42 rfl (lv_at hl 0 rfl) ?_
              refine lv_bipush (v := 8) hx hb dX8_toldBy_43 (by decide) ?_
              refine lv_icmp_ge (tgt := 65) hx hb dX8_toldBy_45 (by decide) (fun c8 => ?_) (fun c8 => ?_)
              · have c8n : 8 ≤ q := (nI_leI (a := 8) (b := q) (by omega) (by omega)).mp c8
                refine lv_iload_n hx hb dX8_toldBy_65 rfl (lv_at hl 2 rfl) ?_
                refine lv_if_ne (tgt := 74) hx hb dX8_toldBy_66 (by decide) (fun c9 => ?_) (fun c9 => ?_)
                · have c9n : ¬ i = 0 := fun h => c9 ((nI_eq (a := i) (b := 0) (by omega) (by omega)).mpr h)
                  refine lv_iload_n hx hb dX8_toldBy_74 rfl (lv_at hl 2 rfl) ?_
                  exact kiret (()) hQ hx hb hr hlocks hP hS dX8_toldBy_75 (by have hz : mZe w (8 - i) i = true := by { rw [← hz0]; rw [show 8 - q = 0 by omega]; rfl }; unfold mTold; rw [hby]; dsimp only; rw [hz, if_pos rfl, if_neg c9n])
                · have c9n : i = 0 := (nI_eq (a := i) (b := 0) (by omega) (by omega)).mp c9
                  refine lv_bipush (v := (-2)) hx hb dX8_toldBy_69 (by decide) ?_
                  refine lv_goto (tgt := 75) hx hb dX8_toldBy_71 (by decide) ?_
                  exact kiret (()) hQ hx hb hr hlocks hP hS dX8_toldBy_75 (by have hz : mZe w (8 - i) i = true := by { rw [← hz0]; rw [show 8 - q = 0 by omega]; rfl }; unfold mTold; rw [hby]; dsimp only; rw [hz, if_pos rfl, if_pos c9n])
              · have c8n : ¬ 8 ≤ q := fun h => c8 ((nI_leI (a := 8) (b := q) (by omega) (by omega)).mpr h)
                refine lv_lload_n hx hb dX8_toldBy_48 rfl (lv_at hl 1 rfl) ?_
                refine lv_iload_n hx hb dX8_toldBy_49 rfl (lv_at hl 0 rfl) ?_
                refine kc_i (krS (As := [.long w, .int (nI q)]) (rest := []) (c_X8_byteOf l D Y w q) ⟨hx, hb, hml, hown, hta⟩ (cwX8_155 hta ⟨Nat.le_of_ble_eq_true rfl, Nat.le_of_ble_eq_true rfl⟩) kX0b (fun _ _ _ => trivial) hK hNs hP hD (kJ_nil) rfl hl.1 rfl (Nat.le_of_ble_eq_true rfl) dX8_toldBy_50 ⟨Nat.le_of_ble_eq_true rfl, Nat.le_of_ble_eq_true rfl⟩) hP hD hS hA (kJ_nil) (fun _ => rfl) (fun r10 u H locs hw hP hD hS => ?_)
                subst hw
                have hP : va_P D vwCl ([]) H := hP
                have hD : va_D A ([]) := hD
                refine lv_if_eq (tgt := 59) hx hb dX8_toldBy_53 (by decide) (fun c11 => ?_) (fun c11 => ?_)
                · refine lv_iinc (v := nI (q + 1)) (lv' := [(3, .int (nI (q + 1))), (0, .long w), (2, .int (nI i))]) hx hb dX8_toldBy_59 hl (k := 0) rfl (nI_add q 1) (by decide) rfl (fun ls hl => ?_)
                  refine lv_goto (tgt := 42) hx hb dX8_toldBy_62 (by decide) ?_
                  exact ih (q + 1) (by omega) (by rw [← hz0]; rw [show 8 - q = (8 - (q + 1)) + 1 by omega]; exact (if_pos c11).symm) (by omega) _ _ hP hD hS ls (lv_sub hl [0, 1, 2] rfl)
                · refine lv_bipush (v := (-2)) hx hb dX8_toldBy_56 (by decide) ?_
                  exact kiret (()) hQ hx hb hr hlocks hP hS dX8_toldBy_58 (by have hz : mZe w (8 - i) i = false := by { rw [← hz0]; rw [show 8 - q = (8 - (q + 1)) + 1 by omega]; exact if_neg c11 }; unfold mTold; rw [hby]; dsimp only; rw [hz]; rfl)
          exact loop42 ((8 - i) + 1) i (Nat.lt_succ_self _) rfl (by omega) _ _ hP hD hS ls (lv_sub hl [0, 2, 1] rfl)
        · refine lv_lload_n hx hb dX8_toldBy_16 rfl (lv_at hl 1 rfl) ?_
          refine lv_iload_n hx hb dX8_toldBy_17 rfl (lv_at hl 0 rfl) ?_
          refine kc_i (krS (As := [.long w, .int (nI i)]) (rest := []) (c_X8_byteOf l D Y w i) ⟨hx, hb, hml, hown, hta⟩ (cwX8_155 hta ⟨Nat.le_of_ble_eq_true rfl, Nat.le_of_ble_eq_true rfl⟩) kX0b (fun _ _ _ => trivial) hK hNs hP hD (kJ_nil) rfl hl.1 rfl (Nat.le_of_ble_eq_true rfl) dX8_toldBy_18 ⟨Nat.le_of_ble_eq_true rfl, Nat.le_of_ble_eq_true rfl⟩) hP hD hS hA (kJ_nil) (fun _ => rfl) (fun r12 u H locs hw hP hD hS => ?_)
          subst hw
          have hP : va_P D vwCl ([]) H := hP
          have hD : va_D A ([]) := hD
          refine lv_bipush (v := 33) hx hb dX8_toldBy_21 (by decide) ?_
          refine lv_bipush (v := 126) hx hb dX8_toldBy_23 (by decide) ?_
          refine kc_i (krS (As := [.int (mByte w i), .int 33, .int 126]) (rest := []) (c_X8_in l D Y (mByte w i) 33 126) ⟨hx, hb, hml, hown, hta⟩ (cwX8_32 hta ⟨Nat.le_of_ble_eq_true rfl, Nat.le_of_ble_eq_true rfl⟩) kX0b (fun _ _ _ => trivial) hK hNs hP hD (kJ_nil) rfl hl.1 rfl (Nat.le_of_ble_eq_true rfl) dX8_toldBy_25 ⟨Nat.le_of_ble_eq_true rfl, Nat.le_of_ble_eq_true rfl⟩) hP hD hS hA (kJ_nil) (fun _ => rfl) (fun r13 u H locs hw hP hD hS => ?_)
          subst hw
          have hP : va_P D vwCl ([]) H := hP
          have hD : va_D A ([]) := hD
          by_cases c14 : pIn (mByte w i) 33 126
          · refine kTop (kb_t c14) ?_
            refine lv_if_ne (tgt := 34) hx hb dX8_toldBy_28 (by decide) (fun _ => ?_) (fun h => False.elim (by revert h; decide))
            refine lv_iinc (v := nI (i + 1)) (lv' := [(2, .int (nI (i + 1))), (0, .long w)]) hx hb dX8_toldBy_34 hl (k := 0) rfl (nI_add i 1) (by decide) rfl (fun ls hl => ?_)
            refine lv_goto (tgt := 2) hx hb dX8_toldBy_37 (by decide) ?_
            exact ih (i + 1) (by omega) (by rw [← hr0]; rw [show 8 - i = (8 - (i + 1)) + 1 by omega]; exact ((if_neg c7).trans (if_pos c14)).symm) (by omega) _ _ hP hD hS ls (lv_sub hl [0, 1] rfl)
          · refine kTop (kb_f c14) ?_
            refine lv_if_ne (tgt := 34) hx hb dX8_toldBy_28 (by decide) (fun h => False.elim (by revert h; decide)) (fun _ => ?_)
            refine lv_bipush (v := (-2)) hx hb dX8_toldBy_31 (by decide) ?_
            exact kiret (()) hQ hx hb hr hlocks hP hS dX8_toldBy_33 (by have hby : mBy w 8 0 = none := by { rw [← hr0]; rw [show 8 - i = (8 - (i + 1)) + 1 by omega]; exact (if_neg c7).trans (if_neg c14) }; unfold mTold; rw [hby])
  exact loop2 ((8 - 0) + 1) 0 (Nat.lt_succ_self _) rfl (by omega) _ _ hP hD hS ls (lv_sub hl [0, 1] rfl)
