set_option maxHeartbeats 4000000 in
set_option maxRecDepth 100000 in
theorem c_X5_removeStop (l : Launch) (D : va_G) (Y : Nat → ClassId) (a : Nat → Nat) (M : kN) (q : Int32) (hI : cI M) : kM l yX5_removeStop wX5_removeStop rX5_removeStop D Y (wM Y a M) [.ref (a 17), .int q] kX0 (kQi D (fun r u => r = (cDropStop M q).1 ∧ u = (cDropStop M q).2) (fun u => wM Y a u)) := by
  refine kentry (cc := cX5_removeStop) (maxL := 3) (ret := (some .int)) (by decide +kernel) rfl (Nat.le_of_ble_eq_true rfl) ?_
  intro p e s m args below meth c A Q ls hQ hx hb hr hlocks hml hown hin hta hA hX hK hNs hP hD hS hl
  have hown : s.vm.findClass RX5 = some m.cls := hown
  have hl : lv_has ls 3 [(0, .ref (a 17)), (1, .int q)] := hl
  have h5 := hI.s5
  refine lv_iload_n hx hb dX5_removeStop_0 rfl (lv_at hl 1 rfl) ?_
  refine lv_iconst (v := 0) hx hb dX5_removeStop_1 (by decide) ?_
  refine lv_aload_n hx hb dX5_removeStop_2 rfl (lv_at hl 0 rfl) ?_
  refine gfX5_18 (v := .int (M 19 5)) hx hb hta hown hK hP 17 rfl rfl dX5_removeStop_3 ?_
  refine kTop hI.s ?_
  refine lv_iconst (v := 1) hx hb dX5_removeStop_6 (by decide) ?_
  refine lv_isub hx hb dX5_removeStop_7 ?_
  refine kc_i (krSN (As := [.int q, .int 0, .int ((nI (nS M)) - 1)]) (rest := []) (c_X7_isWithin l D Y q 0 ((nI (nS M)) - 1)) ⟨hx, hb, hml, hown, hta⟩ (cwX5_26 hta hNs ⟨Nat.le_of_ble_eq_true rfl, Nat.le_of_ble_eq_true rfl⟩) kX0b (fun _ _ _ => trivial) hK hNs hP hD (kJ_nil) rfl hl.1 rfl (Nat.le_of_ble_eq_true rfl) dX5_removeStop_8 ⟨Nat.le_of_ble_eq_true rfl, Nat.le_of_ble_eq_true rfl⟩) hP hD hS hA (kJ_nil) (fun _ => rfl) (fun r1 u H locs hw hP hD hS => ?_)
  subst hw
  have hP : va_P D vwCl (wM Y a M) H := hP
  have hD : va_D A (wM Y a M) := hD
  by_cases c2 : pIn q 0 ((nI (nS M)) - 1)
  · refine kTop (kb_t c2) ?_
    refine lv_if_ne (tgt := 16) hx hb dX5_removeStop_11 (by decide) (fun _ => ?_) (fun h => False.elim (by revert h; decide))
    obtain ⟨k, rfl, hk⟩ := pIn_lt (by omega) c2
    refine lv_iload_n hx hb dX5_removeStop_16 rfl (lv_at hl 1 rfl) ?_
    refine lv_iconst (v := 1) hx hb dX5_removeStop_17 (by decide) ?_
    refine lv_iadd hx hb dX5_removeStop_18 ?_
    refine kTop (nI_add k 1) ?_
    refine lv_istore_n (lv' := [(2, .int (nI (k + 1))), (0, .ref (a 17)), (1, .int (nI k))]) hx hb dX5_removeStop_19 rfl hl (by decide) rfl (fun ls hl => ?_)
    have loop20 : ∀ (n : Nat) (j : Nat) (N : kN), nS M - (k + 1 + j) < n → cDropSTo M k j = N → k + 1 + j ≤ nS M → ∀ (H : Heap) (locs : List Loc), va_P D vwCl (wM Y a N) H → va_D A (wM Y a N) → va_S A s.heap H locs → ∀ (ls : Array Slot), lv_has ls 3 [(2, .int (nI (k + 1 + j))), (0, .ref (a 17)), (1, .int (nI k))] → W p l e rX5_removeStop s m args below meth c H locs 0 0 Q (F0 m 20 ls []) := by
      intro n
      induction n with
      | zero => intro j N hmu; exact absurd hmu (Nat.not_lt_zero _)
      | succ n ih =>
        intro j N hmu hN hj H locs hP hD hS ls hl
        have e5 : N 19 5 = nI (nS M) := by rw [← hN, cDropSTo_o M k (by decide) (by decide)]; exact hI.s
        refine lv_iload_n hx hb dX5_removeStop_20 rfl (lv_at hl 0 rfl) ?_
        refine lv_aload_n hx hb dX5_removeStop_21 rfl (lv_at hl 1 rfl) ?_
        refine gfX5_18 (v := .int (N 19 5)) hx hb hta hown hK hP 17 rfl rfl dX5_removeStop_22 ?_
        refine kTop e5 ?_
        refine lv_icmp_ge (tgt := 62) hx hb dX5_removeStop_25 (by decide) (fun c3 => ?_) (fun c3 => ?_)
        · have c3n : (nS M) ≤ (k + 1 + j) := (nI_leI (a := nS M) (b := k + 1 + j) (by omega) (by omega)).mp c3
          refine lv_aload_n hx hb dX5_removeStop_62 rfl (lv_at hl 1 rfl) ?_
          refine lv_dup hx hb dX5_removeStop_63 rfl ?_
          refine gfX5_18 (v := .int (N 19 5)) hx hb hta hown hK hP 17 rfl rfl dX5_removeStop_64 ?_
          refine kTop e5 ?_
          refine lv_iconst (v := 1) hx hb dX5_removeStop_67 (by decide) ?_
          refine lv_isub hx hb dX5_removeStop_68 ?_
          refine pfX5_18 (ws1 := wM Y a (sM N 19 5 ((nI (nS M)) - 1))) hx hb hta hown hK hP hD hS 17 rfl (Nat.le_of_ble_eq_true rfl) rfl dX5_removeStop_69 (fun H locs hP hD hS => ?_)
          refine lv_aload_n hx hb dX5_removeStop_72 rfl (lv_at hl 1 rfl) ?_
          refine gfX5_18 (v := .int ((nI (nS M)) - 1)) hx hb hta hown hK hP 17 rfl rfl dX5_removeStop_73 ?_
          exact kiret (sM N 19 5 ((nI (nS M)) - 1)) hQ hx hb hr hlocks hP hS dX5_removeStop_76 (by have hj2 : j = nS M - (k + 1) := (by omega); subst hj2; unfold cDropStop; rw [hI.s, if_pos c2, nI_clamp (by omega), hN]; exact ⟨rfl, rfl⟩)
        · have c3n : ¬ (nS M) ≤ (k + 1 + j) := fun h => c3 ((nI_leI (a := nS M) (b := k + 1 + j) (by omega) (by omega)).mpr h)
          refine lv_aload_n hx hb dX5_removeStop_28 rfl (lv_at hl 1 rfl) ?_
          refine gfX5_9 (v := .ref (a 18)) hx hb hta hown hK hP 17 rfl rfl dX5_removeStop_29 ?_
          refine lv_iload_n hx hb dX5_removeStop_32 rfl (lv_at hl 0 rfl) ?_
          refine lv_iconst (v := 1) hx hb dX5_removeStop_33 (by decide) ?_
          refine lv_isub hx hb dX5_removeStop_34 ?_
          refine kTop (y := nI (k + j)) ((pk_sub (a := k + 1 + j) (b := 1) (by omega)).trans (congrArg nI (by omega))) ?_
          refine lv_aload_n hx hb dX5_removeStop_35 rfl (lv_at hl 1 rfl) ?_
          refine gfX5_9 (v := .ref (a 18)) hx hb hta hown hK hP 17 rfl rfl dX5_removeStop_36 ?_
          refine lv_iload_n hx hb dX5_removeStop_39 rfl (lv_at hl 0 rfl) ?_
          refine kiald (f := N 14) hx hb hK hP 18 rfl (k + 1 + j) rfl (by omega) (by omega) dX5_removeStop_40 ?_
          refine kiast (f := N 14) hx hb hK hP hD hS 18 rfl (k + j) rfl (by omega) (by omega) dX5_removeStop_41 (wM Y a (sM N 14 (k + j) (N 14 (k + 1 + j)))) rfl (fun H locs hP hD hS => ?_)
          refine lv_aload_n hx hb dX5_removeStop_42 rfl (lv_at hl 1 rfl) ?_
          refine gfX5_15 (v := .ref (a 19)) hx hb hta hown hK hP 17 rfl rfl dX5_removeStop_43 ?_
          refine lv_iload_n hx hb dX5_removeStop_46 rfl (lv_at hl 0 rfl) ?_
          refine lv_iconst (v := 1) hx hb dX5_removeStop_47 (by decide) ?_
          refine lv_isub hx hb dX5_removeStop_48 ?_
          refine kTop (y := nI (k + j)) ((pk_sub (a := k + 1 + j) (b := 1) (by omega)).trans (congrArg nI (by omega))) ?_
          refine lv_aload_n hx hb dX5_removeStop_49 rfl (lv_at hl 1 rfl) ?_
          refine gfX5_15 (v := .ref (a 19)) hx hb hta hown hK hP 17 rfl rfl dX5_removeStop_50 ?_
          refine lv_iload_n hx hb dX5_removeStop_53 rfl (lv_at hl 0 rfl) ?_
          refine kiald (f := N 15) hx hb hK hP 19 rfl (k + 1 + j) rfl (by omega) (by omega) dX5_removeStop_54 ?_
          refine kiast (f := N 15) hx hb hK hP hD hS 19 rfl (k + j) rfl (by omega) (by omega) dX5_removeStop_55 (wM Y a (sM (sM N 14 (k + j) (N 14 (k + 1 + j))) 15 (k + j) (N 15 (k + 1 + j)))) rfl (fun H locs hP hD hS => ?_)
          refine lv_iinc (v := nI (k + 1 + j + 1)) (lv' := [(2, .int (nI (k + 1 + j + 1))), (0, .ref (a 17)), (1, .int (nI k))]) hx hb dX5_removeStop_56 hl (k := 0) rfl (nI_add (k + 1 + j) 1) (by decide) rfl (fun ls hl => ?_)
          refine lv_goto (tgt := 20) hx hb dX5_removeStop_59 (by decide) ?_
          exact ih (j + 1) (sM (sM N 14 (k + j) (N 14 (k + 1 + j))) 15 (k + j) (N 15 (k + 1 + j))) (by omega) (by rw [← hN]; rfl) (by omega) _ _ hP hD hS ls (lv_sub hl [0, 1, 2] rfl)
    exact loop20 ((nS M - (k + 1 + 0)) + 1) 0 M (Nat.lt_succ_self _) rfl (by omega) _ _ hP hD hS ls (lv_sub hl [0, 1, 2] rfl)
  · refine kTop (kb_f c2) ?_
    refine lv_if_ne (tgt := 16) hx hb dX5_removeStop_11 (by decide) (fun h => False.elim (by revert h; decide)) (fun _ => ?_)
    refine lv_iconst (v := (-1)) hx hb dX5_removeStop_14 (by decide) ?_
    exact kiret (M) hQ hx hb hr hlocks hP hS dX5_removeStop_15 (by unfold cDropStop; rw [hI.s, if_neg c2]; exact ⟨rfl, rfl⟩)
