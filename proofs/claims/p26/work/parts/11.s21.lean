set_option maxHeartbeats 4000000 in
set_option maxRecDepth 100000 in
theorem c_X0_setOf (l : Launch) (D : va_G) (Y : Nat → ClassId) (a : Nat → Nat) (M : kN) (h d : Int32) (hI : cI M) : kM l yX0_setOf wX0_setOf rX0_setOf D Y (wM Y a M) [.ref (a 8), .int h, .int d] kX0 (kQl D (fun r (_ : Unit) => r = cSetTo M h d (nF M)) (fun _ => wM Y a M)) := by
  refine kentry (cc := cX0_setOf) (maxL := 6) (ret := (some .long)) (by decide +kernel) rfl (Nat.le_of_ble_eq_true rfl) ?_
  intro p e s m args below meth c A Q ls hQ hx hb hr hlocks hml hown hin hta hA hX hK hNs hP hD hS hl
  have hown : s.vm.findClass RX0 = some m.cls := hown
  have hl : lv_has ls 6 [(0, .ref (a 8)), (1, .int h), (2, .int d)] := hl
  have h30 := hI.f30
  refine lv_lconst (v := 0) hx hb dX0_setOf_0 (by decide) ?_
  refine lv_lstore_n (lv' := [(3, .long 0), (0, .ref (a 8)), (1, .int h), (2, .int d)]) hx hb dX0_setOf_1 rfl hl (by decide) rfl (fun ls hl => ?_)
  refine lv_iconst (v := 0) hx hb dX0_setOf_2 (by decide) ?_
  refine lv_istore (lv' := [(5, .int 0), (3, .long 0), (0, .ref (a 8)), (1, .int h), (2, .int d)]) hx hb dX0_setOf_3 hl (by decide) rfl (fun ls hl => ?_)
  have loop5 : ∀ (n : Nat) (k : Nat), nF M - k < n → k ≤ nF M → ∀ (H : Heap) (locs : List Loc), va_P D vwCl (wM Y a M) H → va_D A (wM Y a M) → va_S A s.heap H locs → ∀ (ls : Array Slot), lv_has ls 6 [(5, .int (nI k)), (3, .long (cSetTo M h d k)), (0, .ref (a 8)), (1, .int h), (2, .int d)] → W p l e rX0_setOf s m args below meth c H locs 0 0 Q (F0 m 5 ls []) := by
    intro n
    induction n with
    | zero => intro k hmu; exact absurd hmu (Nat.not_lt_zero _)
    | succ n ih =>
      intro k hmu hk H locs hP hD hS ls hl
      refine lv_iload hx hb dX0_setOf_5 (lv_at hl 0 rfl) ?_
      refine lv_aload_n hx hb dX0_setOf_7 rfl (lv_at hl 2 rfl) ?_
      refine gfX0_36 (v := .int (M 19 4)) hx hb hta hown hK hP 8 rfl rfl dX0_setOf_8 ?_
      refine kTop hI.f ?_
      refine lv_icmp_ge (tgt := 38) hx hb dX0_setOf_11 (by decide) (fun c1 => ?_) (fun c1 => ?_)
      · have c1n : (nF M) ≤ k := (nI_leI (a := nF M) (b := k) (by omega) (by omega)).mp c1
        refine lv_lload_n hx hb dX0_setOf_38 rfl (lv_at hl 1 rfl) ?_
        exact klret (()) hQ hx hb hr hlocks hP hS dX0_setOf_39 (by have hk2 : k = nF M := (by omega); rw [hk2])
      · have c1n : ¬ (nF M) ≤ k := fun h => c1 ((nI_leI (a := nF M) (b := k) (by omega) (by omega)).mpr h)
        refine lv_aload_n hx hb dX0_setOf_14 rfl (lv_at hl 2 rfl) ?_
        refine lv_iload hx hb dX0_setOf_15 (lv_at hl 0 rfl) ?_
        refine lv_iload_n hx hb dX0_setOf_17 rfl (lv_at hl 4 rfl) ?_
        refine kc_i (krV (As := [.int (nI k), .int d]) (rest := []) (c_X0_howItIs l D Y a M k d (by omega)) ⟨hx, hb, hml, hown, hta⟩ (cwX0_50 hta ⟨Nat.le_of_ble_eq_true rfl, Nat.le_of_ble_eq_true rfl⟩) kX0b (fun _ _ _ => trivial) hK hNs hP hD (kJ_all) (q0 := 8) rfl rfl rfl rfl hl.1 rfl (Nat.le_of_ble_eq_true rfl) dX0_setOf_18 ⟨Nat.le_of_ble_eq_true rfl, Nat.le_of_ble_eq_true rfl⟩) hP hD hS hA (kJ_all) (fun _ => rfl) (fun r2 u H locs hw hP hD hS => ?_)
        subst hw
        have hP : va_P D vwCl (wM Y a M) H := hP
        have hD : va_D A (wM Y a M) := hD
        refine lv_iload_n hx hb dX0_setOf_21 rfl (lv_at hl 3 rfl) ?_
        refine lv_icmp_ne (tgt := 32) hx hb dX0_setOf_22 (by decide) (fun c3 => ?_) (fun c3 => ?_)
        · refine lv_iinc (v := nI (k + 1)) (lv' := [(5, .int (nI (k + 1))), (3, .long (cSetTo M h d k)), (0, .ref (a 8)), (1, .int h), (2, .int d)]) hx hb dX0_setOf_32 hl (k := 0) rfl (nI_add k 1) (by decide) rfl (fun ls hl => ?_)
          refine lv_goto (tgt := 5) hx hb dX0_setOf_35 (by decide) ?_
          have hsum : cSetTo M h d k = cSetTo M h d (k + 1) := (show (if cHow M k d = h then cSetTo M h d k ||| ((1 : Int64) <<< ((nI k).toInt64 &&& 63)) else cSetTo M h d k) = _ from if_neg c3).symm
          rw [hsum] at hl
          exact ih (k + 1) (by omega) (by omega) _ _ hP hD hS ls (lv_sub hl [0, 1, 2, 3, 4] rfl)
        · refine lv_lload_n hx hb dX0_setOf_25 rfl (lv_at hl 1 rfl) ?_
          refine lv_lconst (v := 1) hx hb dX0_setOf_26 (by decide) ?_
          refine lv_iload hx hb dX0_setOf_27 (lv_at hl 0 rfl) ?_
          refine lv_lshl (v := 1 <<< ((nI k).toInt64 &&& 63)) hx hb dX0_setOf_29 rfl ?_
          refine lv_lor hx hb dX0_setOf_30 ?_
          refine lv_lstore_n (lv' := [(3, .long ((cSetTo M h d k) ||| (1 <<< ((nI k).toInt64 &&& 63)))), (5, .int (nI k)), (0, .ref (a 8)), (1, .int h), (2, .int d)]) hx hb dX0_setOf_31 rfl hl (by decide) rfl (fun ls hl => ?_)
          refine lv_iinc (v := nI (k + 1)) (lv' := [(5, .int (nI (k + 1))), (3, .long ((cSetTo M h d k) ||| (1 <<< ((nI k).toInt64 &&& 63)))), (0, .ref (a 8)), (1, .int h), (2, .int d)]) hx hb dX0_setOf_32 hl (k := 1) rfl (nI_add k 1) (by decide) rfl (fun ls hl => ?_)
          refine lv_goto (tgt := 5) hx hb dX0_setOf_35 (by decide) ?_
          have hsum : (cSetTo M h d k) ||| (1 <<< ((nI k).toInt64 &&& 63)) = cSetTo M h d (k + 1) := (show (if cHow M k d = h then cSetTo M h d k ||| ((1 : Int64) <<< ((nI k).toInt64 &&& 63)) else cSetTo M h d k) = _ from if_pos c3).symm
          rw [hsum] at hl
          exact ih (k + 1) (by omega) (by omega) _ _ hP hD hS ls (lv_sub hl [0, 1, 2, 3, 4] rfl)
  exact loop5 ((nF M - 0) + 1) 0 (Nat.lt_succ_self _) (by omega) _ _ hP hD hS ls (lv_sub hl [0, 1, 2, 3, 4] rfl)
