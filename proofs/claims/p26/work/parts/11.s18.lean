set_option maxHeartbeats 4000000 in
set_option maxRecDepth 100000 in
theorem c_X0_burntCaneOf (l : Launch) (D : va_G) (Y : Nat → ClassId) (a : Nat → Nat) (M : kN) (g d : Int32) (hI : cI M) : kM l yX0_burntCaneOf wX0_burntCaneOf rX0_burntCaneOf D Y (wM Y a M) [.ref (a 8), .int g, .int d] kX0 (kQi D (fun r (_ : Unit) => r = cBurntTo M g d (nF M)) (fun _ => wM Y a M)) := by
  refine kentry (cc := cX0_burntCaneOf) (maxL := 5) (ret := (some .int)) (by decide +kernel) rfl (Nat.le_of_ble_eq_true rfl) ?_
  intro p e s m args below meth c A Q ls hQ hx hb hr hlocks hml hown hin hta hA hX hK hNs hP hD hS hl
  have hown : s.vm.findClass RX0 = some m.cls := hown
  have hl : lv_has ls 5 [(0, .ref (a 8)), (1, .int g), (2, .int d)] := hl
  have h30 := hI.f30
  refine lv_iconst (v := 0) hx hb dX0_burntCaneOf_0 (by decide) ?_
  refine lv_istore_n (lv' := [(3, .int 0), (0, .ref (a 8)), (1, .int g), (2, .int d)]) hx hb dX0_burntCaneOf_1 rfl hl (by decide) rfl (fun ls hl => ?_)
  refine lv_iconst (v := 0) hx hb dX0_burntCaneOf_2 (by decide) ?_
  refine lv_istore (lv' := [(4, .int 0), (3, .int 0), (0, .ref (a 8)), (1, .int g), (2, .int d)]) hx hb dX0_burntCaneOf_3 hl (by decide) rfl (fun ls hl => ?_)
  have loop5 : ∀ (n : Nat) (k : Nat), nF M - k < n → k ≤ nF M → ∀ (H : Heap) (locs : List Loc), va_P D vwCl (wM Y a M) H → va_D A (wM Y a M) → va_S A s.heap H locs → ∀ (ls : Array Slot), lv_has ls 5 [(4, .int (nI k)), (3, .int (cBurntTo M g d k)), (0, .ref (a 8)), (1, .int g), (2, .int d)] → W p l e rX0_burntCaneOf s m args below meth c H locs 0 0 Q (F0 m 5 ls []) := by
    intro n
    induction n with
    | zero => intro k hmu; exact absurd hmu (Nat.not_lt_zero _)
    | succ n ih =>
      intro k hmu hk H locs hP hD hS ls hl
      refine lv_iload hx hb dX0_burntCaneOf_5 (lv_at hl 0 rfl) ?_
      refine lv_aload_n hx hb dX0_burntCaneOf_7 rfl (lv_at hl 2 rfl) ?_
      refine gfX0_36 (v := .int (M 19 4)) hx hb hta hown hK hP 8 rfl rfl dX0_burntCaneOf_8 ?_
      refine kTop hI.f ?_
      refine lv_icmp_ge (tgt := 52) hx hb dX0_burntCaneOf_11 (by decide) (fun c1 => ?_) (fun c1 => ?_)
      · have c1n : (nF M) ≤ k := (nI_leI (a := nF M) (b := k) (by omega) (by omega)).mp c1
        refine lv_iload_n hx hb dX0_burntCaneOf_52 rfl (lv_at hl 1 rfl) ?_
        exact kiret (()) hQ hx hb hr hlocks hP hS dX0_burntCaneOf_53 (by have hk2 : k = nF M := (by omega); rw [hk2])
      · have c1n : ¬ (nF M) ≤ k := fun h => c1 ((nI_leI (a := nF M) (b := k) (by omega) (by omega)).mpr h)
        refine lv_aload_n hx hb dX0_burntCaneOf_14 rfl (lv_at hl 2 rfl) ?_
        refine gfX0_9 (v := .ref (a 9)) hx hb hta hown hK hP 8 rfl rfl dX0_burntCaneOf_15 ?_
        refine lv_iload hx hb dX0_burntCaneOf_18 (lv_at hl 0 rfl) ?_
        refine kiald (f := M 6) hx hb hK hP 9 rfl k rfl (by omega) (by omega) dX0_burntCaneOf_20 ?_
        refine lv_iload_n hx hb dX0_burntCaneOf_21 rfl (lv_at hl 3 rfl) ?_
        refine lv_icmp_ne (tgt := 46) hx hb dX0_burntCaneOf_22 (by decide) (fun c2 => ?_) (fun c2 => ?_)
        · refine lv_iinc (v := nI (k + 1)) (lv' := [(4, .int (nI (k + 1))), (3, .int (cBurntTo M g d k)), (0, .ref (a 8)), (1, .int g), (2, .int d)]) hx hb dX0_burntCaneOf_46 hl (k := 0) rfl (nI_add k 1) (by decide) rfl (fun ls hl => ?_)
          refine lv_goto (tgt := 5) hx hb dX0_burntCaneOf_49 (by decide) ?_
          have hsum : cBurntTo M g d k = cBurntTo M g d (k + 1) := (show (if M 6 k = g ∧ cHow M k d = 1 then cBurntTo M g d k + M 10 k else cBurntTo M g d k) = _ from if_neg (fun h => c2 h.1)).symm
          rw [hsum] at hl
          exact ih (k + 1) (by omega) (by omega) _ _ hP hD hS ls (lv_sub hl [0, 1, 2, 3, 4] rfl)
        · refine lv_aload_n hx hb dX0_burntCaneOf_25 rfl (lv_at hl 2 rfl) ?_
          refine lv_iload hx hb dX0_burntCaneOf_26 (lv_at hl 0 rfl) ?_
          refine lv_iload_n hx hb dX0_burntCaneOf_28 rfl (lv_at hl 4 rfl) ?_
          refine kc_i (krV (As := [.int (nI k), .int d]) (rest := []) (c_X0_howItIs l D Y a M k d (by omega)) ⟨hx, hb, hml, hown, hta⟩ (cwX0_50 hta ⟨Nat.le_of_ble_eq_true rfl, Nat.le_of_ble_eq_true rfl⟩) kX0b (fun _ _ _ => trivial) hK hNs hP hD (kJ_all) (q0 := 8) rfl rfl rfl rfl hl.1 rfl (Nat.le_of_ble_eq_true rfl) dX0_burntCaneOf_29 ⟨Nat.le_of_ble_eq_true rfl, Nat.le_of_ble_eq_true rfl⟩) hP hD hS hA (kJ_all) (fun _ => rfl) (fun r3 u H locs hw hP hD hS => ?_)
          subst hw
          have hP : va_P D vwCl (wM Y a M) H := hP
          have hD : va_D A (wM Y a M) := hD
          refine lv_iconst (v := 1) hx hb dX0_burntCaneOf_32 (by decide) ?_
          refine lv_icmp_ne (tgt := 46) hx hb dX0_burntCaneOf_33 (by decide) (fun c4 => ?_) (fun c4 => ?_)
          · refine lv_iinc (v := nI (k + 1)) (lv' := [(4, .int (nI (k + 1))), (3, .int (cBurntTo M g d k)), (0, .ref (a 8)), (1, .int g), (2, .int d)]) hx hb dX0_burntCaneOf_46 hl (k := 0) rfl (nI_add k 1) (by decide) rfl (fun ls hl => ?_)
            refine lv_goto (tgt := 5) hx hb dX0_burntCaneOf_49 (by decide) ?_
            have hsum : cBurntTo M g d k = cBurntTo M g d (k + 1) := (show (if M 6 k = g ∧ cHow M k d = 1 then cBurntTo M g d k + M 10 k else cBurntTo M g d k) = _ from if_neg (fun h => c4 h.2)).symm
            rw [hsum] at hl
            exact ih (k + 1) (by omega) (by omega) _ _ hP hD hS ls (lv_sub hl [0, 1, 2, 3, 4] rfl)
          · refine lv_iload_n hx hb dX0_burntCaneOf_36 rfl (lv_at hl 1 rfl) ?_
            refine lv_aload_n hx hb dX0_burntCaneOf_37 rfl (lv_at hl 2 rfl) ?_
            refine gfX0_24 (v := .ref (a 13)) hx hb hta hown hK hP 8 rfl rfl dX0_burntCaneOf_38 ?_
            refine lv_iload hx hb dX0_burntCaneOf_41 (lv_at hl 0 rfl) ?_
            refine kiald (f := M 10) hx hb hK hP 13 rfl k rfl (by omega) (by omega) dX0_burntCaneOf_43 ?_
            refine lv_iadd hx hb dX0_burntCaneOf_44 ?_
            refine lv_istore_n (lv' := [(3, .int ((cBurntTo M g d k) + (M 10 k))), (4, .int (nI k)), (0, .ref (a 8)), (1, .int g), (2, .int d)]) hx hb dX0_burntCaneOf_45 rfl hl (by decide) rfl (fun ls hl => ?_)
            refine lv_iinc (v := nI (k + 1)) (lv' := [(4, .int (nI (k + 1))), (3, .int ((cBurntTo M g d k) + (M 10 k))), (0, .ref (a 8)), (1, .int g), (2, .int d)]) hx hb dX0_burntCaneOf_46 hl (k := 1) rfl (nI_add k 1) (by decide) rfl (fun ls hl => ?_)
            refine lv_goto (tgt := 5) hx hb dX0_burntCaneOf_49 (by decide) ?_
            have hsum : (cBurntTo M g d k) + (M 10 k) = cBurntTo M g d (k + 1) := (show (if M 6 k = g ∧ cHow M k d = 1 then cBurntTo M g d k + M 10 k else cBurntTo M g d k) = _ from if_pos ⟨c2, c4⟩).symm
            rw [hsum] at hl
            exact ih (k + 1) (by omega) (by omega) _ _ hP hD hS ls (lv_sub hl [0, 1, 2, 3, 4] rfl)
  exact loop5 ((nF M - 0) + 1) 0 (Nat.lt_succ_self _) (by omega) _ _ hP hD hS ls (lv_sub hl [0, 1, 2, 3, 4] rfl)
