set_option maxHeartbeats 4000000 in
set_option maxRecDepth 100000 in
theorem c_X6_append (l : Launch) (D : va_G) (Y : Nat → ClassId) (a : Nat → Nat) (M : kN) (f t d : Int32) (hI : cI M) : kM l yX6_append wX6_append rX6_append D Y (wM Y a M) [.ref (a 20), .int f, .int t, .int d] kX0 (kQv D (fun u => u = cAppend M f t d) (fun u => wM Y a u)) := by
  refine kentry (cc := cX6_append) (maxL := 4) (ret := none) (by decide +kernel) rfl (Nat.le_of_ble_eq_true rfl) ?_
  intro p e s m args below meth c A Q ls hQ hx hb hr hlocks hml hown hin hta hA hX hK hNs hP hD hS hl
  have hown : s.vm.findClass RX6 = some m.cls := hown
  have hl : lv_has ls 4 [(0, .ref (a 20)), (1, .int f), (2, .int t), (3, .int d)] := hl
  have h400 := hI.y400
  refine lv_aload_n hx hb dX6_append_0 rfl (lv_at hl 0 rfl) ?_
  refine gfX6_21 (v := .int (M 19 6)) hx hb hta hown hK hP 20 rfl rfl dX6_append_1 ?_
  refine kTop hI.y ?_
  refine lv_sipush (v := 400) hx hb dX6_append_4 (by decide) ?_
  refine lv_icmp_lt (tgt := 11) hx hb dX6_append_7 (by decide) (fun c1 => ?_) (fun c1 => ?_)
  · have c1n : (nY M) < 400 := (nI_ltI (a := nY M) (b := 400) (by omega) (by omega)).mp c1
    refine lv_aload_n hx hb dX6_append_11 rfl (lv_at hl 0 rfl) ?_
    refine gfX6_9 (v := .ref (a 21)) hx hb hta hown hK hP 20 rfl rfl dX6_append_12 ?_
    refine lv_aload_n hx hb dX6_append_15 rfl (lv_at hl 0 rfl) ?_
    refine gfX6_21 (v := .int (M 19 6)) hx hb hta hown hK hP 20 rfl rfl dX6_append_16 ?_
    refine kTop hI.y ?_
    refine lv_iload_n hx hb dX6_append_19 rfl (lv_at hl 1 rfl) ?_
    refine kiast (f := M 16) hx hb hK hP hD hS 21 rfl (nY M) rfl (by omega) (by omega) dX6_append_20 (wM Y a (sM M 16 (nY M) f)) rfl (fun H locs hP hD hS => ?_)
    refine lv_aload_n hx hb dX6_append_21 rfl (lv_at hl 0 rfl) ?_
    refine gfX6_15 (v := .ref (a 22)) hx hb hta hown hK hP 20 rfl rfl dX6_append_22 ?_
    refine lv_aload_n hx hb dX6_append_25 rfl (lv_at hl 0 rfl) ?_
    refine gfX6_21 (v := .int (M 19 6)) hx hb hta hown hK hP 20 rfl rfl dX6_append_26 ?_
    refine kTop hI.y ?_
    refine lv_iload_n hx hb dX6_append_29 rfl (lv_at hl 2 rfl) ?_
    refine kiast (f := M 17) hx hb hK hP hD hS 22 rfl (nY M) rfl (by omega) (by omega) dX6_append_30 (wM Y a (sM (sM M 16 (nY M) f) 17 (nY M) t)) rfl (fun H locs hP hD hS => ?_)
    refine lv_aload_n hx hb dX6_append_31 rfl (lv_at hl 0 rfl) ?_
    refine gfX6_18 (v := .ref (a 23)) hx hb hta hown hK hP 20 rfl rfl dX6_append_32 ?_
    refine lv_aload_n hx hb dX6_append_35 rfl (lv_at hl 0 rfl) ?_
    refine gfX6_21 (v := .int (M 19 6)) hx hb hta hown hK hP 20 rfl rfl dX6_append_36 ?_
    refine kTop hI.y ?_
    refine lv_iload_n hx hb dX6_append_39 rfl (lv_at hl 3 rfl) ?_
    refine kiast (f := M 18) hx hb hK hP hD hS 23 rfl (nY M) rfl (by omega) (by omega) dX6_append_40 (wM Y a (sM (sM (sM M 16 (nY M) f) 17 (nY M) t) 18 (nY M) d)) rfl (fun H locs hP hD hS => ?_)
    refine lv_aload_n hx hb dX6_append_41 rfl (lv_at hl 0 rfl) ?_
    refine lv_dup hx hb dX6_append_42 rfl ?_
    refine gfX6_21 (v := .int (M 19 6)) hx hb hta hown hK hP 20 rfl rfl dX6_append_43 ?_
    refine kTop hI.y ?_
    refine lv_iconst (v := 1) hx hb dX6_append_46 (by decide) ?_
    refine lv_iadd hx hb dX6_append_47 ?_
    refine pfX6_21 (ws1 := wM Y a (sM (sM (sM (sM M 16 (nY M) f) 17 (nY M) t) 18 (nY M) d) 19 6 ((nI (nY M)) + 1))) hx hb hta hown hK hP hD hS 20 rfl (Nat.le_of_ble_eq_true rfl) rfl dX6_append_48 (fun H locs hP hD hS => ?_)
    refine lv_aload_n hx hb dX6_append_51 rfl (lv_at hl 0 rfl) ?_
    refine lv_dup hx hb dX6_append_52 rfl ?_
    refine gfX6_25 (v := .int (M 19 7)) hx hb hta hown hK hP 20 rfl rfl dX6_append_53 ?_
    refine lv_iload_n hx hb dX6_append_56 rfl (lv_at hl 2 rfl) ?_
    refine lv_iadd hx hb dX6_append_57 ?_
    refine pfX6_25 (ws1 := wM Y a (sM (sM (sM (sM (sM M 16 (nY M) f) 17 (nY M) t) 18 (nY M) d) 19 6 ((nI (nY M)) + 1)) 19 7 ((M 19 7) + t))) hx hb hta hown hK hP hD hS 20 rfl (Nat.le_of_ble_eq_true rfl) rfl dX6_append_58 (fun H locs hP hD hS => ?_)
    exact kvret (sM (sM (sM (sM (sM M 16 (nY M) f) 17 (nY M) t) 18 (nY M) d) 19 6 ((nI (nY M)) + 1)) 19 7 ((M 19 7) + t)) hQ hx hb hr hlocks hP hS dX6_append_61 (by unfold cAppend; rw [hI.y]; exact (if_pos c1).symm)
  · have c1n : ¬ (nY M) < 400 := fun h => c1 ((nI_ltI (a := nY M) (b := 400) (by omega) (by omega)).mpr h)
    exact kvret (M) hQ hx hb hr hlocks hP hS dX6_append_10 (by unfold cAppend; rw [hI.y]; exact (if_neg c1).symm)
set_option maxHeartbeats 4000000 in
set_option maxRecDepth 100000 in
theorem c_X6_takeFrom (l : Launch) (D : va_G) (Y : Nat → ClassId) (a : Nat → Nat) (M : kN) (k : Nat) (t : Int32) (hI : cI M) (hk : k < nY M) : kM l yX6_takeFrom wX6_takeFrom rX6_takeFrom D Y (wM Y a M) [.ref (a 20), .int (nI k), .int t] kX0 (kQi D (fun r u => r = M 17 k - t ∧ u = cTake M k t) (fun u => wM Y a u)) := by
  refine kentry (cc := cX6_takeFrom) (maxL := 3) (ret := (some .int)) (by decide +kernel) rfl (Nat.le_of_ble_eq_true rfl) ?_
  intro p e s m args below meth c A Q ls hQ hx hb hr hlocks hml hown hin hta hA hX hK hNs hP hD hS hl
  have hown : s.vm.findClass RX6 = some m.cls := hown
  have hl : lv_has ls 3 [(0, .ref (a 20)), (1, .int (nI k)), (2, .int t)] := hl
  have h400 := hI.y400
  refine lv_iload_n hx hb dX6_takeFrom_0 rfl (lv_at hl 1 rfl) ?_
  refine lv_iconst (v := 0) hx hb dX6_takeFrom_1 (by decide) ?_
  refine lv_aload_n hx hb dX6_takeFrom_2 rfl (lv_at hl 0 rfl) ?_
  refine gfX6_21 (v := .int (M 19 6)) hx hb hta hown hK hP 20 rfl rfl dX6_takeFrom_3 ?_
  refine kTop hI.y ?_
  refine lv_iconst (v := 1) hx hb dX6_takeFrom_6 (by decide) ?_
  refine lv_isub hx hb dX6_takeFrom_7 ?_
  refine kTop (y := nI (nY M - 1)) (pk_sub (a := nY M) (b := 1) (by omega)) ?_
  refine kc_i (krSN (As := [.int (nI k), .int 0, .int (nI (nY M - 1))]) (rest := []) (c_X7_isWithin l D Y (nI k) 0 (nI (nY M - 1))) ⟨hx, hb, hml, hown, hta⟩ (cwX6_32 hta hNs ⟨Nat.le_of_ble_eq_true rfl, Nat.le_of_ble_eq_true rfl⟩) kX0b (fun _ _ _ => trivial) hK hNs hP hD (kJ_nil) rfl hl.1 rfl (Nat.le_of_ble_eq_true rfl) dX6_takeFrom_8 ⟨Nat.le_of_ble_eq_true rfl, Nat.le_of_ble_eq_true rfl⟩) hP hD hS hA (kJ_nil) (fun _ => rfl) (fun r1 u H locs hw hP hD hS => ?_)
  subst hw
  have hP : va_P D vwCl (wM Y a M) H := hP
  have hD : va_D A (wM Y a M) := hD
  refine kTop (kb_t (pIn_nI (by omega) (by omega))) ?_
  refine lv_if_ne (tgt := 16) hx hb dX6_takeFrom_11 (by decide) (fun _ => ?_) (fun h => False.elim (by revert h; decide))
  refine lv_aload_n hx hb dX6_takeFrom_16 rfl (lv_at hl 0 rfl) ?_
  refine gfX6_15 (v := .ref (a 22)) hx hb hta hown hK hP 20 rfl rfl dX6_takeFrom_17 ?_
  refine lv_iload_n hx hb dX6_takeFrom_20 rfl (lv_at hl 1 rfl) ?_
  refine lv_dup2_11 hx hb dX6_takeFrom_21 rfl rfl ?_
  refine kiald (f := M 17) hx hb hK hP 22 rfl k rfl (by omega) (by omega) dX6_takeFrom_22 ?_
  refine lv_iload_n hx hb dX6_takeFrom_23 rfl (lv_at hl 2 rfl) ?_
  refine lv_isub hx hb dX6_takeFrom_24 ?_
  refine kiast (f := M 17) hx hb hK hP hD hS 22 rfl k rfl (by omega) (by omega) dX6_takeFrom_25 (wM Y a (sM M 17 k ((M 17 k) - t))) rfl (fun H locs hP hD hS => ?_)
  refine lv_aload_n hx hb dX6_takeFrom_26 rfl (lv_at hl 0 rfl) ?_
  refine lv_dup hx hb dX6_takeFrom_27 rfl ?_
  refine gfX6_25 (v := .int (M 19 7)) hx hb hta hown hK hP 20 rfl rfl dX6_takeFrom_28 ?_
  refine lv_iload_n hx hb dX6_takeFrom_31 rfl (lv_at hl 2 rfl) ?_
  refine lv_isub hx hb dX6_takeFrom_32 ?_
  refine pfX6_25 (ws1 := wM Y a (sM (sM M 17 k ((M 17 k) - t)) 19 7 ((M 19 7) - t))) hx hb hta hown hK hP hD hS 20 rfl (Nat.le_of_ble_eq_true rfl) rfl dX6_takeFrom_33 (fun H locs hP hD hS => ?_)
  refine lv_aload_n hx hb dX6_takeFrom_36 rfl (lv_at hl 0 rfl) ?_
  refine gfX6_15 (v := .ref (a 22)) hx hb hta hown hK hP 20 rfl rfl dX6_takeFrom_37 ?_
  refine lv_iload_n hx hb dX6_takeFrom_40 rfl (lv_at hl 1 rfl) ?_
  refine kiald (f := upd (M 17) k ((M 17 k) - t)) hx hb hK hP 22 rfl k rfl (by omega) (by omega) dX6_takeFrom_41 ?_
  exact kiret (sM (sM M 17 k ((M 17 k) - t)) 19 7 ((M 19 7) - t)) hQ hx hb hr hlocks hP hS dX6_takeFrom_42 (⟨by simp [upd], rfl⟩)
set_option maxHeartbeats 4000000 in
set_option maxRecDepth 100000 in
theorem c_X6_dropFirst (l : Launch) (D : va_G) (Y : Nat → ClassId) (a : Nat → Nat) (M : kN) (d : Nat) (hI : cI M) (hd : d ≤ nY M) : kM l yX6_dropFirst wX6_dropFirst rX6_dropFirst D Y (wM Y a M) [.ref (a 20), .int (nI d)] kX0 (kQv D (fun u => u = cDrop M d) (fun u => wM Y a u)) := by
  refine kentry (cc := cX6_dropFirst) (maxL := 3) (ret := none) (by decide +kernel) rfl (Nat.le_of_ble_eq_true rfl) ?_
  intro p e s m args below meth c A Q ls hQ hx hb hr hlocks hml hown hin hta hA hX hK hNs hP hD hS hl
  have hown : s.vm.findClass RX6 = some m.cls := hown
  have hl : lv_has ls 3 [(0, .ref (a 20)), (1, .int (nI d))] := hl
  have h400 := hI.y400
  refine lv_iload_n hx hb dX6_dropFirst_0 rfl (lv_at hl 1 rfl) ?_
  refine lv_istore_n (lv' := [(2, .int (nI d)), (0, .ref (a 20)), (1, .int (nI d))]) hx hb dX6_dropFirst_1 rfl hl (by decide) rfl (fun ls hl => ?_)
  have loop2 : ∀ (n : Nat) (j : Nat) (N : kN), nY M - (d + j) < n → cDropTo M d j = N → d + j ≤ nY M → ∀ (H : Heap) (locs : List Loc), va_P D vwCl (wM Y a N) H → va_D A (wM Y a N) → va_S A s.heap H locs → ∀ (ls : Array Slot), lv_has ls 3 [(2, .int (nI (d + j))), (0, .ref (a 20)), (1, .int (nI d))] → W p l e rX6_dropFirst s m args below meth c H locs 0 0 Q (F0 m 2 ls []) := by
    intro n
    induction n with
    | zero => intro j N hmu; exact absurd hmu (Nat.not_lt_zero _)
    | succ n ih =>
      intro j N hmu hN hj H locs hP hD hS ls hl
      have e6 : N 19 6 = nI (nY M) := by rw [← hN, cDropTo_o M d (by decide) (by decide) (by decide)]; exact hI.y
      refine lv_iload_n hx hb dX6_dropFirst_2 rfl (lv_at hl 0 rfl) ?_
      refine lv_aload_n hx hb dX6_dropFirst_3 rfl (lv_at hl 1 rfl) ?_
      refine gfX6_21 (v := .int (N 19 6)) hx hb hta hown hK hP 20 rfl rfl dX6_dropFirst_4 ?_
      refine kTop e6 ?_
      refine lv_icmp_ge (tgt := 58) hx hb dX6_dropFirst_7 (by decide) (fun c1 => ?_) (fun c1 => ?_)
      · have c1n : (nY M) ≤ (d + j) := (nI_leI (a := nY M) (b := d + j) (by omega) (by omega)).mp c1
        refine lv_aload_n hx hb dX6_dropFirst_58 rfl (lv_at hl 1 rfl) ?_
        refine lv_dup hx hb dX6_dropFirst_59 rfl ?_
        refine gfX6_21 (v := .int (N 19 6)) hx hb hta hown hK hP 20 rfl rfl dX6_dropFirst_60 ?_
        refine kTop e6 ?_
        refine lv_iload_n hx hb dX6_dropFirst_63 rfl (lv_at hl 2 rfl) ?_
        refine lv_isub hx hb dX6_dropFirst_64 ?_
        refine pfX6_21 (ws1 := wM Y a (sM N 19 6 ((nI (nY M)) - (nI d)))) hx hb hta hown hK hP hD hS 20 rfl (Nat.le_of_ble_eq_true rfl) rfl dX6_dropFirst_65 (fun H locs hP hD hS => ?_)
        exact kvret (sM N 19 6 ((nI (nY M)) - (nI d))) hQ hx hb hr hlocks hP hS dX6_dropFirst_68 (by have hj2 : j = nY M - d := (by omega); subst hj2; unfold cDrop; rw [hN, hI.y])
      · have c1n : ¬ (nY M) ≤ (d + j) := fun h => c1 ((nI_leI (a := nY M) (b := d + j) (by omega) (by omega)).mpr h)
        refine lv_aload_n hx hb dX6_dropFirst_10 rfl (lv_at hl 1 rfl) ?_
        refine gfX6_9 (v := .ref (a 21)) hx hb hta hown hK hP 20 rfl rfl dX6_dropFirst_11 ?_
        refine lv_iload_n hx hb dX6_dropFirst_14 rfl (lv_at hl 0 rfl) ?_
        refine lv_iload_n hx hb dX6_dropFirst_15 rfl (lv_at hl 2 rfl) ?_
        refine lv_isub hx hb dX6_dropFirst_16 ?_
        refine kTop (y := nI j) ((pk_sub (by omega)).trans (congrArg nI (by omega))) ?_
        refine lv_aload_n hx hb dX6_dropFirst_17 rfl (lv_at hl 1 rfl) ?_
        refine gfX6_9 (v := .ref (a 21)) hx hb hta hown hK hP 20 rfl rfl dX6_dropFirst_18 ?_
        refine lv_iload_n hx hb dX6_dropFirst_21 rfl (lv_at hl 0 rfl) ?_
        refine kiald (f := N 16) hx hb hK hP 21 rfl (d + j) rfl (by omega) (by omega) dX6_dropFirst_22 ?_
        refine kiast (f := N 16) hx hb hK hP hD hS 21 rfl j rfl (by omega) (by omega) dX6_dropFirst_23 (wM Y a (sM N 16 j (N 16 (d + j)))) rfl (fun H locs hP hD hS => ?_)
        refine lv_aload_n hx hb dX6_dropFirst_24 rfl (lv_at hl 1 rfl) ?_
        refine gfX6_15 (v := .ref (a 22)) hx hb hta hown hK hP 20 rfl rfl dX6_dropFirst_25 ?_
        refine lv_iload_n hx hb dX6_dropFirst_28 rfl (lv_at hl 0 rfl) ?_
        refine lv_iload_n hx hb dX6_dropFirst_29 rfl (lv_at hl 2 rfl) ?_
        refine lv_isub hx hb dX6_dropFirst_30 ?_
        refine kTop (y := nI j) ((pk_sub (by omega)).trans (congrArg nI (by omega))) ?_
        refine lv_aload_n hx hb dX6_dropFirst_31 rfl (lv_at hl 1 rfl) ?_
        refine gfX6_15 (v := .ref (a 22)) hx hb hta hown hK hP 20 rfl rfl dX6_dropFirst_32 ?_
        refine lv_iload_n hx hb dX6_dropFirst_35 rfl (lv_at hl 0 rfl) ?_
        refine kiald (f := N 17) hx hb hK hP 22 rfl (d + j) rfl (by omega) (by omega) dX6_dropFirst_36 ?_
        refine kiast (f := N 17) hx hb hK hP hD hS 22 rfl j rfl (by omega) (by omega) dX6_dropFirst_37 (wM Y a (sM (sM N 16 j (N 16 (d + j))) 17 j (N 17 (d + j)))) rfl (fun H locs hP hD hS => ?_)
        refine lv_aload_n hx hb dX6_dropFirst_38 rfl (lv_at hl 1 rfl) ?_
        refine gfX6_18 (v := .ref (a 23)) hx hb hta hown hK hP 20 rfl rfl dX6_dropFirst_39 ?_
        refine lv_iload_n hx hb dX6_dropFirst_42 rfl (lv_at hl 0 rfl) ?_
        refine lv_iload_n hx hb dX6_dropFirst_43 rfl (lv_at hl 2 rfl) ?_
        refine lv_isub hx hb dX6_dropFirst_44 ?_
        refine kTop (y := nI j) ((pk_sub (by omega)).trans (congrArg nI (by omega))) ?_
        refine lv_aload_n hx hb dX6_dropFirst_45 rfl (lv_at hl 1 rfl) ?_
        refine gfX6_18 (v := .ref (a 23)) hx hb hta hown hK hP 20 rfl rfl dX6_dropFirst_46 ?_
        refine lv_iload_n hx hb dX6_dropFirst_49 rfl (lv_at hl 0 rfl) ?_
        refine kiald (f := N 18) hx hb hK hP 23 rfl (d + j) rfl (by omega) (by omega) dX6_dropFirst_50 ?_
        refine kiast (f := N 18) hx hb hK hP hD hS 23 rfl j rfl (by omega) (by omega) dX6_dropFirst_51 (wM Y a (sM (sM (sM N 16 j (N 16 (d + j))) 17 j (N 17 (d + j))) 18 j (N 18 (d + j)))) rfl (fun H locs hP hD hS => ?_)
        refine lv_iinc (v := nI (d + j + 1)) (lv' := [(2, .int (nI (d + j + 1))), (0, .ref (a 20)), (1, .int (nI d))]) hx hb dX6_dropFirst_52 hl (k := 0) rfl (nI_add (d + j) 1) (by decide) rfl (fun ls hl => ?_)
        refine lv_goto (tgt := 2) hx hb dX6_dropFirst_55 (by decide) ?_
        exact ih (j + 1) (sM (sM (sM N 16 j (N 16 (d + j))) 17 j (N 17 (d + j))) 18 j (N 18 (d + j))) (by omega) (by rw [← hN]; rfl) (by omega) _ _ hP hD hS ls (lv_sub hl [0, 1, 2] rfl)
  exact loop2 ((nY M - (d + 0)) + 1) 0 M (Nat.lt_succ_self _) rfl (by omega) _ _ hP hD hS ls (lv_sub hl [0, 1, 2] rfl)
set_option maxHeartbeats 4000000 in
set_option maxRecDepth 100000 in
theorem c_X3_loseOldCane (l : Launch) (D : va_G) (Y : Nat → ClassId) (a : Nat → Nat) (M : kN) (hI : cI M) : kM l yX3_loseOldCane wX3_loseOldCane rX3_loseOldCane D Y (wM Y a M) [.ref (a 0)] kX0 (kQv D (fun u => u = cLose M) (fun u => wM Y a u)) := by
  refine kentry (cc := cX3_loseOldCane) (maxL := 2) (ret := none) (by decide +kernel) rfl (Nat.le_of_ble_eq_true rfl) ?_
  intro p e s m args below meth c A Q ls hQ hx hb hr hlocks hml hown hin hta hA hX hK hNs hP hD hS hl
  have hown : s.vm.findClass RX3 = some m.cls := hown
  have hl : lv_has ls 2 [(0, .ref (a 0))] := hl
  have h30 := hI.f30
  refine lv_iconst (v := 0) hx hb dX3_loseOldCane_0 (by decide) ?_
  refine lv_istore_n (lv' := [(1, .int 0), (0, .ref (a 0))]) hx hb dX3_loseOldCane_1 rfl hl (by decide) rfl (fun ls hl => ?_)
  have loop2 : ∀ (n : Nat) (k : Nat) (N : kN), nF M - k < n → cLoseTo M k = N → k ≤ nF M → ∀ (H : Heap) (locs : List Loc), va_P D vwCl (wM Y a N) H → va_D A (wM Y a N) → va_S A s.heap H locs → ∀ (ls : Array Slot), lv_has ls 2 [(1, .int (nI k)), (0, .ref (a 0))] → W p l e rX3_loseOldCane s m args below meth c H locs 0 0 Q (F0 m 2 ls []) := by
    intro n
    induction n with
    | zero => intro k N hmu; exact absurd hmu (Nat.not_lt_zero _)
    | succ n ih =>
      intro k N hmu hN hk H locs hP hD hS ls hl
      obtain ⟨hIN, eF⟩ : cI N ∧ nF N = nF M := hN ▸ cLoseTo_I hI k
      have e4 : N 19 4 = nI (nF M) := by rw [hIN.f, eF]
      refine lv_iload_n hx hb dX3_loseOldCane_2 rfl (lv_at hl 0 rfl) ?_
      refine lv_aload_n hx hb dX3_loseOldCane_3 rfl (lv_at hl 1 rfl) ?_
      refine gfX3_25 (v := .ref (a 8)) hx hb hta hown hK hP 0 rfl rfl dX3_loseOldCane_4 ?_
      refine gfX3_110 (v := .int (N 19 4)) hx hb hta hown hK hP 8 rfl rfl dX3_loseOldCane_7 ?_
      refine kTop e4 ?_
      refine lv_icmp_ge (tgt := 70) hx hb dX3_loseOldCane_10 (by decide) (fun c1 => ?_) (fun c1 => ?_)
      · have c1n : (nF M) ≤ k := (nI_leI (a := nF M) (b := k) (by omega) (by omega)).mp c1
        exact kvret (N) hQ hx hb hr hlocks hP hS dX3_loseOldCane_70 (by have hk2 : k = nF M := (by omega); subst hk2; exact hN.symm)
      · have c1n : ¬ (nF M) ≤ k := fun h => c1 ((nI_leI (a := nF M) (b := k) (by omega) (by omega)).mpr h)
        have hg := hIN.g (f := k) (by omega)
        refine lv_aload_n hx hb dX3_loseOldCane_13 rfl (lv_at hl 1 rfl) ?_
        refine gfX3_60 (v := .int (N 19 0)) hx hb hta hown hK hP 0 rfl rfl dX3_loseOldCane_14 ?_
        refine lv_aload_n hx hb dX3_loseOldCane_17 rfl (lv_at hl 1 rfl) ?_
        refine gfX3_25 (v := .ref (a 8)) hx hb hta hown hK hP 0 rfl rfl dX3_loseOldCane_18 ?_
        refine gfX3_113 (v := .ref (a 12)) hx hb hta hown hK hP 8 rfl rfl dX3_loseOldCane_21 ?_
        refine lv_iload_n hx hb dX3_loseOldCane_24 rfl (lv_at hl 0 rfl) ?_
        refine kiald (f := N 9) hx hb hK hP 12 rfl k rfl (by omega) (by omega) dX3_loseOldCane_25 ?_
        refine lv_isub hx hb dX3_loseOldCane_26 ?_
        refine lv_aload_n hx hb dX3_loseOldCane_27 rfl (lv_at hl 1 rfl) ?_
        refine gfX3_9 (v := .ref (a 1)) hx hb hta hown hK hP 0 rfl rfl dX3_loseOldCane_28 ?_
        refine lv_iconst (v := 5) hx hb dX3_loseOldCane_31 (by decide) ?_
        refine kiald (f := N 0) hx hb hK hP 1 rfl 5 rfl (by omega) (by omega) dX3_loseOldCane_32 ?_
        refine lv_icmp_le (tgt := 64) hx hb dX3_loseOldCane_33 (by decide) (fun c2 => ?_) (fun c2 => ?_)
        · refine lv_iinc (v := nI (k + 1)) (lv' := [(1, .int (nI (k + 1))), (0, .ref (a 0))]) hx hb dX3_loseOldCane_64 hl (k := 0) rfl (nI_add k 1) (by decide) rfl (fun ls hl => ?_)
          refine lv_goto (tgt := 2) hx hb dX3_loseOldCane_67 (by decide) ?_
          exact ih (k + 1) N (by omega) (by show cLoseStep (cLoseTo M k) k = _; rw [hN]; unfold cLoseStep; exact if_pos c2) (by omega) _ _ hP hD hS ls (lv_sub hl [0, 1] rfl)
        · refine lv_aload_n hx hb dX3_loseOldCane_36 rfl (lv_at hl 1 rfl) ?_
          refine gfX3_18 (v := .ref (a 2)) hx hb hta hown hK hP 0 rfl rfl dX3_loseOldCane_37 ?_
          refine gfX3_116 (v := .ref (a 6)) hx hb hta hown hK hP 2 rfl rfl dX3_loseOldCane_40 ?_
          refine lv_aload_n hx hb dX3_loseOldCane_43 rfl (lv_at hl 1 rfl) ?_
          refine gfX3_25 (v := .ref (a 8)) hx hb hta hown hK hP 0 rfl rfl dX3_loseOldCane_44 ?_
          refine gfX3_119 (v := .ref (a 9)) hx hb hta hown hK hP 8 rfl rfl dX3_loseOldCane_47 ?_
          refine lv_iload_n hx hb dX3_loseOldCane_50 rfl (lv_at hl 0 rfl) ?_
          refine kiald (f := N 6) hx hb hK hP 9 rfl k rfl (by omega) (by omega) dX3_loseOldCane_51 ?_
          refine kTop hg.1 ?_
          refine lv_dup2_11 hx hb dX3_loseOldCane_52 rfl rfl ?_
          refine kiald (f := N 4) hx hb hK hP 6 rfl (gr N k) rfl (hg.2) (by omega) dX3_loseOldCane_53 ?_
          refine lv_aload_n hx hb dX3_loseOldCane_54 rfl (lv_at hl 1 rfl) ?_
          refine gfX3_25 (v := .ref (a 8)) hx hb hta hown hK hP 0 rfl rfl dX3_loseOldCane_55 ?_
          refine lv_iload_n hx hb dX3_loseOldCane_58 rfl (lv_at hl 0 rfl) ?_
          refine kc_i (krV (As := [.int (nI k)]) (rest := [.int (N 4 (gr N k)), .int (nI (gr N k)), .ref (a 6)]) (c_X0_loseCane l D Y a N k (by omega)) ⟨hx, hb, hml, hown, hta⟩ (cwX3_122 hta ⟨Nat.le_of_ble_eq_true rfl, Nat.le_of_ble_eq_true rfl⟩) kX0b (fun _ _ _ => trivial) hK hNs hP hD (kJ_all) (q0 := 8) rfl rfl rfl rfl hl.1 rfl (Nat.le_of_ble_eq_true rfl) dX3_loseOldCane_59 ⟨Nat.le_of_ble_eq_true rfl, Nat.le_of_ble_eq_true rfl⟩) hP hD hS hA (kJ_all) (fun _ => rfl) (fun r3 u H locs hw hP hD hS => ?_)
          obtain ⟨rfl, rfl⟩ := hw
          have hP : va_P D vwCl (wM Y a (cLoseCane N k)) H := hP
          have hD : va_D A (wM Y a (cLoseCane N k)) := hD
          refine lv_iadd hx hb dX3_loseOldCane_62 ?_
          refine kiast (f := (cLoseCane N k) 4) hx hb hK hP hD hS 6 rfl (gr N k) rfl (hg.2) (by omega) dX3_loseOldCane_63 (wM Y a (sM (cLoseCane N k) 4 (gr N k) ((N 4 (gr N k)) + (N 10 k)))) rfl (fun H locs hP hD hS => ?_)
          refine lv_iinc (v := nI (k + 1)) (lv' := [(1, .int (nI (k + 1))), (0, .ref (a 0))]) hx hb dX3_loseOldCane_64 hl (k := 0) rfl (nI_add k 1) (by decide) rfl (fun ls hl => ?_)
          refine lv_goto (tgt := 2) hx hb dX3_loseOldCane_67 (by decide) ?_
          exact ih (k + 1) (sM (cLoseCane N k) 4 (gr N k) ((N 4 (gr N k)) + (N 10 k))) (by omega) (by show cLoseStep (cLoseTo M k) k = _; rw [hN]; unfold cLoseStep; exact if_neg c2) (by omega) _ _ hP hD hS ls (lv_sub hl [0, 1] rfl)
  exact loop2 ((nF M - 0) + 1) 0 M (Nat.lt_succ_self _) rfl (by omega) _ _ hP hD hS ls (lv_sub hl [0, 1] rfl)
set_option maxHeartbeats 4000000 in
set_option maxRecDepth 100000 in
theorem c_X3_nextField (l : Launch) (D : va_G) (Y : Nat → ClassId) (a : Nat → Nat) (M : kN) (hI : cI M) : kM l yX3_nextField wX3_nextField rX3_nextField D Y (wM Y a M) [.ref (a 0)] kX0 (kQi D (fun r (_ : Unit) => r = oI (cNextO M)) (fun _ => wM Y a M)) := by
  refine kentry (cc := cX3_nextField) (maxL := 3) (ret := (some .int)) (by decide +kernel) rfl (Nat.le_of_ble_eq_true rfl) ?_
  intro p e s m args below meth c A Q ls hQ hx hb hr hlocks hml hown hin hta hA hX hK hNs hP hD hS hl
  have hown : s.vm.findClass RX3 = some m.cls := hown
  have hl : lv_has ls 3 [(0, .ref (a 0))] := hl
  have h30 := hI.f30
  refine lv_aload_n hx hb dX3_nextField_0 rfl (lv_at hl 0 rfl) ?_
  refine kc_i (krV (As := []) (rest := []) (c_X3_room l D Y a M) ⟨hx, hb, hml, hown, hta⟩ (cwX3_134 hta ⟨Nat.le_of_ble_eq_true rfl, Nat.le_of_ble_eq_true rfl⟩) kX0b (fun _ _ _ => trivial) hK hNs hP hD (kJ_all) (q0 := 0) rfl rfl rfl rfl hl.1 rfl (Nat.le_of_ble_eq_true rfl) dX3_nextField_1 ⟨Nat.le_of_ble_eq_true rfl, Nat.le_of_ble_eq_true rfl⟩) hP hD hS hA (kJ_all) (fun _ => rfl) (fun r1 u H locs hw hP hD hS => ?_)
  subst hw
  have hP : va_P D vwCl (wM Y a M) H := hP
  have hD : va_D A (wM Y a M) := hD
  refine lv_if_gt (tgt := 10) hx hb dX3_nextField_4 (by decide) (fun c2 => ?_) (fun c2 => ?_)
  · refine lv_bipush (v := (-6)) hx hb dX3_nextField_10 (by decide) ?_
    refine lv_istore_n (lv' := [(1, .int (-6)), (0, .ref (a 0))]) hx hb dX3_nextField_12 rfl hl (by decide) rfl (fun ls hl => ?_)
    refine lv_iconst (v := 0) hx hb dX3_nextField_13 (by decide) ?_
    refine lv_istore_n (lv' := [(2, .int 0), (1, .int (-6)), (0, .ref (a 0))]) hx hb dX3_nextField_14 rfl hl (by decide) rfl (fun ls hl => ?_)
    have loop15 : ∀ (n : Nat) (k : Nat) (o : Option Nat), nF M - k < n → o = cBest M k → k ≤ nF M → ∀ (H : Heap) (locs : List Loc), va_P D vwCl (wM Y a M) H → va_D A (wM Y a M) → va_S A s.heap H locs → ∀ (ls : Array Slot), lv_has ls 3 [(2, .int (nI k)), (1, .int (oI o)), (0, .ref (a 0))] → W p l e rX3_nextField s m args below meth c H locs 0 0 Q (F0 m 15 ls []) := by
      intro n
      induction n with
      | zero => intro k o hmu; exact absurd hmu (Nat.not_lt_zero _)
      | succ n ih =>
        intro k o hmu ho hk H locs hP hD hS ls hl
        refine lv_iload_n hx hb dX3_nextField_15 rfl (lv_at hl 0 rfl) ?_
        refine lv_aload_n hx hb dX3_nextField_16 rfl (lv_at hl 2 rfl) ?_
        refine gfX3_25 (v := .ref (a 8)) hx hb hta hown hK hP 0 rfl rfl dX3_nextField_17 ?_
        refine gfX3_110 (v := .int (M 19 4)) hx hb hta hown hK hP 8 rfl rfl dX3_nextField_20 ?_
        refine kTop hI.f ?_
        refine lv_icmp_ge (tgt := 76) hx hb dX3_nextField_23 (by decide) (fun c3 => ?_) (fun c3 => ?_)
        · have c3n : (nF M) ≤ k := (nI_leI (a := nF M) (b := k) (by omega) (by omega)).mp c3
          refine lv_iload_n hx hb dX3_nextField_76 rfl (lv_at hl 1 rfl) ?_
          exact kiret (()) hQ hx hb hr hlocks hP hS dX3_nextField_77 (by have hk2 : k = nF M := (by omega); subst hk2; unfold cNextO; rw [if_pos c2, ho])
        · have c3n : ¬ (nF M) ≤ k := fun h => c3 ((nI_leI (a := nF M) (b := k) (by omega) (by omega)).mpr h)
          refine lv_aload_n hx hb dX3_nextField_26 rfl (lv_at hl 2 rfl) ?_
          refine gfX3_25 (v := .ref (a 8)) hx hb hta hown hK hP 0 rfl rfl dX3_nextField_27 ?_
          refine lv_iload_n hx hb dX3_nextField_30 rfl (lv_at hl 0 rfl) ?_
          refine lv_aload_n hx hb dX3_nextField_31 rfl (lv_at hl 2 rfl) ?_
          refine gfX3_60 (v := .int (M 19 0)) hx hb hta hown hK hP 0 rfl rfl dX3_nextField_32 ?_
          refine kc_i (krV (As := [.int (nI k), .int (M 19 0)]) (rest := []) (c_X0_howItIs l D Y a M k (M 19 0) (by omega)) ⟨hx, hb, hml, hown, hta⟩ (cwX3_137 hta ⟨Nat.le_of_ble_eq_true rfl, Nat.le_of_ble_eq_true rfl⟩) kX0b (fun _ _ _ => trivial) hK hNs hP hD (kJ_all) (q0 := 8) rfl rfl rfl rfl hl.1 rfl (Nat.le_of_ble_eq_true rfl) dX3_nextField_35 ⟨Nat.le_of_ble_eq_true rfl, Nat.le_of_ble_eq_true rfl⟩) hP hD hS hA (kJ_all) (fun _ => rfl) (fun r4 u H locs hw hP hD hS => ?_)
          subst hw
          have hP : va_P D vwCl (wM Y a M) H := hP
          have hD : va_D A (wM Y a M) := hD
          refine lv_iconst (v := 1) hx hb dX3_nextField_38 (by decide) ?_
          refine lv_icmp_ne (tgt := 70) hx hb dX3_nextField_39 (by decide) (fun c5 => ?_) (fun c5 => ?_)
          · refine lv_iinc (v := nI (k + 1)) (lv' := [(2, .int (nI (k + 1))), (1, .int (oI o)), (0, .ref (a 0))]) hx hb dX3_nextField_70 hl (k := 0) rfl (nI_add k 1) (by decide) rfl (fun ls hl => ?_)
            refine lv_goto (tgt := 15) hx hb dX3_nextField_73 (by decide) ?_
            exact ih (k + 1) o (by omega) (by show _ = (if pCan M k then cBetter M k (cBest M k) else cBest M k); rw [if_neg (fun h => c5 h.1)]; exact ho) (by omega) _ _ hP hD hS ls (lv_sub hl [0, 1, 2] rfl)
          · refine lv_aload_n hx hb dX3_nextField_42 rfl (lv_at hl 2 rfl) ?_
            refine lv_iload_n hx hb dX3_nextField_43 rfl (lv_at hl 0 rfl) ?_
            refine kc_i (krV (As := [.int (nI k)]) (rest := []) (c_X3_quotaOf l D Y a M k (by omega) (hI.g (by omega))) ⟨hx, hb, hml, hown, hta⟩ (cwX3_141 hta ⟨Nat.le_of_ble_eq_true rfl, Nat.le_of_ble_eq_true rfl⟩) kX0b (fun _ _ _ => trivial) hK hNs hP hD (kJ_all) (q0 := 0) rfl rfl rfl rfl hl.1 rfl (Nat.le_of_ble_eq_true rfl) dX3_nextField_44 ⟨Nat.le_of_ble_eq_true rfl, Nat.le_of_ble_eq_true rfl⟩) hP hD hS hA (kJ_all) (fun _ => rfl) (fun r6 u H locs hw hP hD hS => ?_)
            subst hw
            have hP : va_P D vwCl (wM Y a M) H := hP
            have hD : va_D A (wM Y a M) := hD
            refine lv_if_gt (tgt := 53) hx hb dX3_nextField_47 (by decide) (fun c7 => ?_) (fun c7 => ?_)
            · rcases o with _ | b0
              · have hl : lv_has ls 3 [(2, .int (nI k)), (1, .int (-6)), (0, .ref (a 0))] := hl
                refine lv_iload_n hx hb dX3_nextField_53 rfl (lv_at hl 1 rfl) ?_
                refine lv_bipush (v := (-6)) hx hb dX3_nextField_54 (by decide) ?_
                refine lv_icmp_eq (tgt := 68) hx hb dX3_nextField_56 (by decide) (fun _ => ?_) (fun h => absurd rfl h)
                refine lv_iload_n hx hb dX3_nextField_68 rfl (lv_at hl 0 rfl) ?_
                refine lv_istore_n (lv' := [(1, .int (nI k)), (2, .int (nI k)), (0, .ref (a 0))]) hx hb dX3_nextField_69 rfl hl (by decide) rfl (fun ls hl => ?_)
                refine lv_iinc (v := nI (k + 1)) (lv' := [(2, .int (nI (k + 1))), (1, .int (nI k)), (0, .ref (a 0))]) hx hb dX3_nextField_70 hl (k := 1) rfl (nI_add k 1) (by decide) rfl (fun ls hl => ?_)
                refine lv_goto (tgt := 15) hx hb dX3_nextField_73 (by decide) ?_
                exact ih (k + 1) (some k) (by omega) (by show _ = (if pCan M k then cBetter M k (cBest M k) else cBest M k); rw [if_pos ⟨c5, c7⟩, ← ho]; rfl) (by omega) _ _ hP hD hS ls (lv_sub hl [0, 1, 2] rfl)
              · have hl : lv_has ls 3 [(2, .int (nI k)), (1, .int (nI b0)), (0, .ref (a 0))] := hl
                have hb0 : b0 < k := cBest_lt ho.symm
                refine lv_iload_n hx hb dX3_nextField_53 rfl (lv_at hl 1 rfl) ?_
                refine lv_bipush (v := (-6)) hx hb dX3_nextField_54 (by decide) ?_
                refine lv_icmp_eq (tgt := 68) hx hb dX3_nextField_56 (by decide) (fun h => absurd h (oI_ne (by omega))) (fun _ => ?_)
                refine lv_aload_n hx hb dX3_nextField_59 rfl (lv_at hl 2 rfl) ?_
                refine lv_iload_n hx hb dX3_nextField_60 rfl (lv_at hl 0 rfl) ?_
                refine lv_iload_n hx hb dX3_nextField_61 rfl (lv_at hl 1 rfl) ?_
                refine kc_i (krV (As := [.int (nI k), .int (nI b0)]) (rest := []) (c_X3_goesAhead l D Y a M k b0 (by omega) (by omega) (hI.g (by omega)) (hI.g (by omega))) ⟨hx, hb, hml, hown, hta⟩ (cwX3_144 hta ⟨Nat.le_of_ble_eq_true rfl, Nat.le_of_ble_eq_true rfl⟩) kX0b (fun _ _ _ => trivial) hK hNs hP hD (kJ_all) (q0 := 0) rfl rfl rfl rfl hl.1 rfl (Nat.le_of_ble_eq_true rfl) dX3_nextField_62 ⟨Nat.le_of_ble_eq_true rfl, Nat.le_of_ble_eq_true rfl⟩) hP hD hS hA (kJ_all) (fun _ => rfl) (fun r10 u H locs hw hP hD hS => ?_)
                subst hw
                have hP : va_P D vwCl (wM Y a M) H := hP
                have hD : va_D A (wM Y a M) := hD
                by_cases c11 : pAheadM M k b0
                · refine kTop (kb_t c11) ?_
                  refine lv_if_eq (tgt := 70) hx hb dX3_nextField_65 (by decide) (fun h => False.elim (by revert h; decide)) (fun _ => ?_)
                  refine lv_iload_n hx hb dX3_nextField_68 rfl (lv_at hl 0 rfl) ?_
                  refine lv_istore_n (lv' := [(1, .int (nI k)), (2, .int (nI k)), (0, .ref (a 0))]) hx hb dX3_nextField_69 rfl hl (by decide) rfl (fun ls hl => ?_)
                  refine lv_iinc (v := nI (k + 1)) (lv' := [(2, .int (nI (k + 1))), (1, .int (nI k)), (0, .ref (a 0))]) hx hb dX3_nextField_70 hl (k := 1) rfl (nI_add k 1) (by decide) rfl (fun ls hl => ?_)
                  refine lv_goto (tgt := 15) hx hb dX3_nextField_73 (by decide) ?_
                  exact ih (k + 1) (some k) (by omega) (by show _ = (if pCan M k then cBetter M k (cBest M k) else cBest M k); rw [if_pos ⟨c5, c7⟩, ← ho]; exact (if_pos c11).symm) (by omega) _ _ hP hD hS ls (lv_sub hl [0, 1, 2] rfl)
                · refine kTop (kb_f c11) ?_
                  refine lv_if_eq (tgt := 70) hx hb dX3_nextField_65 (by decide) (fun _ => ?_) (fun h => False.elim (by revert h; decide))
                  refine lv_iinc (v := nI (k + 1)) (lv' := [(2, .int (nI (k + 1))), (1, .int (nI b0)), (0, .ref (a 0))]) hx hb dX3_nextField_70 hl (k := 0) rfl (nI_add k 1) (by decide) rfl (fun ls hl => ?_)
                  refine lv_goto (tgt := 15) hx hb dX3_nextField_73 (by decide) ?_
                  exact ih (k + 1) (some b0) (by omega) (by show _ = (if pCan M k then cBetter M k (cBest M k) else cBest M k); rw [if_pos ⟨c5, c7⟩, ← ho]; exact (if_neg c11).symm) (by omega) _ _ hP hD hS ls (lv_sub hl [0, 1, 2] rfl)
            · refine lv_goto (tgt := 70) hx hb dX3_nextField_50 (by decide) ?_
              refine lv_iinc (v := nI (k + 1)) (lv' := [(2, .int (nI (k + 1))), (1, .int (oI o)), (0, .ref (a 0))]) hx hb dX3_nextField_70 hl (k := 0) rfl (nI_add k 1) (by decide) rfl (fun ls hl => ?_)
              refine lv_goto (tgt := 15) hx hb dX3_nextField_73 (by decide) ?_
              exact ih (k + 1) o (by omega) (by show _ = (if pCan M k then cBetter M k (cBest M k) else cBest M k); rw [if_neg (fun h => c7 h.2)]; exact ho) (by omega) _ _ hP hD hS ls (lv_sub hl [0, 1, 2] rfl)
    exact loop15 ((nF M - 0) + 1) 0 none (Nat.lt_succ_self _) rfl (by omega) _ _ hP hD hS ls (lv_sub hl [0, 1, 2] rfl)
  · refine lv_bipush (v := (-6)) hx hb dX3_nextField_7 (by decide) ?_
    exact kiret (()) hQ hx hb hr hlocks hP hS dX3_nextField_9 (by unfold cNextO; rw [if_neg c2]; rfl)
set_option maxHeartbeats 4000000 in
set_option maxRecDepth 100000 in
theorem c_X3_bringLoad (l : Launch) (D : va_G) (Y : Nat → ClassId) (a : Nat → Nat) (M : kN) (f : Nat) (hI : cI M) (hf : f < nF M) : kM l yX3_bringLoad wX3_bringLoad rX3_bringLoad D Y (wM Y a M) [.ref (a 0), .int (nI f)] kX0 (kQv D (fun u => u = cBringLoad M f) (fun u => wM Y a u)) := by
  refine kentry (cc := cX3_bringLoad) (maxL := 5) (ret := none) (by decide +kernel) rfl (Nat.le_of_ble_eq_true rfl) ?_
  intro p e s m args below meth c A Q ls hQ hx hb hr hlocks hml hown hin hta hA hX hK hNs hP hD hS hl
  have hown : s.vm.findClass RX3 = some m.cls := hown
  have hl : lv_has ls 5 [(0, .ref (a 0)), (1, .int (nI f))] := hl
  have h30 := hI.f30
  have hg := hI.g hf
  refine lv_aload_n hx hb dX3_bringLoad_0 rfl (lv_at hl 0 rfl) ?_
  refine gfX3_9 (v := .ref (a 1)) hx hb hta hown hK hP 0 rfl rfl dX3_bringLoad_1 ?_
  refine lv_iconst (v := 1) hx hb dX3_bringLoad_4 (by decide) ?_
  refine kiald (f := M 0) hx hb hK hP 1 rfl 1 rfl (by omega) (by omega) dX3_bringLoad_5 ?_
  refine lv_aload_n hx hb dX3_bringLoad_6 rfl (lv_at hl 0 rfl) ?_
  refine gfX3_25 (v := .ref (a 8)) hx hb hta hown hK hP 0 rfl rfl dX3_bringLoad_7 ?_
  refine gfX3_154 (v := .ref (a 13)) hx hb hta hown hK hP 8 rfl rfl dX3_bringLoad_10 ?_
  refine lv_iload_n hx hb dX3_bringLoad_13 rfl (lv_at hl 1 rfl) ?_
  refine kiald (f := M 10) hx hb hK hP 13 rfl f rfl (by omega) (by omega) dX3_bringLoad_14 ?_
  refine va_mmin hx hb (by rw [hml]; exact hl.1.symm) hown (hta _ al_350) (hta _ al_132) (hta _ al_133) (hta _ al_134) (Nat.le_of_ble_eq_true rfl) (Nat.le_of_ble_eq_true rfl) (Nat.le_of_ble_eq_true rfl) (Nat.le_of_ble_eq_true rfl) dX3_bringLoad_15 ?_
  refine kTop (y := kmin (M 0 1) (M 10 f)) rfl ?_
  refine lv_istore_n (lv' := [(2, .int (kmin (M 0 1) (M 10 f))), (0, .ref (a 0)), (1, .int (nI f))]) hx hb dX3_bringLoad_18 rfl hl (by decide) rfl (fun ls hl => ?_)
  refine lv_iload_n hx hb dX3_bringLoad_19 rfl (lv_at hl 0 rfl) ?_
  refine lv_aload_n hx hb dX3_bringLoad_20 rfl (lv_at hl 1 rfl) ?_
  refine lv_iload_n hx hb dX3_bringLoad_21 rfl (lv_at hl 2 rfl) ?_
  refine kc_i (krV (As := [.int (nI f)]) (rest := [.int (kmin (M 0 1) (M 10 f))]) (c_X3_quotaOf l D Y a M f (by omega) (hg)) ⟨hx, hb, hml, hown, hta⟩ (cwX3_141 hta ⟨Nat.le_of_ble_eq_true rfl, Nat.le_of_ble_eq_true rfl⟩) kX0b (fun _ _ _ => trivial) hK hNs hP hD (kJ_all) (q0 := 0) rfl rfl rfl rfl hl.1 rfl (Nat.le_of_ble_eq_true rfl) dX3_bringLoad_22 ⟨Nat.le_of_ble_eq_true rfl, Nat.le_of_ble_eq_true rfl⟩) hP hD hS hA (kJ_all) (fun _ => rfl) (fun r1 u H locs hw hP hD hS => ?_)
  subst hw
  have hP : va_P D vwCl (wM Y a M) H := hP
  have hD : va_D A (wM Y a M) := hD
  refine lv_aload_n hx hb dX3_bringLoad_25 rfl (lv_at hl 1 rfl) ?_
  refine kc_i (krV (As := []) (rest := [.int (M 1 (gr M f)), .int (kmin (M 0 1) (M 10 f))]) (c_X3_room l D Y a M) ⟨hx, hb, hml, hown, hta⟩ (cwX3_134 hta ⟨Nat.le_of_ble_eq_true rfl, Nat.le_of_ble_eq_true rfl⟩) kX0b (fun _ _ _ => trivial) hK hNs hP hD (kJ_all) (q0 := 0) rfl rfl rfl rfl hl.1 rfl (Nat.le_of_ble_eq_true rfl) dX3_bringLoad_26 ⟨Nat.le_of_ble_eq_true rfl, Nat.le_of_ble_eq_true rfl⟩) hP hD hS hA (kJ_all) (fun _ => rfl) (fun r2 u H locs hw hP hD hS => ?_)
  subst hw
  have hP : va_P D vwCl (wM Y a M) H := hP
  have hD : va_D A (wM Y a M) := hD
  refine va_mmin hx hb (by rw [hml]; exact hl.1.symm) hown (hta _ al_350) (hta _ al_132) (hta _ al_133) (hta _ al_134) (Nat.le_of_ble_eq_true rfl) (Nat.le_of_ble_eq_true rfl) (Nat.le_of_ble_eq_true rfl) (Nat.le_of_ble_eq_true rfl) dX3_bringLoad_29 ?_
  refine kTop (y := kmin (M 1 (gr M f)) (cRoom M)) rfl ?_
  refine va_mmin hx hb (by rw [hml]; exact hl.1.symm) hown (hta _ al_350) (hta _ al_132) (hta _ al_133) (hta _ al_134) (Nat.le_of_ble_eq_true rfl) (Nat.le_of_ble_eq_true rfl) (Nat.le_of_ble_eq_true rfl) (Nat.le_of_ble_eq_true rfl) dX3_bringLoad_32 ?_
  refine kTop (y := kmin (kmin (M 0 1) (M 10 f)) (kmin (M 1 (gr M f)) (cRoom M))) rfl ?_
  refine lv_istore_n (lv' := [(3, .int (kmin (kmin (M 0 1) (M 10 f)) (kmin (M 1 (gr M f)) (cRoom M)))), (2, .int (kmin (M 0 1) (M 10 f))), (0, .ref (a 0)), (1, .int (nI f))]) hx hb dX3_bringLoad_35 rfl hl (by decide) rfl (fun ls hl => ?_)
  refine lv_aload_n hx hb dX3_bringLoad_36 rfl (lv_at hl 2 rfl) ?_
  refine gfX3_25 (v := .ref (a 8)) hx hb hta hown hK hP 0 rfl rfl dX3_bringLoad_37 ?_
  refine gfX3_119 (v := .ref (a 9)) hx hb hta hown hK hP 8 rfl rfl dX3_bringLoad_40 ?_
  refine lv_iload_n hx hb dX3_bringLoad_43 rfl (lv_at hl 3 rfl) ?_
  refine kiald (f := M 6) hx hb hK hP 9 rfl f rfl (by omega) (by omega) dX3_bringLoad_44 ?_
  refine kTop hg.1 ?_
  refine lv_istore (lv' := [(4, .int (nI (gr M f))), (3, .int (kmin (kmin (M 0 1) (M 10 f)) (kmin (M 1 (gr M f)) (cRoom M)))), (2, .int (kmin (M 0 1) (M 10 f))), (0, .ref (a 0)), (1, .int (nI f))]) hx hb dX3_bringLoad_45 hl (by decide) rfl (fun ls hl => ?_)
  refine lv_aload_n hx hb dX3_bringLoad_47 rfl (lv_at hl 3 rfl) ?_
  refine gfX3_18 (v := .ref (a 2)) hx hb hta hown hK hP 0 rfl rfl dX3_bringLoad_48 ?_
  refine gfX3_87 (v := .ref (a 3)) hx hb hta hown hK hP 2 rfl rfl dX3_bringLoad_51 ?_
  refine lv_iload hx hb dX3_bringLoad_54 (lv_at hl 0 rfl) ?_
  refine lv_dup2_11 hx hb dX3_bringLoad_56 rfl rfl ?_
  refine kiald (f := M 1) hx hb hK hP 3 rfl (gr M f) rfl (hg.2) (by omega) dX3_bringLoad_57 ?_
  refine lv_iload_n hx hb dX3_bringLoad_58 rfl (lv_at hl 1 rfl) ?_
  refine lv_isub hx hb dX3_bringLoad_59 ?_
  refine kiast (f := M 1) hx hb hK hP hD hS 3 rfl (gr M f) rfl (hg.2) (by omega) dX3_bringLoad_60 (wM Y a (sM M 1 (gr M f) ((M 1 (gr M f)) - (kmin (kmin (M 0 1) (M 10 f)) (kmin (M 1 (gr M f)) (cRoom M)))))) rfl (fun H locs hP hD hS => ?_)
  refine lv_aload_n hx hb dX3_bringLoad_61 rfl (lv_at hl 3 rfl) ?_
  refine gfX3_18 (v := .ref (a 2)) hx hb hta hown hK hP 0 rfl rfl dX3_bringLoad_62 ?_
  refine gfX3_162 (v := .ref (a 4)) hx hb hta hown hK hP 2 rfl rfl dX3_bringLoad_65 ?_
  refine lv_iload hx hb dX3_bringLoad_68 (lv_at hl 0 rfl) ?_
  refine lv_dup2_11 hx hb dX3_bringLoad_70 rfl rfl ?_
  refine kiald (f := M 2) hx hb hK hP 4 rfl (gr M f) rfl (hg.2) (by omega) dX3_bringLoad_71 ?_
  refine lv_iload_n hx hb dX3_bringLoad_72 rfl (lv_at hl 1 rfl) ?_
  refine lv_iadd hx hb dX3_bringLoad_73 ?_
  refine kiast (f := M 2) hx hb hK hP hD hS 4 rfl (gr M f) rfl (hg.2) (by omega) dX3_bringLoad_74 (wM Y a (sM (sM M 1 (gr M f) ((M 1 (gr M f)) - (kmin (kmin (M 0 1) (M 10 f)) (kmin (M 1 (gr M f)) (cRoom M))))) 2 (gr M f) ((M 2 (gr M f)) + (kmin (kmin (M 0 1) (M 10 f)) (kmin (M 1 (gr M f)) (cRoom M)))))) rfl (fun H locs hP hD hS => ?_)
  refine lv_aload_n hx hb dX3_bringLoad_75 rfl (lv_at hl 3 rfl) ?_
  refine gfX3_25 (v := .ref (a 8)) hx hb hta hown hK hP 0 rfl rfl dX3_bringLoad_76 ?_
  refine gfX3_154 (v := .ref (a 13)) hx hb hta hown hK hP 8 rfl rfl dX3_bringLoad_79 ?_
  refine lv_iload_n hx hb dX3_bringLoad_82 rfl (lv_at hl 4 rfl) ?_
  refine lv_dup2_11 hx hb dX3_bringLoad_83 rfl rfl ?_
  refine kiald (f := M 10) hx hb hK hP 13 rfl f rfl (by omega) (by omega) dX3_bringLoad_84 ?_
  refine lv_iload_n hx hb dX3_bringLoad_85 rfl (lv_at hl 1 rfl) ?_
  refine lv_isub hx hb dX3_bringLoad_86 ?_
  refine kiast (f := M 10) hx hb hK hP hD hS 13 rfl f rfl (by omega) (by omega) dX3_bringLoad_87 (wM Y a (sM (sM (sM M 1 (gr M f) ((M 1 (gr M f)) - (kmin (kmin (M 0 1) (M 10 f)) (kmin (M 1 (gr M f)) (cRoom M))))) 2 (gr M f) ((M 2 (gr M f)) + (kmin (kmin (M 0 1) (M 10 f)) (kmin (M 1 (gr M f)) (cRoom M))))) 10 f ((M 10 f) - (kmin (kmin (M 0 1) (M 10 f)) (kmin (M 1 (gr M f)) (cRoom M)))))) rfl (fun H locs hP hD hS => ?_)
  refine lv_aload_n hx hb dX3_bringLoad_88 rfl (lv_at hl 3 rfl) ?_
  refine gfX3_25 (v := .ref (a 8)) hx hb hta hown hK hP 0 rfl rfl dX3_bringLoad_89 ?_
  refine gfX3_165 (v := .ref (a 14)) hx hb hta hown hK hP 8 rfl rfl dX3_bringLoad_92 ?_
  refine lv_iload_n hx hb dX3_bringLoad_95 rfl (lv_at hl 4 rfl) ?_
  refine lv_dup2_11 hx hb dX3_bringLoad_96 rfl rfl ?_
  refine kiald (f := M 11) hx hb hK hP 14 rfl f rfl (by omega) (by omega) dX3_bringLoad_97 ?_
  refine lv_iload_n hx hb dX3_bringLoad_98 rfl (lv_at hl 1 rfl) ?_
  refine lv_iadd hx hb dX3_bringLoad_99 ?_
  refine kiast (f := M 11) hx hb hK hP hD hS 14 rfl f rfl (by omega) (by omega) dX3_bringLoad_100 (wM Y a (sM (sM (sM (sM M 1 (gr M f) ((M 1 (gr M f)) - (kmin (kmin (M 0 1) (M 10 f)) (kmin (M 1 (gr M f)) (cRoom M))))) 2 (gr M f) ((M 2 (gr M f)) + (kmin (kmin (M 0 1) (M 10 f)) (kmin (M 1 (gr M f)) (cRoom M))))) 10 f ((M 10 f) - (kmin (kmin (M 0 1) (M 10 f)) (kmin (M 1 (gr M f)) (cRoom M))))) 11 f ((M 11 f) + (kmin (kmin (M 0 1) (M 10 f)) (kmin (M 1 (gr M f)) (cRoom M)))))) rfl (fun H locs hP hD hS => ?_)
  refine lv_aload_n hx hb dX3_bringLoad_101 rfl (lv_at hl 3 rfl) ?_
  refine gfX3_39 (v := .ref (a 20)) hx hb hta hown hK hP 0 rfl rfl dX3_bringLoad_102 ?_
  refine lv_iload_n hx hb dX3_bringLoad_105 rfl (lv_at hl 4 rfl) ?_
  refine lv_iload_n hx hb dX3_bringLoad_106 rfl (lv_at hl 1 rfl) ?_
  refine lv_aload_n hx hb dX3_bringLoad_107 rfl (lv_at hl 3 rfl) ?_
  refine gfX3_60 (v := .int (M 19 0)) hx hb hta hown hK hP 0 rfl rfl dX3_bringLoad_108 ?_
  refine kc_v (krV (As := [.int (nI f), .int (kmin (kmin (M 0 1) (M 10 f)) (kmin (M 1 (gr M f)) (cRoom M))), .int (M 19 0)]) (rest := []) (c_X6_append l D Y a (sM (sM (sM (sM M 1 (gr M f) ((M 1 (gr M f)) - (kmin (kmin (M 0 1) (M 10 f)) (kmin (M 1 (gr M f)) (cRoom M))))) 2 (gr M f) ((M 2 (gr M f)) + (kmin (kmin (M 0 1) (M 10 f)) (kmin (M 1 (gr M f)) (cRoom M))))) 10 f ((M 10 f) - (kmin (kmin (M 0 1) (M 10 f)) (kmin (M 1 (gr M f)) (cRoom M))))) 11 f ((M 11 f) + (kmin (kmin (M 0 1) (M 10 f)) (kmin (M 1 (gr M f)) (cRoom M))))) (nI f) (kmin (kmin (M 0 1) (M 10 f)) (kmin (M 1 (gr M f)) (cRoom M))) (M 19 0) (cLeaves_I hI f)) ⟨hx, hb, hml, hown, hta⟩ (cwX3_168 hta ⟨Nat.le_of_ble_eq_true rfl, Nat.le_of_ble_eq_true rfl⟩) kX0b (fun _ _ _ => trivial) hK hNs hP hD (kJ_all) (q0 := 20) rfl rfl rfl rfl hl.1 rfl (Nat.le_of_ble_eq_true rfl) dX3_bringLoad_111 ⟨Nat.le_of_ble_eq_true rfl, Nat.le_of_ble_eq_true rfl⟩) hP hD hS hA (kJ_all) (fun _ => rfl) (fun u H locs hw hP hD hS => ?_)
  subst hw
  have hP : va_P D vwCl (wM Y a (cAppend (sM (sM (sM (sM M 1 (gr M f) ((M 1 (gr M f)) - (kmin (kmin (M 0 1) (M 10 f)) (kmin (M 1 (gr M f)) (cRoom M))))) 2 (gr M f) ((M 2 (gr M f)) + (kmin (kmin (M 0 1) (M 10 f)) (kmin (M 1 (gr M f)) (cRoom M))))) 10 f ((M 10 f) - (kmin (kmin (M 0 1) (M 10 f)) (kmin (M 1 (gr M f)) (cRoom M))))) 11 f ((M 11 f) + (kmin (kmin (M 0 1) (M 10 f)) (kmin (M 1 (gr M f)) (cRoom M))))) (nI f) (kmin (kmin (M 0 1) (M 10 f)) (kmin (M 1 (gr M f)) (cRoom M))) (M 19 0))) H := hP
  have hD : va_D A (wM Y a (cAppend (sM (sM (sM (sM M 1 (gr M f) ((M 1 (gr M f)) - (kmin (kmin (M 0 1) (M 10 f)) (kmin (M 1 (gr M f)) (cRoom M))))) 2 (gr M f) ((M 2 (gr M f)) + (kmin (kmin (M 0 1) (M 10 f)) (kmin (M 1 (gr M f)) (cRoom M))))) 10 f ((M 10 f) - (kmin (kmin (M 0 1) (M 10 f)) (kmin (M 1 (gr M f)) (cRoom M))))) 11 f ((M 11 f) + (kmin (kmin (M 0 1) (M 10 f)) (kmin (M 1 (gr M f)) (cRoom M))))) (nI f) (kmin (kmin (M 0 1) (M 10 f)) (kmin (M 1 (gr M f)) (cRoom M))) (M 19 0))) := hD
  refine lv_aload_n hx hb dX3_bringLoad_114 rfl (lv_at hl 3 rfl) ?_
  refine lv_dup hx hb dX3_bringLoad_115 rfl ?_
  refine gfX3_67 (v := .int ((cAppend (sM (sM (sM (sM M 1 (gr M f) ((M 1 (gr M f)) - (kmin (kmin (M 0 1) (M 10 f)) (kmin (M 1 (gr M f)) (cRoom M))))) 2 (gr M f) ((M 2 (gr M f)) + (kmin (kmin (M 0 1) (M 10 f)) (kmin (M 1 (gr M f)) (cRoom M))))) 10 f ((M 10 f) - (kmin (kmin (M 0 1) (M 10 f)) (kmin (M 1 (gr M f)) (cRoom M))))) 11 f ((M 11 f) + (kmin (kmin (M 0 1) (M 10 f)) (kmin (M 1 (gr M f)) (cRoom M))))) (nI f) (kmin (kmin (M 0 1) (M 10 f)) (kmin (M 1 (gr M f)) (cRoom M))) (M 19 0)) 19 2)) hx hb hta hown hK hP 0 rfl rfl dX3_bringLoad_116 ?_
  refine lv_iconst (v := 1) hx hb dX3_bringLoad_119 (by decide) ?_
  refine lv_iadd hx hb dX3_bringLoad_120 ?_
  refine pfX3_67 (ws1 := wM Y a (sM (cAppend (sM (sM (sM (sM M 1 (gr M f) ((M 1 (gr M f)) - (kmin (kmin (M 0 1) (M 10 f)) (kmin (M 1 (gr M f)) (cRoom M))))) 2 (gr M f) ((M 2 (gr M f)) + (kmin (kmin (M 0 1) (M 10 f)) (kmin (M 1 (gr M f)) (cRoom M))))) 10 f ((M 10 f) - (kmin (kmin (M 0 1) (M 10 f)) (kmin (M 1 (gr M f)) (cRoom M))))) 11 f ((M 11 f) + (kmin (kmin (M 0 1) (M 10 f)) (kmin (M 1 (gr M f)) (cRoom M))))) (nI f) (kmin (kmin (M 0 1) (M 10 f)) (kmin (M 1 (gr M f)) (cRoom M))) (M 19 0)) 19 2 (((cAppend (sM (sM (sM (sM M 1 (gr M f) ((M 1 (gr M f)) - (kmin (kmin (M 0 1) (M 10 f)) (kmin (M 1 (gr M f)) (cRoom M))))) 2 (gr M f) ((M 2 (gr M f)) + (kmin (kmin (M 0 1) (M 10 f)) (kmin (M 1 (gr M f)) (cRoom M))))) 10 f ((M 10 f) - (kmin (kmin (M 0 1) (M 10 f)) (kmin (M 1 (gr M f)) (cRoom M))))) 11 f ((M 11 f) + (kmin (kmin (M 0 1) (M 10 f)) (kmin (M 1 (gr M f)) (cRoom M))))) (nI f) (kmin (kmin (M 0 1) (M 10 f)) (kmin (M 1 (gr M f)) (cRoom M))) (M 19 0)) 19 2) + 1))) hx hb hta hown hK hP hD hS 0 rfl (Nat.le_of_ble_eq_true rfl) rfl dX3_bringLoad_121 (fun H locs hP hD hS => ?_)
  exact kvret (sM (cAppend (sM (sM (sM (sM M 1 (gr M f) ((M 1 (gr M f)) - (kmin (kmin (M 0 1) (M 10 f)) (kmin (M 1 (gr M f)) (cRoom M))))) 2 (gr M f) ((M 2 (gr M f)) + (kmin (kmin (M 0 1) (M 10 f)) (kmin (M 1 (gr M f)) (cRoom M))))) 10 f ((M 10 f) - (kmin (kmin (M 0 1) (M 10 f)) (kmin (M 1 (gr M f)) (cRoom M))))) 11 f ((M 11 f) + (kmin (kmin (M 0 1) (M 10 f)) (kmin (M 1 (gr M f)) (cRoom M))))) (nI f) (kmin (kmin (M 0 1) (M 10 f)) (kmin (M 1 (gr M f)) (cRoom M))) (M 19 0)) 19 2 (((cAppend (sM (sM (sM (sM M 1 (gr M f) ((M 1 (gr M f)) - (kmin (kmin (M 0 1) (M 10 f)) (kmin (M 1 (gr M f)) (cRoom M))))) 2 (gr M f) ((M 2 (gr M f)) + (kmin (kmin (M 0 1) (M 10 f)) (kmin (M 1 (gr M f)) (cRoom M))))) 10 f ((M 10 f) - (kmin (kmin (M 0 1) (M 10 f)) (kmin (M 1 (gr M f)) (cRoom M))))) 11 f ((M 11 f) + (kmin (kmin (M 0 1) (M 10 f)) (kmin (M 1 (gr M f)) (cRoom M))))) (nI f) (kmin (kmin (M 0 1) (M 10 f)) (kmin (M 1 (gr M f)) (cRoom M))) (M 19 0)) 19 2) + 1)) hQ hx hb hr hlocks hP hS dX3_bringLoad_124 rfl
set_option maxHeartbeats 4000000 in
set_option maxRecDepth 100000 in
theorem c_X3_bringLoads (l : Launch) (D : va_G) (Y : Nat → ClassId) (a : Nat → Nat) (M : kN) (hI : cI M) : kM l yX3_bringLoads wX3_bringLoads rX3_bringLoads D Y (wM Y a M) [.ref (a 0)] kX0 (kQv D (fun u => u = cBring M) (fun u => wM Y a u)) := by
  refine kentry (cc := cX3_bringLoads) (maxL := 3) (ret := none) (by decide +kernel) rfl (Nat.le_of_ble_eq_true rfl) ?_
  intro p e s m args below meth c A Q ls hQ hx hb hr hlocks hml hown hin hta hA hX hK hNs hP hD hS hl
  have hown : s.vm.findClass RX3 = some m.cls := hown
  have hl : lv_has ls 3 [(0, .ref (a 0))] := hl
  have h20 := hI.t20
  refine lv_iconst (v := 0) hx hb dX3_bringLoads_0 (by decide) ?_
  refine lv_istore_n (lv' := [(1, .int 0), (0, .ref (a 0))]) hx hb dX3_bringLoads_1 rfl hl (by decide) rfl (fun ls hl => ?_)
  have loop2 : ∀ (n : Nat) (t : Nat) (N : kN), nT M - t < n → cBringTo M t = N → t ≤ nT M → ∀ (H : Heap) (locs : List Loc), va_P D vwCl (wM Y a N) H → va_D A (wM Y a N) → va_S A s.heap H locs → ∀ (ls : Array Slot), lv_has ls 3 [(1, .int (nI t)), (0, .ref (a 0))] → W p l e rX3_bringLoads s m args below meth c H locs 0 0 Q (F0 m 2 ls []) := by
    intro n
    induction n with
    | zero => intro t N hmu; exact absurd hmu (Nat.not_lt_zero _)
    | succ n ih =>
      intro t N hmu hN ht H locs hP hD hS ls hl
      obtain ⟨hIN, eF, e0⟩ : cI N ∧ nF N = nF M ∧ ∀ k, N 0 k = M 0 k := hN ▸ cBringTo_I hI t
      have eT : N 0 0 = nI (nT M) := by rw [e0, hI.t]
      refine lv_iload_n hx hb dX3_bringLoads_2 rfl (lv_at hl 0 rfl) ?_
      refine lv_aload_n hx hb dX3_bringLoads_3 rfl (lv_at hl 1 rfl) ?_
      refine gfX3_9 (v := .ref (a 1)) hx hb hta hown hK hP 0 rfl rfl dX3_bringLoads_4 ?_
      refine lv_iconst (v := 0) hx hb dX3_bringLoads_7 (by decide) ?_
      refine kiald (f := N 0) hx hb hK hP 1 rfl 0 rfl (by omega) (by omega) dX3_bringLoads_8 ?_
      refine kTop eT ?_
      refine lv_icmp_ge (tgt := 35) hx hb dX3_bringLoads_9 (by decide) (fun c1 => ?_) (fun c1 => ?_)
      · have c1n : (nT M) ≤ t := (nI_leI (a := nT M) (b := t) (by omega) (by omega)).mp c1
        exact kvret (N) hQ hx hb hr hlocks hP hS dX3_bringLoads_35 (by have ht2 : t = nT M := (by omega); subst ht2; exact hN.symm)
      · have c1n : ¬ (nT M) ≤ t := fun h => c1 ((nI_leI (a := nT M) (b := t) (by omega) (by omega)).mpr h)
        refine lv_aload_n hx hb dX3_bringLoads_12 rfl (lv_at hl 1 rfl) ?_
        refine kc_i (krV (As := []) (rest := []) (c_X3_nextField l D Y a N hIN) ⟨hx, hb, hml, hown, hta⟩ (cwX3_126 hta ⟨Nat.le_of_ble_eq_true rfl, Nat.le_of_ble_eq_true rfl⟩) kX0b (fun _ _ _ => trivial) hK hNs hP hD (kJ_all) (q0 := 0) rfl rfl rfl rfl hl.1 rfl (Nat.le_of_ble_eq_true rfl) dX3_bringLoads_13 ⟨Nat.le_of_ble_eq_true rfl, Nat.le_of_ble_eq_true rfl⟩) hP hD hS hA (kJ_all) (fun _ => rfl) (fun r2 u H locs hw hP hD hS => ?_)
        subst hw
        have hP : va_P D vwCl (wM Y a N) H := hP
        have hD : va_D A (wM Y a N) := hD
        rcases hc : cNextO N with _ | f
        · refine kTop (y := (-6)) rfl ?_
          refine lv_istore_n (lv' := [(2, .int (-6)), (1, .int (nI t)), (0, .ref (a 0))]) hx hb dX3_bringLoads_16 rfl hl (by decide) rfl (fun ls hl => ?_)
          refine lv_iload_n hx hb dX3_bringLoads_17 rfl (lv_at hl 0 rfl) ?_
          refine lv_bipush (v := (-6)) hx hb dX3_bringLoads_18 (by decide) ?_
          refine lv_icmp_ne (tgt := 24) hx hb dX3_bringLoads_20 (by decide) (fun h => absurd rfl h) (fun _ => ?_)
          exact kvret (N) hQ hx hb hr hlocks hP hS dX3_bringLoads_23 (by have e := cBringTo_stop (M := M) (t := t) (by rw [hN]; exact hc) (nT M - t); rw [show t + (nT M - t) = nT M by omega, hN] at e; exact e.symm)
        · refine kTop (y := nI f) rfl ?_
          have hfN : f < nF N := cNextO_lt hc
          have h30N := hIN.f30
          refine lv_istore_n (lv' := [(2, .int (nI f)), (1, .int (nI t)), (0, .ref (a 0))]) hx hb dX3_bringLoads_16 rfl hl (by decide) rfl (fun ls hl => ?_)
          refine lv_iload_n hx hb dX3_bringLoads_17 rfl (lv_at hl 0 rfl) ?_
          refine lv_bipush (v := (-6)) hx hb dX3_bringLoads_18 (by decide) ?_
          refine lv_icmp_ne (tgt := 24) hx hb dX3_bringLoads_20 (by decide) (fun _ => ?_) (fun h => absurd h (oI_ne (by omega)))
          refine lv_aload_n hx hb dX3_bringLoads_24 rfl (lv_at hl 2 rfl) ?_
          refine lv_iload_n hx hb dX3_bringLoads_25 rfl (lv_at hl 0 rfl) ?_
          refine kc_v (krV (As := [.int (nI f)]) (rest := []) (c_X3_bringLoad l D Y a N f hIN hfN) ⟨hx, hb, hml, hown, hta⟩ (cwX3_130 hta ⟨Nat.le_of_ble_eq_true rfl, Nat.le_of_ble_eq_true rfl⟩) kX0b (fun _ _ _ => trivial) hK hNs hP hD (kJ_all) (q0 := 0) rfl rfl rfl rfl hl.1 rfl (Nat.le_of_ble_eq_true rfl) dX3_bringLoads_26 ⟨Nat.le_of_ble_eq_true rfl, Nat.le_of_ble_eq_true rfl⟩) hP hD hS hA (kJ_all) (fun _ => rfl) (fun u H locs hw hP hD hS => ?_)
          subst hw
          have hP : va_P D vwCl (wM Y a (cBringLoad N f)) H := hP
          have hD : va_D A (wM Y a (cBringLoad N f)) := hD
          refine lv_iinc (v := nI (t + 1)) (lv' := [(1, .int (nI (t + 1))), (2, .int (nI f)), (0, .ref (a 0))]) hx hb dX3_bringLoads_29 hl (k := 1) rfl (nI_add t 1) (by decide) rfl (fun ls hl => ?_)
          refine lv_goto (tgt := 2) hx hb dX3_bringLoads_32 (by decide) ?_
          exact ih (t + 1) (cBringLoad N f) (by omega) (by show cBringStep (cBringTo M t) = _; rw [hN, cBringStep_s hc]) (by omega) _ _ hP hD hS ls (lv_sub hl [0, 2] rfl)
  exact loop2 ((nT M - 0) + 1) 0 M (Nat.lt_succ_self _) rfl (by omega) _ _ hP hD hS ls (lv_sub hl [0, 1] rfl)
set_option maxHeartbeats 4000000 in
set_option maxRecDepth 100000 in
theorem c_X5_isStopped (l : Launch) (D : va_G) (Y : Nat → ClassId) (a : Nat → Nat) (M : kN) (d : Int32) (hI : cI M) : kM l yX5_isStopped wX5_isStopped rX5_isStopped D Y (wM Y a M) [.ref (a 17), .int d] kX0 (kQi D (fun r (_ : Unit) => r = kb (cStopped M d = true)) (fun _ => wM Y a M)) := by
  refine kentry (cc := cX5_isStopped) (maxL := 3) (ret := (some .boolean)) (by decide +kernel) rfl (Nat.le_of_ble_eq_true rfl) ?_
  intro p e s m args below meth c A Q ls hQ hx hb hr hlocks hml hown hin hta hA hX hK hNs hP hD hS hl
  have hown : s.vm.findClass RX5 = some m.cls := hown
  have hl : lv_has ls 3 [(0, .ref (a 17)), (1, .int d)] := hl
  have h5 := hI.s5
  refine lv_iconst (v := 0) hx hb dX5_isStopped_0 (by decide) ?_
  refine lv_istore_n (lv' := [(2, .int 0), (0, .ref (a 17)), (1, .int d)]) hx hb dX5_isStopped_1 rfl hl (by decide) rfl (fun ls hl => ?_)
  have loop2 : ∀ (n : Nat) (k : Nat), nS M - k < n → cStopTo M d k = false → k ≤ nS M → ∀ (H : Heap) (locs : List Loc), va_P D vwCl (wM Y a M) H → va_D A (wM Y a M) → va_S A s.heap H locs → ∀ (ls : Array Slot), lv_has ls 3 [(2, .int (nI k)), (0, .ref (a 17)), (1, .int d)] → W p l e rX5_isStopped s m args below meth c H locs 0 0 Q (F0 m 2 ls []) := by
    intro n
    induction n with
    | zero => intro k hmu; exact absurd hmu (Nat.not_lt_zero _)
    | succ n ih =>
      intro k hmu ho hk H locs hP hD hS ls hl
      refine lv_iload_n hx hb dX5_isStopped_2 rfl (lv_at hl 0 rfl) ?_
      refine lv_aload_n hx hb dX5_isStopped_3 rfl (lv_at hl 1 rfl) ?_
      refine gfX5_18 (v := .int (M 19 5)) hx hb hta hown hK hP 17 rfl rfl dX5_isStopped_4 ?_
      refine kTop hI.s ?_
      refine lv_icmp_ge (tgt := 37) hx hb dX5_isStopped_7 (by decide) (fun c1 => ?_) (fun c1 => ?_)
      · have c1n : (nS M) ≤ k := (nI_leI (a := nS M) (b := k) (by omega) (by omega)).mp c1
        refine lv_iconst (v := 0) hx hb dX5_isStopped_37 (by decide) ?_
        exact kzret (()) hQ hx hb hr hlocks hP hS dX5_isStopped_38 (by first | exact Or.inl rfl | exact Or.inr rfl | exact kb_01 _) (by have hk2 : k = nS M := (by omega); subst hk2; refine (kb_f ?_).symm; unfold cStopped; rw [ho]; decide)
      · have c1n : ¬ (nS M) ≤ k := fun h => c1 ((nI_leI (a := nS M) (b := k) (by omega) (by omega)).mpr h)
        refine lv_iload_n hx hb dX5_isStopped_10 rfl (lv_at hl 2 rfl) ?_
        refine lv_aload_n hx hb dX5_isStopped_11 rfl (lv_at hl 1 rfl) ?_
        refine gfX5_9 (v := .ref (a 18)) hx hb hta hown hK hP 17 rfl rfl dX5_isStopped_12 ?_
        refine lv_iload_n hx hb dX5_isStopped_15 rfl (lv_at hl 0 rfl) ?_
        refine kiald (f := M 14) hx hb hK hP 18 rfl k rfl (by omega) (by omega) dX5_isStopped_16 ?_
        refine lv_aload_n hx hb dX5_isStopped_17 rfl (lv_at hl 1 rfl) ?_
        refine gfX5_15 (v := .ref (a 19)) hx hb hta hown hK hP 17 rfl rfl dX5_isStopped_18 ?_
        refine lv_iload_n hx hb dX5_isStopped_21 rfl (lv_at hl 0 rfl) ?_
        refine kiald (f := M 15) hx hb hK hP 19 rfl k rfl (by omega) (by omega) dX5_isStopped_22 ?_
        refine kc_i (krSN (As := [.int d, .int (M 14 k), .int (M 15 k)]) (rest := []) (c_X7_isWithin l D Y d (M 14 k) (M 15 k)) ⟨hx, hb, hml, hown, hta⟩ (cwX5_26 hta hNs ⟨Nat.le_of_ble_eq_true rfl, Nat.le_of_ble_eq_true rfl⟩) kX0b (fun _ _ _ => trivial) hK hNs hP hD (kJ_nil) rfl hl.1 rfl (Nat.le_of_ble_eq_true rfl) dX5_isStopped_23 ⟨Nat.le_of_ble_eq_true rfl, Nat.le_of_ble_eq_true rfl⟩) hP hD hS hA (kJ_nil) (fun _ => rfl) (fun r2 u H locs hw hP hD hS => ?_)
        subst hw
        have hP : va_P D vwCl (wM Y a M) H := hP
        have hD : va_D A (wM Y a M) := hD
        by_cases c3 : pIn d (M 14 k) (M 15 k)
        · refine kTop (kb_t c3) ?_
          refine lv_if_eq (tgt := 31) hx hb dX5_isStopped_26 (by decide) (fun h => False.elim (by revert h; decide)) (fun _ => ?_)
          refine lv_iconst (v := 1) hx hb dX5_isStopped_29 (by decide) ?_
          exact kzret (()) hQ hx hb hr hlocks hP hS dX5_isStopped_30 (by first | exact Or.inl rfl | exact Or.inr rfl | exact kb_01 _) (by refine (kb_t ?_).symm; have e : cStopTo M d (k + 1) = true := by { show (cStopTo M d k || decide (pIn d (M 14 k) (M 15 k))) = true; rw [decide_eq_true c3, Bool.or_true] }; have e2 := cStopTo_on e (nS M - (k + 1)); rw [show k + 1 + (nS M - (k + 1)) = nS M by omega] at e2; exact e2)
        · refine kTop (kb_f c3) ?_
          refine lv_if_eq (tgt := 31) hx hb dX5_isStopped_26 (by decide) (fun _ => ?_) (fun h => False.elim (by revert h; decide))
          refine lv_iinc (v := nI (k + 1)) (lv' := [(2, .int (nI (k + 1))), (0, .ref (a 17)), (1, .int d)]) hx hb dX5_isStopped_31 hl (k := 0) rfl (nI_add k 1) (by decide) rfl (fun ls hl => ?_)
          refine lv_goto (tgt := 2) hx hb dX5_isStopped_34 (by decide) ?_
          exact ih (k + 1) (by omega) (by show (cStopTo M d k || decide (pIn d (M 14 k) (M 15 k))) = false; rw [ho]; simp only [decide_eq_false c3]; rfl) (by omega) _ _ hP hD hS ls (lv_sub hl [0, 1, 2] rfl)
  exact loop2 ((nS M - 0) + 1) 0 (Nat.lt_succ_self _) rfl (by omega) _ _ hP hD hS ls (lv_sub hl [0, 1, 2] rfl)
set_option maxHeartbeats 4000000 in
set_option maxRecDepth 100000 in
theorem c_X3_crushPart (l : Launch) (D : va_G) (Y : Nat → ClassId) (a : Nat → Nat) (M : kN) (f : Nat) (t : Int32) (hf : f < 30) (hg : M 6 f = nI (gr M f) ∧ gr M f < 6) : kM l yX3_crushPart wX3_crushPart rX3_crushPart D Y (wM Y a M) [.ref (a 0), .int (nI f), .int t] kX0 (kQv D (fun u => u = cCrushPart M f t) (fun u => wM Y a u)) := by
  refine kentry (cc := cX3_crushPart) (maxL := 5) (ret := none) (by decide +kernel) rfl (Nat.le_of_ble_eq_true rfl) ?_
  intro p e s m args below meth c A Q ls hQ hx hb hr hlocks hml hown hin hta hA hX hK hNs hP hD hS hl
  have hown : s.vm.findClass RX3 = some m.cls := hown
  have hl : lv_has ls 5 [(0, .ref (a 0)), (1, .int (nI f)), (2, .int t)] := hl
  refine lv_aload_n hx hb dX3_crushPart_0 rfl (lv_at hl 0 rfl) ?_
  refine gfX3_25 (v := .ref (a 8)) hx hb hta hown hK hP 0 rfl rfl dX3_crushPart_1 ?_
  refine gfX3_119 (v := .ref (a 9)) hx hb hta hown hK hP 8 rfl rfl dX3_crushPart_4 ?_
  refine lv_iload_n hx hb dX3_crushPart_7 rfl (lv_at hl 1 rfl) ?_
  refine kiald (f := M 6) hx hb hK hP 9 rfl f rfl (by omega) (by omega) dX3_crushPart_8 ?_
  refine kTop hg.1 ?_
  refine lv_istore_n (lv' := [(3, .int (nI (gr M f))), (0, .ref (a 0)), (1, .int (nI f)), (2, .int t)]) hx hb dX3_crushPart_9 rfl hl (by decide) rfl (fun ls hl => ?_)
  refine lv_aload_n hx hb dX3_crushPart_10 rfl (lv_at hl 1 rfl) ?_
  refine gfX3_25 (v := .ref (a 8)) hx hb hta hown hK hP 0 rfl rfl dX3_crushPart_11 ?_
  refine lv_iload_n hx hb dX3_crushPart_14 rfl (lv_at hl 2 rfl) ?_
  refine lv_aload_n hx hb dX3_crushPart_15 rfl (lv_at hl 1 rfl) ?_
  refine gfX3_60 (v := .int (M 19 0)) hx hb hta hown hK hP 0 rfl rfl dX3_crushPart_16 ?_
  refine lv_aload_n hx hb dX3_crushPart_19 rfl (lv_at hl 1 rfl) ?_
  refine gfX3_9 (v := .ref (a 1)) hx hb hta hown hK hP 0 rfl rfl dX3_crushPart_20 ?_
  refine lv_iconst (v := 4) hx hb dX3_crushPart_23 (by decide) ?_
  refine kiald (f := M 0) hx hb hK hP 1 rfl 4 rfl (by omega) (by omega) dX3_crushPart_24 ?_
  refine kc_i (krV (As := [.int (nI f), .int (M 19 0), .int (M 0 4)]) (rest := []) (c_X0_purityOn l D Y a M f (M 19 0) (M 0 4) (hf)) ⟨hx, hb, hml, hown, hta⟩ (cwX3_187 hta ⟨Nat.le_of_ble_eq_true rfl, Nat.le_of_ble_eq_true rfl⟩) kX0b (fun _ _ _ => trivial) hK hNs hP hD (kJ_all) (q0 := 8) rfl rfl rfl rfl hl.1 rfl (Nat.le_of_ble_eq_true rfl) dX3_crushPart_25 ⟨Nat.le_of_ble_eq_true rfl, Nat.le_of_ble_eq_true rfl⟩) hP hD hS hA (kJ_all) (fun _ => rfl) (fun r1 u H locs hw hP hD hS => ?_)
  subst hw
  have hP : va_P D vwCl (wM Y a M) H := hP
  have hD : va_D A (wM Y a M) := hD
  refine lv_istore (lv' := [(4, .int (sPur (M 9 f) (M 8 f) (M 19 0) (M 0 4))), (3, .int (nI (gr M f))), (0, .ref (a 0)), (1, .int (nI f)), (2, .int t)]) hx hb dX3_crushPart_28 hl (by decide) rfl (fun ls hl => ?_)
  refine lv_aload_n hx hb dX3_crushPart_30 rfl (lv_at hl 2 rfl) ?_
  refine lv_dup hx hb dX3_crushPart_31 rfl ?_
  refine gfX3_64 (v := .int (M 19 1)) hx hb hta hown hK hP 0 rfl rfl dX3_crushPart_32 ?_
  refine lv_iload_n hx hb dX3_crushPart_35 rfl (lv_at hl 4 rfl) ?_
  refine lv_iload hx hb dX3_crushPart_36 (lv_at hl 0 rfl) ?_
  refine lv_imul hx hb dX3_crushPart_38 ?_
  refine lv_bipush (v := 100) hx hb dX3_crushPart_39 (by decide) ?_
  refine lv_idiv hx hb dX3_crushPart_41 (by decide) ?_
  refine lv_iadd hx hb dX3_crushPart_42 ?_
  refine pfX3_64 (ws1 := wM Y a (sM M 19 1 ((M 19 1) + ((t * (sPur (M 9 f) (M 8 f) (M 19 0) (M 0 4))) / 100)))) hx hb hta hown hK hP hD hS 0 rfl (Nat.le_of_ble_eq_true rfl) rfl dX3_crushPart_43 (fun H locs hP hD hS => ?_)
  refine lv_aload_n hx hb dX3_crushPart_46 rfl (lv_at hl 2 rfl) ?_
  refine gfX3_18 (v := .ref (a 2)) hx hb hta hown hK hP 0 rfl rfl dX3_crushPart_47 ?_
  refine gfX3_191 (v := .ref (a 7)) hx hb hta hown hK hP 2 rfl rfl dX3_crushPart_50 ?_
  refine lv_iload_n hx hb dX3_crushPart_53 rfl (lv_at hl 1 rfl) ?_
  refine lv_dup2_11 hx hb dX3_crushPart_54 rfl rfl ?_
  refine kiald (f := M 5) hx hb hK hP 7 rfl (gr M f) rfl (hg.2) (by omega) dX3_crushPart_55 ?_
  refine lv_iload_n hx hb dX3_crushPart_56 rfl (lv_at hl 4 rfl) ?_
  refine lv_iload hx hb dX3_crushPart_57 (lv_at hl 0 rfl) ?_
  refine lv_imul hx hb dX3_crushPart_59 ?_
  refine lv_aload_n hx hb dX3_crushPart_60 rfl (lv_at hl 2 rfl) ?_
  refine gfX3_9 (v := .ref (a 1)) hx hb hta hown hK hP 0 rfl rfl dX3_crushPart_61 ?_
  refine lv_bipush (v := 6) hx hb dX3_crushPart_64 (by decide) ?_
  refine kiald (f := M 0) hx hb hK hP 1 rfl 6 rfl (by omega) (by omega) dX3_crushPart_66 ?_
  refine lv_imul hx hb dX3_crushPart_67 ?_
  refine lv_bipush (v := 100) hx hb dX3_crushPart_68 (by decide) ?_
  refine lv_idiv hx hb dX3_crushPart_70 (by decide) ?_
  refine lv_iadd hx hb dX3_crushPart_71 ?_
  refine kiast (f := M 5) hx hb hK hP hD hS 7 rfl (gr M f) rfl (hg.2) (by omega) dX3_crushPart_72 (wM Y a (sM (sM M 19 1 ((M 19 1) + ((t * (sPur (M 9 f) (M 8 f) (M 19 0) (M 0 4))) / 100))) 5 (gr M f) ((M 5 (gr M f)) + (((t * (sPur (M 9 f) (M 8 f) (M 19 0) (M 0 4))) * (M 0 6)) / 100)))) rfl (fun H locs hP hD hS => ?_)
  refine lv_aload_n hx hb dX3_crushPart_73 rfl (lv_at hl 2 rfl) ?_
  refine gfX3_18 (v := .ref (a 2)) hx hb hta hown hK hP 0 rfl rfl dX3_crushPart_74 ?_
  refine gfX3_194 (v := .ref (a 5)) hx hb hta hown hK hP 2 rfl rfl dX3_crushPart_77 ?_
  refine lv_iload_n hx hb dX3_crushPart_80 rfl (lv_at hl 1 rfl) ?_
  refine lv_dup2_11 hx hb dX3_crushPart_81 rfl rfl ?_
  refine kiald (f := M 3) hx hb hK hP 5 rfl (gr M f) rfl (hg.2) (by omega) dX3_crushPart_82 ?_
  refine lv_iload_n hx hb dX3_crushPart_83 rfl (lv_at hl 4 rfl) ?_
  refine lv_iadd hx hb dX3_crushPart_84 ?_
  refine kiast (f := M 3) hx hb hK hP hD hS 5 rfl (gr M f) rfl (hg.2) (by omega) dX3_crushPart_85 (wM Y a (sM (sM (sM M 19 1 ((M 19 1) + ((t * (sPur (M 9 f) (M 8 f) (M 19 0) (M 0 4))) / 100))) 5 (gr M f) ((M 5 (gr M f)) + (((t * (sPur (M 9 f) (M 8 f) (M 19 0) (M 0 4))) * (M 0 6)) / 100))) 3 (gr M f) ((M 3 (gr M f)) + t))) rfl (fun H locs hP hD hS => ?_)
  refine lv_aload_n hx hb dX3_crushPart_86 rfl (lv_at hl 2 rfl) ?_
  refine gfX3_25 (v := .ref (a 8)) hx hb hta hown hK hP 0 rfl rfl dX3_crushPart_87 ?_
  refine gfX3_165 (v := .ref (a 14)) hx hb hta hown hK hP 8 rfl rfl dX3_crushPart_90 ?_
  refine lv_iload_n hx hb dX3_crushPart_93 rfl (lv_at hl 3 rfl) ?_
  refine lv_dup2_11 hx hb dX3_crushPart_94 rfl rfl ?_
  refine kiald (f := M 11) hx hb hK hP 14 rfl f rfl (by omega) (by omega) dX3_crushPart_95 ?_
  refine lv_iload_n hx hb dX3_crushPart_96 rfl (lv_at hl 4 rfl) ?_
  refine lv_isub hx hb dX3_crushPart_97 ?_
  refine kiast (f := M 11) hx hb hK hP hD hS 14 rfl f rfl (by omega) (by omega) dX3_crushPart_98 (wM Y a (sM (sM (sM (sM M 19 1 ((M 19 1) + ((t * (sPur (M 9 f) (M 8 f) (M 19 0) (M 0 4))) / 100))) 5 (gr M f) ((M 5 (gr M f)) + (((t * (sPur (M 9 f) (M 8 f) (M 19 0) (M 0 4))) * (M 0 6)) / 100))) 3 (gr M f) ((M 3 (gr M f)) + t)) 11 f ((M 11 f) - t))) rfl (fun H locs hP hD hS => ?_)
  refine lv_aload_n hx hb dX3_crushPart_99 rfl (lv_at hl 2 rfl) ?_
  refine gfX3_25 (v := .ref (a 8)) hx hb hta hown hK hP 0 rfl rfl dX3_crushPart_100 ?_
  refine gfX3_197 (v := .ref (a 15)) hx hb hta hown hK hP 8 rfl rfl dX3_crushPart_103 ?_
  refine lv_iload_n hx hb dX3_crushPart_106 rfl (lv_at hl 3 rfl) ?_
  refine lv_dup2_11 hx hb dX3_crushPart_107 rfl rfl ?_
  refine kiald (f := M 12) hx hb hK hP 15 rfl f rfl (by omega) (by omega) dX3_crushPart_108 ?_
  refine lv_iload_n hx hb dX3_crushPart_109 rfl (lv_at hl 4 rfl) ?_
  refine lv_iadd hx hb dX3_crushPart_110 ?_
  refine kiast (f := M 12) hx hb hK hP hD hS 15 rfl f rfl (by omega) (by omega) dX3_crushPart_111 (wM Y a (sM (sM (sM (sM (sM M 19 1 ((M 19 1) + ((t * (sPur (M 9 f) (M 8 f) (M 19 0) (M 0 4))) / 100))) 5 (gr M f) ((M 5 (gr M f)) + (((t * (sPur (M 9 f) (M 8 f) (M 19 0) (M 0 4))) * (M 0 6)) / 100))) 3 (gr M f) ((M 3 (gr M f)) + t)) 11 f ((M 11 f) - t)) 12 f ((M 12 f) + t))) rfl (fun H locs hP hD hS => ?_)
  exact kvret (sM (sM (sM (sM (sM M 19 1 ((M 19 1) + ((t * (sPur (M 9 f) (M 8 f) (M 19 0) (M 0 4))) / 100))) 5 (gr M f) ((M 5 (gr M f)) + (((t * (sPur (M 9 f) (M 8 f) (M 19 0) (M 0 4))) * (M 0 6)) / 100))) 3 (gr M f) ((M 3 (gr M f)) + t)) 11 f ((M 11 f) - t)) 12 f ((M 12 f) + t)) hQ hx hb hr hlocks hP hS dX3_crushPart_112 rfl
set_option maxHeartbeats 4000000 in
set_option maxRecDepth 100000 in
theorem c_X3_crush (l : Launch) (D : va_G) (Y : Nat → ClassId) (a : Nat → Nat) (M : kN) (hI : cI M) : kM l yX3_crush wX3_crush rX3_crush D Y (wM Y a M) [.ref (a 0)] kX0 (kQv D (fun u => u = cCrush M) (fun u => wM Y a u)) := by
  refine kentry (cc := cX3_crush) (maxL := 5) (ret := none) (by decide +kernel) rfl (Nat.le_of_ble_eq_true rfl) ?_
  intro p e s m args below meth c A Q ls hQ hx hb hr hlocks hml hown hin hta hA hX hK hNs hP hD hS hl
  have hown : s.vm.findClass RX3 = some m.cls := hown
  have hl : lv_has ls 5 [(0, .ref (a 0))] := hl
  have h400 := hI.y400
  refine lv_aload_n hx hb dX3_crush_0 rfl (lv_at hl 0 rfl) ?_
  refine gfX3_9 (v := .ref (a 1)) hx hb hta hown hK hP 0 rfl rfl dX3_crush_1 ?_
  refine lv_iconst (v := 2) hx hb dX3_crush_4 (by decide) ?_
  refine kiald (f := M 0) hx hb hK hP 1 rfl 2 rfl (by omega) (by omega) dX3_crush_5 ?_
  refine lv_istore_n (lv' := [(1, .int (M 0 2)), (0, .ref (a 0))]) hx hb dX3_crush_6 rfl hl (by decide) rfl (fun ls hl => ?_)
  refine lv_iconst (v := 0) hx hb dX3_crush_7 (by decide) ?_
  refine lv_istore_n (lv' := [(2, .int 0), (1, .int (M 0 2)), (0, .ref (a 0))]) hx hb dX3_crush_8 rfl hl (by decide) rfl (fun ls hl => ?_)
  refine lv_iconst (v := 0) hx hb dX3_crush_9 (by decide) ?_
  refine lv_istore_n (lv' := [(3, .int 0), (2, .int 0), (1, .int (M 0 2)), (0, .ref (a 0))]) hx hb dX3_crush_10 rfl hl (by decide) rfl (fun ls hl => ?_)
  have loop11 : ∀ (n : Nat) (k : Nat) (N : kN) (rest : Int32) (em : Nat), nY M - k < n → cCrushTo M k = (N, rest, em) → k ≤ nY M → ∀ (H : Heap) (locs : List Loc), va_P D vwCl (wM Y a N) H → va_D A (wM Y a N) → va_S A s.heap H locs → ∀ (ls : Array Slot), lv_has ls 5 [(3, .int (nI k)), (2, .int (nI em)), (1, .int rest), (0, .ref (a 0))] → W p l e rX3_crush s m args below meth c H locs 0 0 Q (F0 m 11 ls []) := by
    intro n
    induction n with
    | zero => intro k N rest em hmu; exact absurd hmu (Nat.not_lt_zero _)
    | succ n ih =>
      intro k N rest em hmu hX hk H locs hP hD hS ls hl
      obtain ⟨hIN, eF, eY, hem⟩ : cI N ∧ nF N = nF M ∧ nY N = nY M ∧ em ≤ k := by have h := cCrushTo_I hI k; rw [hX] at h; exact h
      have e6 : N 19 6 = nI (nY M) := by rw [hIN.y, eY]
      have h30N := hIN.f30
      refine lv_iload_n hx hb dX3_crush_11 rfl (lv_at hl 0 rfl) ?_
      refine lv_aload_n hx hb dX3_crush_12 rfl (lv_at hl 3 rfl) ?_
      refine gfX3_39 (v := .ref (a 20)) hx hb hta hown hK hP 0 rfl rfl dX3_crush_13 ?_
      refine gfX3_148 (v := .int (N 19 6)) hx hb hta hown hK hP 20 rfl rfl dX3_crush_16 ?_
      refine kTop e6 ?_
      refine lv_icmp_ge (tgt := 83) hx hb dX3_crush_19 (by decide) (fun c1 => ?_) (fun c1 => ?_)
      · have c1n : (nY M) ≤ k := (nI_leI (a := nY M) (b := k) (by omega) (by omega)).mp c1
        refine lv_aload_n hx hb dX3_crush_83 rfl (lv_at hl 3 rfl) ?_
        refine gfX3_39 (v := .ref (a 20)) hx hb hta hown hK hP 0 rfl rfl dX3_crush_84 ?_
        refine lv_iload_n hx hb dX3_crush_87 rfl (lv_at hl 1 rfl) ?_
        refine kc_v (krV (As := [.int (nI em)]) (rest := []) (c_X6_dropFirst l D Y a N em hIN (by omega)) ⟨hx, hb, hml, hown, hta⟩ (cwX3_184 hta ⟨Nat.le_of_ble_eq_true rfl, Nat.le_of_ble_eq_true rfl⟩) kX0b (fun _ _ _ => trivial) hK hNs hP hD (kJ_all) (q0 := 20) rfl rfl rfl rfl hl.1 rfl (Nat.le_of_ble_eq_true rfl) dX3_crush_88 ⟨Nat.le_of_ble_eq_true rfl, Nat.le_of_ble_eq_true rfl⟩) hP hD hS hA (kJ_all) (fun _ => rfl) (fun u H locs hw hP hD hS => ?_)
        subst hw
        have hP : va_P D vwCl (wM Y a (cDrop N em)) H := hP
        have hD : va_D A (wM Y a (cDrop N em)) := hD
        exact kvret (cDrop N em) hQ hx hb hr hlocks hP hS dX3_crush_91 (by have e : cCrushTo M (nY M) = (N, rest, em) := by { have hk2 : k = nY M := (by omega); subst hk2; exact hX }; unfold cCrush; rw [e])
      · have c1n : ¬ (nY M) ≤ k := fun h => c1 ((nI_leI (a := nY M) (b := k) (by omega) (by omega)).mpr h)
        have hfi := hIN.fk (k := k) (by omega)
        refine lv_iload_n hx hb dX3_crush_22 rfl (lv_at hl 2 rfl) ?_
        refine lv_if_le (tgt := 83) hx hb dX3_crush_23 (by decide) (fun c3 => ?_) (fun c3 => ?_)
        · refine lv_aload_n hx hb dX3_crush_83 rfl (lv_at hl 3 rfl) ?_
          refine gfX3_39 (v := .ref (a 20)) hx hb hta hown hK hP 0 rfl rfl dX3_crush_84 ?_
          refine lv_iload_n hx hb dX3_crush_87 rfl (lv_at hl 1 rfl) ?_
          refine kc_v (krV (As := [.int (nI em)]) (rest := []) (c_X6_dropFirst l D Y a N em hIN (by omega)) ⟨hx, hb, hml, hown, hta⟩ (cwX3_184 hta ⟨Nat.le_of_ble_eq_true rfl, Nat.le_of_ble_eq_true rfl⟩) kX0b (fun _ _ _ => trivial) hK hNs hP hD (kJ_all) (q0 := 20) rfl rfl rfl rfl hl.1 rfl (Nat.le_of_ble_eq_true rfl) dX3_crush_88 ⟨Nat.le_of_ble_eq_true rfl, Nat.le_of_ble_eq_true rfl⟩) hP hD hS hA (kJ_all) (fun _ => rfl) (fun u H locs hw hP hD hS => ?_)
          subst hw
          have hP : va_P D vwCl (wM Y a (cDrop N em)) H := hP
          have hD : va_D A (wM Y a (cDrop N em)) := hD
          exact kvret (cDrop N em) hQ hx hb hr hlocks hP hS dX3_crush_91 (by have e : cCrushTo M (nY M) = (N, rest, em) := by { have e2 := cCrushTo_stop (M := M) (k := k) (by rw [hX]; exact c3) (nY M - k); rw [show k + (nY M - k) = nY M by omega] at e2; exact e2.trans hX }; unfold cCrush; rw [e])
        · refine lv_iload_n hx hb dX3_crush_26 rfl (lv_at hl 2 rfl) ?_
          refine lv_aload_n hx hb dX3_crush_27 rfl (lv_at hl 3 rfl) ?_
          refine gfX3_39 (v := .ref (a 20)) hx hb hta hown hK hP 0 rfl rfl dX3_crush_28 ?_
          refine gfX3_171 (v := .ref (a 22)) hx hb hta hown hK hP 20 rfl rfl dX3_crush_31 ?_
          refine lv_iload_n hx hb dX3_crush_34 rfl (lv_at hl 0 rfl) ?_
          refine kiald (f := N 17) hx hb hK hP 22 rfl k rfl (by omega) (by omega) dX3_crush_35 ?_
          refine va_mmin hx hb (by rw [hml]; exact hl.1.symm) hown (hta _ al_350) (hta _ al_132) (hta _ al_133) (hta _ al_134) (Nat.le_of_ble_eq_true rfl) (Nat.le_of_ble_eq_true rfl) (Nat.le_of_ble_eq_true rfl) (Nat.le_of_ble_eq_true rfl) dX3_crush_36 ?_
          refine kTop (y := kmin rest (N 17 k)) rfl ?_
          refine lv_istore (lv' := [(4, .int (kmin rest (N 17 k))), (3, .int (nI k)), (2, .int (nI em)), (1, .int rest), (0, .ref (a 0))]) hx hb dX3_crush_39 hl (by decide) rfl (fun ls hl => ?_)
          refine lv_aload_n hx hb dX3_crush_41 rfl (lv_at hl 4 rfl) ?_
          refine lv_aload_n hx hb dX3_crush_42 rfl (lv_at hl 4 rfl) ?_
          refine gfX3_39 (v := .ref (a 20)) hx hb hta hown hK hP 0 rfl rfl dX3_crush_43 ?_
          refine gfX3_174 (v := .ref (a 21)) hx hb hta hown hK hP 20 rfl rfl dX3_crush_46 ?_
          refine lv_iload_n hx hb dX3_crush_49 rfl (lv_at hl 1 rfl) ?_
          refine kiald (f := N 16) hx hb hK hP 21 rfl k rfl (by omega) (by omega) dX3_crush_50 ?_
          refine kTop hfi.1 ?_
          refine lv_iload hx hb dX3_crush_51 (lv_at hl 0 rfl) ?_
          refine kc_v (krV (As := [.int (nI (fi N k)), .int (kmin rest (N 17 k))]) (rest := []) (c_X3_crushPart l D Y a N (fi N k) (kmin rest (N 17 k)) (by have := hfi.2; omega) (hIN.g hfi.2)) ⟨hx, hb, hml, hown, hta⟩ (cwX3_177 hta ⟨Nat.le_of_ble_eq_true rfl, Nat.le_of_ble_eq_true rfl⟩) kX0b (fun _ _ _ => trivial) hK hNs hP hD (kJ_all) (q0 := 0) rfl rfl rfl rfl hl.1 rfl (Nat.le_of_ble_eq_true rfl) dX3_crush_53 ⟨Nat.le_of_ble_eq_true rfl, Nat.le_of_ble_eq_true rfl⟩) hP hD hS hA (kJ_all) (fun _ => rfl) (fun u H locs hw hP hD hS => ?_)
          subst hw
          have hP : va_P D vwCl (wM Y a (cCrushPart N (fi N k) (kmin rest (N 17 k)))) H := hP
          have hD : va_D A (wM Y a (cCrushPart N (fi N k) (kmin rest (N 17 k)))) := hD
          refine lv_iload_n hx hb dX3_crush_56 rfl (lv_at hl 3 rfl) ?_
          refine lv_iload hx hb dX3_crush_57 (lv_at hl 0 rfl) ?_
          refine lv_isub hx hb dX3_crush_59 ?_
          refine lv_istore_n (lv' := [(1, .int (rest - (kmin rest (N 17 k)))), (4, .int (kmin rest (N 17 k))), (3, .int (nI k)), (2, .int (nI em)), (0, .ref (a 0))]) hx hb dX3_crush_60 rfl hl (by decide) rfl (fun ls hl => ?_)
          refine lv_aload_n hx hb dX3_crush_61 rfl (lv_at hl 4 rfl) ?_
          refine gfX3_39 (v := .ref (a 20)) hx hb hta hown hK hP 0 rfl rfl dX3_crush_62 ?_
          refine lv_iload_n hx hb dX3_crush_65 rfl (lv_at hl 2 rfl) ?_
          refine lv_iload hx hb dX3_crush_66 (lv_at hl 1 rfl) ?_
          refine kc_i (krV (As := [.int (nI k), .int (kmin rest (N 17 k))]) (rest := []) (c_X6_takeFrom l D Y a (cCrushPart N (fi N k) (kmin rest (N 17 k))) k (kmin rest (N 17 k)) (cCrushPart_I hIN _ _) (by show k < nY N; omega)) ⟨hx, hb, hml, hown, hta⟩ (cwX3_181 hta ⟨Nat.le_of_ble_eq_true rfl, Nat.le_of_ble_eq_true rfl⟩) kX0b (fun _ _ _ => trivial) hK hNs hP hD (kJ_all) (q0 := 20) rfl rfl rfl rfl hl.1 rfl (Nat.le_of_ble_eq_true rfl) dX3_crush_68 ⟨Nat.le_of_ble_eq_true rfl, Nat.le_of_ble_eq_true rfl⟩) hP hD hS hA (kJ_all) (fun _ => rfl) (fun r6 u H locs hw hP hD hS => ?_)
          obtain ⟨rfl, rfl⟩ := hw
          have hP : va_P D vwCl (wM Y a (cTake (cCrushPart N (fi N k) (kmin rest (N 17 k))) k (kmin rest (N 17 k)))) H := hP
          have hD : va_D A (wM Y a (cTake (cCrushPart N (fi N k) (kmin rest (N 17 k))) k (kmin rest (N 17 k)))) := hD
          refine lv_if_ne (tgt := 77) hx hb dX3_crush_71 (by decide) (fun c7 => ?_) (fun c7 => ?_)
          · refine lv_iinc (v := nI (k + 1)) (lv' := [(3, .int (nI (k + 1))), (1, .int (rest - (kmin rest (N 17 k)))), (4, .int (kmin rest (N 17 k))), (2, .int (nI em)), (0, .ref (a 0))]) hx hb dX3_crush_77 hl (k := 2) rfl (nI_add k 1) (by decide) rfl (fun ls hl => ?_)
            refine lv_goto (tgt := 11) hx hb dX3_crush_80 (by decide) ?_
            exact ih (k + 1) (cTake (cCrushPart N (fi N k) (kmin rest (N 17 k))) k (kmin rest (N 17 k))) (rest - (kmin rest (N 17 k))) em (by omega) (by show (if (cCrushTo M k).2.1 ≤ 0 then cCrushTo M k else _) = _; rw [hX, if_neg c3]; dsimp only; have q3 : ¬ N 17 k - kmin rest (N 17 k) = 0 := c7; rw [if_neg q3]) (by omega) _ _ hP hD hS ls (lv_sub hl [0, 3, 1, 4] rfl)
          · refine lv_iinc (v := nI (em + 1)) (lv' := [(2, .int (nI (em + 1))), (1, .int (rest - (kmin rest (N 17 k)))), (4, .int (kmin rest (N 17 k))), (3, .int (nI k)), (0, .ref (a 0))]) hx hb dX3_crush_74 hl (k := 3) rfl (nI_add em 1) (by decide) rfl (fun ls hl => ?_)
            refine lv_iinc (v := nI (k + 1)) (lv' := [(3, .int (nI (k + 1))), (2, .int (nI (em + 1))), (1, .int (rest - (kmin rest (N 17 k)))), (4, .int (kmin rest (N 17 k))), (0, .ref (a 0))]) hx hb dX3_crush_77 hl (k := 3) rfl (nI_add k 1) (by decide) rfl (fun ls hl => ?_)
            refine lv_goto (tgt := 11) hx hb dX3_crush_80 (by decide) ?_
            exact ih (k + 1) (cTake (cCrushPart N (fi N k) (kmin rest (N 17 k))) k (kmin rest (N 17 k))) (rest - (kmin rest (N 17 k))) (em + 1) (by omega) (by show (if (cCrushTo M k).2.1 ≤ 0 then cCrushTo M k else _) = _; rw [hX, if_neg c3]; dsimp only; have q3 :  N 17 k - kmin rest (N 17 k) = 0 := c7; rw [if_pos q3]) (by omega) _ _ hP hD hS ls (lv_sub hl [0, 1, 2, 4] rfl)
  exact loop11 ((nY M - 0) + 1) 0 M (M 0 2) 0 (Nat.lt_succ_self _) rfl (by omega) _ _ hP hD hS ls (lv_sub hl [0, 1, 2, 3] rfl)
set_option maxHeartbeats 4000000 in
set_option maxRecDepth 100000 in
theorem c_X3_passDay (l : Launch) (D : va_G) (Y : Nat → ClassId) (a : Nat → Nat) (M : kN) (P : Prop) [Decidable P] (hI : cI M) : kM l yX3_passDay wX3_passDay rX3_passDay D Y (wM Y a M) [.ref (a 0), .int (kb P)] kX0 (kQv D (fun u => u = cDay M P) (fun u => wM Y a u)) := by
  refine kentry (cc := cX3_passDay) (maxL := 2) (ret := none) (by decide +kernel) rfl (Nat.le_of_ble_eq_true rfl) ?_
  intro p e s m args below meth c A Q ls hQ hx hb hr hlocks hml hown hin hta hA hX hK hNs hP hD hS hl
  have hown : s.vm.findClass RX3 = some m.cls := hown
  have hl : lv_has ls 2 [(0, .ref (a 0)), (1, .int (kb P))] := hl
  refine lv_aload_n hx hb dX3_passDay_0 rfl (lv_at hl 0 rfl) ?_
  refine kc_v (krV (As := []) (rest := []) (c_X3_loseOldCane l D Y a M hI) ⟨hx, hb, hml, hown, hta⟩ (cwX3_98 hta ⟨Nat.le_of_ble_eq_true rfl, Nat.le_of_ble_eq_true rfl⟩) kX0b (fun _ _ _ => trivial) hK hNs hP hD (kJ_all) (q0 := 0) rfl rfl rfl rfl hl.1 rfl (Nat.le_of_ble_eq_true rfl) dX3_passDay_1 ⟨Nat.le_of_ble_eq_true rfl, Nat.le_of_ble_eq_true rfl⟩) hP hD hS hA (kJ_all) (fun _ => rfl) (fun N1 H locs hw hP hD hS => ?_)
  have hN1 := hw
  have hP : va_P D vwCl (wM Y a N1) H := hP
  have hD : va_D A (wM Y a N1) := hD
  refine lv_aload_n hx hb dX3_passDay_4 rfl (lv_at hl 0 rfl) ?_
  refine kc_v (krV (As := []) (rest := []) (c_X3_bringLoads l D Y a N1 (hN1 ▸ cLose_I hI)) ⟨hx, hb, hml, hown, hta⟩ (cwX3_101 hta ⟨Nat.le_of_ble_eq_true rfl, Nat.le_of_ble_eq_true rfl⟩) kX0b (fun _ _ _ => trivial) hK hNs hP hD (kJ_all) (q0 := 0) rfl rfl rfl rfl hl.1 rfl (Nat.le_of_ble_eq_true rfl) dX3_passDay_5 ⟨Nat.le_of_ble_eq_true rfl, Nat.le_of_ble_eq_true rfl⟩) hP hD hS hA (kJ_all) (fun _ => rfl) (fun N2 H locs hw hP hD hS => ?_)
  have hN2 := hw
  have hP : va_P D vwCl (wM Y a N2) H := hP
  have hD : va_D A (wM Y a N2) := hD
  refine lv_iload_n hx hb dX3_passDay_8 rfl (lv_at hl 1 rfl) ?_
  by_cases c3 : P
  · refine kTop (kb_t c3) ?_
    refine lv_if_ne (tgt := 26) hx hb dX3_passDay_9 (by decide) (fun _ => ?_) (fun h => False.elim (by revert h; decide))
    refine lv_aload_n hx hb dX3_passDay_26 rfl (lv_at hl 0 rfl) ?_
    refine lv_dup hx hb dX3_passDay_27 rfl ?_
    refine gfX3_70 (v := .int (N2 19 3)) hx hb hta hown hK hP 0 rfl rfl dX3_passDay_28 ?_
    refine lv_iconst (v := 1) hx hb dX3_passDay_31 (by decide) ?_
    refine lv_iadd hx hb dX3_passDay_32 ?_
    refine pfX3_70 (ws1 := wM Y a (sM N2 19 3 ((N2 19 3) + 1))) hx hb hta hown hK hP hD hS 0 rfl (Nat.le_of_ble_eq_true rfl) rfl dX3_passDay_33 (fun H locs hP hD hS => ?_)
    refine lv_goto (tgt := 43) hx hb dX3_passDay_36 (by decide) ?_
    refine lv_aload_n hx hb dX3_passDay_43 rfl (lv_at hl 0 rfl) ?_
    refine lv_dup hx hb dX3_passDay_44 rfl ?_
    refine gfX3_60 (v := .int (N2 19 0)) hx hb hta hown hK hP 0 rfl rfl dX3_passDay_45 ?_
    refine lv_iconst (v := 1) hx hb dX3_passDay_48 (by decide) ?_
    refine lv_iadd hx hb dX3_passDay_49 ?_
    refine pfX3_60 (ws1 := wM Y a (sM (sM N2 19 3 ((N2 19 3) + 1)) 19 0 ((N2 19 0) + 1))) hx hb hta hown hK hP hD hS 0 rfl (Nat.le_of_ble_eq_true rfl) rfl dX3_passDay_50 (fun H locs hP hD hS => ?_)
    exact kvret (sM (sM N2 19 3 ((N2 19 3) + 1)) 19 0 ((N2 19 0) + 1)) hQ hx hb hr hlocks hP hS dX3_passDay_53 (by subst hN1; subst hN2; unfold cDay cRest; rw [if_pos (Or.inl c3)] <;> rfl)
  · refine kTop (kb_f c3) ?_
    refine lv_if_ne (tgt := 26) hx hb dX3_passDay_9 (by decide) (fun h => False.elim (by revert h; decide)) (fun _ => ?_)
    refine lv_aload_n hx hb dX3_passDay_12 rfl (lv_at hl 0 rfl) ?_
    refine gfX3_32 (v := .ref (a 17)) hx hb hta hown hK hP 0 rfl rfl dX3_passDay_13 ?_
    refine lv_aload_n hx hb dX3_passDay_16 rfl (lv_at hl 0 rfl) ?_
    refine gfX3_60 (v := .int (N2 19 0)) hx hb hta hown hK hP 0 rfl rfl dX3_passDay_17 ?_
    refine kc_i (krV (As := [.int (N2 19 0)]) (rest := []) (c_X5_isStopped l D Y a N2 (N2 19 0) (hN2 ▸ cBring_I (hN1 ▸ cLose_I hI))) ⟨hx, hb, hml, hown, hta⟩ (cwX3_104 hta ⟨Nat.le_of_ble_eq_true rfl, Nat.le_of_ble_eq_true rfl⟩) kX0b (fun _ _ _ => trivial) hK hNs hP hD (kJ_all) (q0 := 17) rfl rfl rfl rfl hl.1 rfl (Nat.le_of_ble_eq_true rfl) dX3_passDay_20 ⟨Nat.le_of_ble_eq_true rfl, Nat.le_of_ble_eq_true rfl⟩) hP hD hS hA (kJ_all) (fun _ => rfl) (fun r4 u H locs hw hP hD hS => ?_)
    subst hw
    have hP : va_P D vwCl (wM Y a N2) H := hP
    have hD : va_D A (wM Y a N2) := hD
    by_cases c5 : cStopped N2 (N2 19 0) = true
    · refine kTop (kb_t c5) ?_
      refine lv_if_eq (tgt := 39) hx hb dX3_passDay_23 (by decide) (fun h => False.elim (by revert h; decide)) (fun _ => ?_)
      refine lv_aload_n hx hb dX3_passDay_26 rfl (lv_at hl 0 rfl) ?_
      refine lv_dup hx hb dX3_passDay_27 rfl ?_
      refine gfX3_70 (v := .int (N2 19 3)) hx hb hta hown hK hP 0 rfl rfl dX3_passDay_28 ?_
      refine lv_iconst (v := 1) hx hb dX3_passDay_31 (by decide) ?_
      refine lv_iadd hx hb dX3_passDay_32 ?_
      refine pfX3_70 (ws1 := wM Y a (sM N2 19 3 ((N2 19 3) + 1))) hx hb hta hown hK hP hD hS 0 rfl (Nat.le_of_ble_eq_true rfl) rfl dX3_passDay_33 (fun H locs hP hD hS => ?_)
      refine lv_goto (tgt := 43) hx hb dX3_passDay_36 (by decide) ?_
      refine lv_aload_n hx hb dX3_passDay_43 rfl (lv_at hl 0 rfl) ?_
      refine lv_dup hx hb dX3_passDay_44 rfl ?_
      refine gfX3_60 (v := .int (N2 19 0)) hx hb hta hown hK hP 0 rfl rfl dX3_passDay_45 ?_
      refine lv_iconst (v := 1) hx hb dX3_passDay_48 (by decide) ?_
      refine lv_iadd hx hb dX3_passDay_49 ?_
      refine pfX3_60 (ws1 := wM Y a (sM (sM N2 19 3 ((N2 19 3) + 1)) 19 0 ((N2 19 0) + 1))) hx hb hta hown hK hP hD hS 0 rfl (Nat.le_of_ble_eq_true rfl) rfl dX3_passDay_50 (fun H locs hP hD hS => ?_)
      exact kvret (sM (sM N2 19 3 ((N2 19 3) + 1)) 19 0 ((N2 19 0) + 1)) hQ hx hb hr hlocks hP hS dX3_passDay_53 (by subst hN1; subst hN2; unfold cDay cRest; rw [if_pos (Or.inr c5)] <;> rfl)
    · refine kTop (kb_f c5) ?_
      refine lv_if_eq (tgt := 39) hx hb dX3_passDay_23 (by decide) (fun _ => ?_) (fun h => False.elim (by revert h; decide))
      refine lv_aload_n hx hb dX3_passDay_39 rfl (lv_at hl 0 rfl) ?_
      refine kc_v (krV (As := []) (rest := []) (c_X3_crush l D Y a N2 (hN2 ▸ cBring_I (hN1 ▸ cLose_I hI))) ⟨hx, hb, hml, hown, hta⟩ (cwX3_107 hta ⟨Nat.le_of_ble_eq_true rfl, Nat.le_of_ble_eq_true rfl⟩) kX0b (fun _ _ _ => trivial) hK hNs hP hD (kJ_all) (q0 := 0) rfl rfl rfl rfl hl.1 rfl (Nat.le_of_ble_eq_true rfl) dX3_passDay_40 ⟨Nat.le_of_ble_eq_true rfl, Nat.le_of_ble_eq_true rfl⟩) hP hD hS hA (kJ_all) (fun _ => rfl) (fun N3 H locs hw hP hD hS => ?_)
      have hN3 := hw
      have hP : va_P D vwCl (wM Y a N3) H := hP
      have hD : va_D A (wM Y a N3) := hD
      refine lv_aload_n hx hb dX3_passDay_43 rfl (lv_at hl 0 rfl) ?_
      refine lv_dup hx hb dX3_passDay_44 rfl ?_
      refine gfX3_60 (v := .int (N3 19 0)) hx hb hta hown hK hP 0 rfl rfl dX3_passDay_45 ?_
      refine lv_iconst (v := 1) hx hb dX3_passDay_48 (by decide) ?_
      refine lv_iadd hx hb dX3_passDay_49 ?_
      refine pfX3_60 (ws1 := wM Y a (sM N3 19 0 ((N3 19 0) + 1))) hx hb hta hown hK hP hD hS 0 rfl (Nat.le_of_ble_eq_true rfl) rfl dX3_passDay_50 (fun H locs hP hD hS => ?_)
      exact kvret (sM N3 19 0 ((N3 19 0) + 1)) hQ hx hb hr hlocks hP hS dX3_passDay_53 (by subst hN1; subst hN2; subst hN3; unfold cDay cRest; rw [if_neg (fun h => h.elim c3 c5)] <;> rfl)
set_option maxHeartbeats 4000000 in
set_option maxRecDepth 100000 in
theorem c_X3_passDays (l : Launch) (D : va_G) (Y : Nat → ClassId) (a : Nat → Nat) (M : kN) (days : Int32) (hI : cI M) : kM l yX3_passDays wX3_passDays rX3_passDays D Y (wM Y a M) [.ref (a 0), .int days] kX0 (kQi D (fun r u => r = (cPass M days).1 ∧ u = (cPass M days).2) (fun u => wM Y a u)) := by
  refine kentry (cc := cX3_passDays) (maxL := 3) (ret := (some .int)) (by decide +kernel) rfl (Nat.le_of_ble_eq_true rfl) ?_
  intro p e s m args below meth c A Q ls hQ hx hb hr hlocks hml hown hin hta hA hX hK hNs hP hD hS hl
  have hown : s.vm.findClass RX3 = some m.cls := hown
  have hl : lv_has ls 3 [(0, .ref (a 0)), (1, .int days)] := hl
  refine lv_iload_n hx hb dX3_passDays_0 rfl (lv_at hl 1 rfl) ?_
  refine lv_iconst (v := 1) hx hb dX3_passDays_1 (by decide) ?_
  refine lv_bipush (v := 99) hx hb dX3_passDays_2 (by decide) ?_
  refine kc_i (krSN (As := [.int days, .int 1, .int 99]) (rest := []) (c_X7_isWithin l D Y days 1 99) ⟨hx, hb, hml, hown, hta⟩ (cwX3_73 hta hNs ⟨Nat.le_of_ble_eq_true rfl, Nat.le_of_ble_eq_true rfl⟩) kX0b (fun _ _ _ => trivial) hK hNs hP hD (kJ_nil) rfl hl.1 rfl (Nat.le_of_ble_eq_true rfl) dX3_passDays_4 ⟨Nat.le_of_ble_eq_true rfl, Nat.le_of_ble_eq_true rfl⟩) hP hD hS hA (kJ_nil) (fun _ => rfl) (fun r1 u H locs hw hP hD hS => ?_)
  subst hw
  have hP : va_P D vwCl (wM Y a M) H := hP
  have hD : va_D A (wM Y a M) := hD
  by_cases c2 : pIn days 1 99
  · refine kTop (kb_t c2) ?_
    refine lv_if_ne (tgt := 13) hx hb dX3_passDays_7 (by decide) (fun _ => ?_) (fun h => False.elim (by revert h; decide))
    refine lv_aload_n hx hb dX3_passDays_13 rfl (lv_at hl 0 rfl) ?_
    refine gfX3_60 (v := .int (M 19 0)) hx hb hta hown hK hP 0 rfl rfl dX3_passDays_14 ?_
    refine lv_iload_n hx hb dX3_passDays_17 rfl (lv_at hl 1 rfl) ?_
    refine lv_iadd hx hb dX3_passDays_18 ?_
    refine lv_sipush (v := 1000) hx hb dX3_passDays_19 (by decide) ?_
    refine lv_icmp_le (tgt := 28) hx hb dX3_passDays_22 (by decide) (fun c3 => ?_) (fun c3 => ?_)
    · obtain ⟨dn, rfl, hd1, hd2⟩ := pIn_nat c2 (show (1 : Int32) = nI 1 from rfl) (show (99 : Int32) = nI 99 from rfl) (by omega) (by omega)
      refine lv_iconst (v := 0) hx hb dX3_passDays_28 (by decide) ?_
      refine lv_istore_n (lv' := [(2, .int 0), (0, .ref (a 0)), (1, .int (nI dn))]) hx hb dX3_passDays_29 rfl hl (by decide) rfl (fun ls hl => ?_)
      have loop30 : ∀ (n : Nat) (i : Nat) (N : kN), dn - i < n → cDays M 0 i = N → i ≤ dn → ∀ (H : Heap) (locs : List Loc), va_P D vwCl (wM Y a N) H → va_D A (wM Y a N) → va_S A s.heap H locs → ∀ (ls : Array Slot), lv_has ls 3 [(2, .int (nI i)), (0, .ref (a 0)), (1, .int (nI dn))] → W p l e rX3_passDays s m args below meth c H locs 0 0 Q (F0 m 30 ls []) := by
        intro n
        induction n with
        | zero => intro i N hmu; exact absurd hmu (Nat.not_lt_zero _)
        | succ n ih =>
          intro i N hmu hN hi H locs hP hD hS ls hl
          have hIN : cI N := hN ▸ cDays_I hI 0 i
          refine lv_iload_n hx hb dX3_passDays_30 rfl (lv_at hl 0 rfl) ?_
          refine lv_iload_n hx hb dX3_passDays_31 rfl (lv_at hl 2 rfl) ?_
          refine lv_icmp_ge (tgt := 46) hx hb dX3_passDays_32 (by decide) (fun c4 => ?_) (fun c4 => ?_)
          · have c4n : dn ≤ i := (nI_leI (a := dn) (b := i) (by omega) (by omega)).mp c4
            refine lv_aload_n hx hb dX3_passDays_46 rfl (lv_at hl 1 rfl) ?_
            refine gfX3_60 (v := .int (N 19 0)) hx hb hta hown hK hP 0 rfl rfl dX3_passDays_47 ?_
            exact kiret (N) hQ hx hb hr hlocks hP hS dX3_passDays_50 (by have hi2 : i = dn := (by omega); subst hi2; unfold cPass; rw [if_pos c2, if_pos c3, nI_clamp (by omega), hN]; exact ⟨rfl, rfl⟩)
          · have c4n : ¬ dn ≤ i := fun h => c4 ((nI_leI (a := dn) (b := i) (by omega) (by omega)).mpr h)
            refine lv_aload_n hx hb dX3_passDays_35 rfl (lv_at hl 1 rfl) ?_
            refine lv_iconst (v := 0) hx hb dX3_passDays_36 (by decide) ?_
            refine kTop (y := kb (nI i < 0)) (kb_f (nI_pos (by omega))).symm ?_
            refine kc_v (krV (As := [.int (kb (nI i < 0))]) (rest := []) (c_X3_passDay l D Y a N (nI i < 0) hIN) ⟨hx, hb, hml, hown, hta⟩ (cwX3_94 hta ⟨Nat.le_of_ble_eq_true rfl, Nat.le_of_ble_eq_true rfl⟩) kX0b (fun _ _ _ => trivial) hK hNs hP hD (kJ_all) (q0 := 0) rfl rfl rfl rfl hl.1 rfl (Nat.le_of_ble_eq_true rfl) dX3_passDays_37 ⟨Nat.le_of_ble_eq_true rfl, Nat.le_of_ble_eq_true rfl⟩) hP hD hS hA (kJ_all) (fun _ => rfl) (fun u H locs hw hP hD hS => ?_)
            subst hw
            have hP : va_P D vwCl (wM Y a (cDay N (nI i < 0))) H := hP
            have hD : va_D A (wM Y a (cDay N (nI i < 0))) := hD
            refine lv_iinc (v := nI (i + 1)) (lv' := [(2, .int (nI (i + 1))), (0, .ref (a 0)), (1, .int (nI dn))]) hx hb dX3_passDays_40 hl (k := 0) rfl (nI_add i 1) (by decide) rfl (fun ls hl => ?_)
            refine lv_goto (tgt := 30) hx hb dX3_passDays_43 (by decide) ?_
            exact ih (i + 1) (cDay N (nI i < 0)) (by omega) (by rw [← hN]; rfl) (by omega) _ _ hP hD hS ls (lv_sub hl [0, 1, 2] rfl)
      exact loop30 ((dn - 0) + 1) 0 M (Nat.lt_succ_self _) rfl (by omega) _ _ hP hD hS ls (lv_sub hl [0, 1, 2] rfl)
    · refine lv_bipush (v := (-5)) hx hb dX3_passDays_25 (by decide) ?_
      exact kiret (M) hQ hx hb hr hlocks hP hS dX3_passDays_27 (by unfold cPass; rw [if_pos c2, if_neg c3]; exact ⟨rfl, rfl⟩)
  · refine kTop (kb_f c2) ?_
    refine lv_if_ne (tgt := 13) hx hb dX3_passDays_7 (by decide) (fun h => False.elim (by revert h; decide)) (fun _ => ?_)
    refine lv_bipush (v := (-2)) hx hb dX3_passDays_10 (by decide) ?_
    exact kiret (M) hQ hx hb hr hlocks hP hS dX3_passDays_12 (by unfold cPass; rw [if_neg c2]; exact ⟨rfl, rfl⟩)
