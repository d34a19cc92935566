set_option maxHeartbeats 4000000 in
set_option maxRecDepth 100000 in
theorem c_X6_append (l : Launch) (D : va_G) (Y : Nat → ClassId) (a : Nat → Nat) (M : kN) (f t d : Int32) (hI : cI M) : kM l yX6_append wX6_append rX6_append D Y (wM Y a M) [.ref (a 20), .int f, .int t, .int d] kX0 (kQv D (fun u => u = cAppend M f t d) (fun u => wM Y a u)) := by
  refine kentry (cc := cX6_append) (maxL := 4) (ret := none) (by decide +kernel) rfl (Nat.le_of_ble_eq_true rfl) ?_
  intro p e s m args below meth c A Q ls hQ hx hb hr hlocks hml hown hin hta hA hX hK hNs hP hD hS hl
  have hown : s.vm.findClass RX6 = some m.cls := hown
  have hl : lv_has ls 4 [(0, .ref (a 20)), (1, .int f), (2, .int t), (3, .int d)] := hl
  have h400 := hI.y400
  refine lv_aload_n hx hb dX6_append_0 rfl (lv_at hl 0 rfl) ?_
  refine gfX6_21 (v := .int (M 19 6)) hx hb hta hown hK hP 20 rfl rfl dX6_append_1 ?_
  refine kTop hI.y ?_
  refine lv_sipush (v := 400) hx hb dX6_append_4 (by decide) ?_
  refine lv_icmp_lt (tgt := 11) hx hb dX6_append_7 (by decide) (fun c1 => ?_) (fun c1 => ?_)
  · have c1n : (nY M) < 400 := (nI_ltI (a := nY M) (b := 400) (by omega) (by omega)).mp c1
    refine lv_aload_n hx hb dX6_append_11 rfl (lv_at hl 0 rfl) ?_
    refine gfX6_9 (v := .ref (a 21)) hx hb hta hown hK hP 20 rfl rfl dX6_append_12 ?_
    refine lv_aload_n hx hb dX6_append_15 rfl (lv_at hl 0 rfl) ?_
    refine gfX6_21 (v := .int (M 19 6)) hx hb hta hown hK hP 20 rfl rfl dX6_append_16 ?_
    refine kTop hI.y ?_
    refine lv_iload_n hx hb dX6_append_19 rfl (lv_at hl 1 rfl) ?_
    refine kiast (f := M 16) hx hb hK hP hD hS 21 rfl (nY M) rfl (by omega) (by omega) dX6_append_20 (wM Y a (sM M 16 (nY M) f)) rfl (fun H locs hP hD hS => ?_)
    refine lv_aload_n hx hb dX6_append_21 rfl (lv_at hl 0 rfl) ?_
    refine gfX6_15 (v := .ref (a 22)) hx hb hta hown hK hP 20 rfl rfl dX6_append_22 ?_
    refine lv_aload_n hx hb dX6_append_25 rfl (lv_at hl 0 rfl) ?_
    refine gfX6_21 (v := .int (M 19 6)) hx hb hta hown hK hP 20 rfl rfl dX6_append_26 ?_
    refine kTop hI.y ?_
    refine lv_iload_n hx hb dX6_append_29 rfl (lv_at hl 2 rfl) ?_
    refine kiast (f := M 17) hx hb hK hP hD hS 22 rfl (nY M) rfl (by omega) (by omega) dX6_append_30 (wM Y a (sM (sM M 16 (nY M) f) 17 (nY M) t)) rfl (fun H locs hP hD hS => ?_)
    refine lv_aload_n hx hb dX6_append_31 rfl (lv_at hl 0 rfl) ?_
    refine gfX6_18 (v := .ref (a 23)) hx hb hta hown hK hP 20 rfl rfl dX6_append_32 ?_
    refine lv_aload_n hx hb dX6_append_35 rfl (lv_at hl 0 rfl) ?_
    refine gfX6_21 (v := .int (M 19 6)) hx hb hta hown hK hP 20 rfl rfl dX6_append_36 ?_
    refine kTop hI.y ?_
    refine lv_iload_n hx hb dX6_append_39 rfl (lv_at hl 3 rfl) ?_
    refine kiast (f := M 18) hx hb hK hP hD hS 23 rfl (nY M) rfl (by omega) (by omega) dX6_append_40 (wM Y a (sM (sM (sM M 16 (nY M) f) 17 (nY M) t) 18 (nY M) d)) rfl (fun H locs hP hD hS => ?_)
    refine lv_aload_n hx hb dX6_append_41 rfl (lv_at hl 0 rfl) ?_
    refine lv_dup hx hb dX6_append_42 rfl ?_
    refine gfX6_21 (v := .int (M 19 6)) hx hb hta hown hK hP 20 rfl rfl dX6_append_43 ?_
    refine kTop hI.y ?_
    refine lv_iconst (v := 1) hx hb dX6_append_46 (by decide) ?_
    refine lv_iadd hx hb dX6_append_47 ?_
    refine pfX6_21 (ws1 := wM Y a (sM (sM (sM (sM M 16 (nY M) f) 17 (nY M) t) 18 (nY M) d) 19 6 ((nI (nY M)) + 1))) hx hb hta hown hK hP hD hS 20 rfl (Nat.le_of_ble_eq_true rfl) rfl dX6_append_48 (fun H locs hP hD hS => ?_)
    refine lv_aload_n hx hb dX6_append_51 rfl (lv_at hl 0 rfl) ?_
    refine lv_dup hx hb dX6_append_52 rfl ?_
    refine gfX6_25 (v := .int (M 19 7)) hx hb hta hown hK hP 20 rfl rfl dX6_append_53 ?_
    refine lv_iload_n hx hb dX6_append_56 rfl (lv_at hl 2 rfl) ?_
    refine lv_iadd hx hb dX6_append_57 ?_
    refine pfX6_25 (ws1 := wM Y a (sM (sM (sM (sM (sM M 16 (nY M) f) 17 (nY M) t) 18 (nY M) d) 19 6 ((nI (nY M)) + 1)) 19 7 ((M 19 7) + t))) hx hb hta hown hK hP hD hS 20 rfl (Nat.le_of_ble_eq_true rfl) rfl dX6_append_58 (fun H locs hP hD hS => ?_)
    exact kvret (sM (sM (sM (sM (sM M 16 (nY M) f) 17 (nY M) t) 18 (nY M) d) 19 6 ((nI (nY M)) + 1)) 19 7 ((M 19 7) + t)) hQ hx hb hr hlocks hP hS dX6_append_61 (by unfold cAppend; rw [hI.y]; exact (if_pos c1).symm)
  · have c1n : ¬ (nY M) < 400 := fun h => c1 ((nI_ltI (a := nY M) (b := 400) (by omega) (by omega)).mpr h)
    exact kvret (M) hQ hx hb hr hlocks hP hS dX6_append_10 (by unfold cAppend; rw [hI.y]; exact (if_neg c1).symm)
set_option maxHeartbeats 4000000 in
set_option maxRecDepth 100000 in
theorem c_X6_takeFrom (l : Launch) (D : va_G) (Y : Nat → ClassId) (a : Nat → Nat) (M : kN) (k : Nat) (t : Int32) (hI : cI M) (hk : k < nY M) : kM l yX6_takeFrom wX6_takeFrom rX6_takeFrom D Y (wM Y a M) [.ref (a 20), .int (nI k), .int t] kX0 (kQi D (fun r u => r = M 17 k - t ∧ u = cTake M k t) (fun u => wM Y a u)) := by
  refine kentry (cc := cX6_takeFrom) (maxL := 3) (ret := (some .int)) (by decide +kernel) rfl (Nat.le_of_ble_eq_true rfl) ?_
  intro p e s m args below meth c A Q ls hQ hx hb hr hlocks hml hown hin hta hA hX hK hNs hP hD hS hl
  have hown : s.vm.findClass RX6 = some m.cls := hown
  have hl : lv_has ls 3 [(0, .ref (a 20)), (1, .int (nI k)), (2, .int t)] := hl
  have h400 := hI.y400
  refine lv_iload_n hx hb dX6_takeFrom_0 rfl (lv_at hl 1 rfl) ?_
  refine lv_iconst (v := 0) hx hb dX6_takeFrom_1 (by decide) ?_
  refine lv_aload_n hx hb dX6_takeFrom_2 rfl (lv_at hl 0 rfl) ?_
  refine gfX6_21 (v := .int (M 19 6)) hx hb hta hown hK hP 20 rfl rfl dX6_takeFrom_3 ?_
  refine kTop hI.y ?_
  refine lv_iconst (v := 1) hx hb dX6_takeFrom_6 (by decide) ?_
  refine lv_isub hx hb dX6_takeFrom_7 ?_
  refine kTop (y := nI (nY M - 1)) (pk_sub (a := nY M) (b := 1) (by omega)) ?_
  refine kc_i (krSN (As := [.int (nI k), .int 0, .int (nI (nY M - 1))]) (rest := []) (c_X7_isWithin l D Y (nI k) 0 (nI (nY M - 1))) ⟨hx, hb, hml, hown, hta⟩ (cwX6_32 hta hNs ⟨Nat.le_of_ble_eq_true rfl, Nat.le_of_ble_eq_true rfl⟩) kX0b (fun _ _ _ => trivial) hK hNs hP hD (kJ_nil) rfl hl.1 rfl (Nat.le_of_ble_eq_true rfl) dX6_takeFrom_8 ⟨Nat.le_of_ble_eq_true rfl, Nat.le_of_ble_eq_true rfl⟩) hP hD hS hA (kJ_nil) (fun _ => rfl) (fun r1 u H locs hw hP hD hS => ?_)
  subst hw
  have hP : va_P D vwCl (wM Y a M) H := hP
  have hD : va_D A (wM Y a M) := hD
  refine kTop (kb_t (pIn_nI (by omega) (by omega))) ?_
  refine lv_if_ne (tgt := 16) hx hb dX6_takeFrom_11 (by decide) (fun _ => ?_) (fun h => False.elim (by revert h; decide))
  refine lv_aload_n hx hb dX6_takeFrom_16 rfl (lv_at hl 0 rfl) ?_
  refine gfX6_15 (v := .ref (a 22)) hx hb hta hown hK hP 20 rfl rfl dX6_takeFrom_17 ?_
  refine lv_iload_n hx hb dX6_takeFrom_20 rfl (lv_at hl 1 rfl) ?_
  refine lv_dup2_11 hx hb dX6_takeFrom_21 rfl rfl ?_
  refine kiald (f := M 17) hx hb hK hP 22 rfl k rfl (by omega) (by omega) dX6_takeFrom_22 ?_
  refine lv_iload_n hx hb dX6_takeFrom_23 rfl (lv_at hl 2 rfl) ?_
  refine lv_isub hx hb dX6_takeFrom_24 ?_
  refine kiast (f := M 17) hx hb hK hP hD hS 22 rfl k rfl (by omega) (by omega) dX6_takeFrom_25 (wM Y a (sM M 17 k ((M 17 k) - t))) rfl (fun H locs hP hD hS => ?_)
  refine lv_aload_n hx hb dX6_takeFrom_26 rfl (lv_at hl 0 rfl) ?_
  refine lv_dup hx hb dX6_takeFrom_27 rfl ?_
  refine gfX6_25 (v := .int (M 19 7)) hx hb hta hown hK hP 20 rfl rfl dX6_takeFrom_28 ?_
  refine lv_iload_n hx hb dX6_takeFrom_31 rfl (lv_at hl 2 rfl) ?_
  refine lv_isub hx hb dX6_takeFrom_32 ?_
  refine pfX6_25 (ws1 := wM Y a (sM (sM M 17 k ((M 17 k) - t)) 19 7 ((M 19 7) - t))) hx hb hta hown hK hP hD hS 20 rfl (Nat.le_of_ble_eq_true rfl) rfl dX6_takeFrom_33 (fun H locs hP hD hS => ?_)
  refine lv_aload_n hx hb dX6_takeFrom_36 rfl (lv_at hl 0 rfl) ?_
  refine gfX6_15 (v := .ref (a 22)) hx hb hta hown hK hP 20 rfl rfl dX6_takeFrom_37 ?_
  refine lv_iload_n hx hb dX6_takeFrom_40 rfl (lv_at hl 1 rfl) ?_
  refine kiald (f := upd (M 17) k ((M 17 k) - t)) hx hb hK hP 22 rfl k rfl (by omega) (by omega) dX6_takeFrom_41 ?_
  exact kiret (sM (sM M 17 k ((M 17 k) - t)) 19 7 ((M 19 7) - t)) hQ hx hb hr hlocks hP hS dX6_takeFrom_42 (⟨by simp [upd], rfl⟩)
set_option maxHeartbeats 4000000 in
set_option maxRecDepth 100000 in
theorem c_X6_dropFirst (l : Launch) (D : va_G) (Y : Nat → ClassId) (a : Nat → Nat) (M : kN) (d : Nat) (hI : cI M) (hd : d ≤ nY M) : kM l yX6_dropFirst wX6_dropFirst rX6_dropFirst D Y (wM Y a M) [.ref (a 20), .int (nI d)] kX0 (kQv D (fun u => u = cDrop M d) (fun u => wM Y a u)) := by
  refine kentry (cc := cX6_dropFirst) (maxL := 3) (ret := none) (by decide +kernel) rfl (Nat.le_of_ble_eq_true rfl) ?_
  intro p e s m args below meth c A Q ls hQ hx hb hr hlocks hml hown hin hta hA hX hK hNs hP hD hS hl
  have hown : s.vm.findClass RX6 = some m.cls := hown
  have hl : lv_has ls 3 [(0, .ref (a 20)), (1, .int (nI d))] := hl
  have h400 := hI.y400
  refine lv_iload_n hx hb dX6_dropFirst_0 rfl (lv_at hl 1 rfl) ?_
  refine lv_istore_n (lv' := [(2, .int (nI d)), (0, .ref (a 20)), (1, .int (nI d))]) hx hb dX6_dropFirst_1 rfl hl (by decide) rfl (fun ls hl => ?_)
  have loop2 : ∀ (n : Nat) (j : Nat) (N : kN), nY M - (d + j) < n → cDropTo M d j = N → d + j ≤ nY M → ∀ (H : Heap) (locs : List Loc), va_P D vwCl (wM Y a N) H → va_D A (wM Y a N) → va_S A s.heap H locs → ∀ (ls : Array Slot), lv_has ls 3 [(2, .int (nI (d + j))), (0, .ref (a 20)), (1, .int (nI d))] → W p l e rX6_dropFirst s m args below meth c H locs 0 0 Q (F0 m 2 ls []) := by
    intro n
    induction n with
    | zero => intro j N hmu; exact absurd hmu (Nat.not_lt_zero _)
    | succ n ih =>
      intro j N hmu hN hj H locs hP hD hS ls hl
      have e6 : N 19 6 = nI (nY M) := by rw [← hN, cDropTo_o M d (by decide) (by decide) (by decide)]; exact hI.y
      refine lv_iload_n hx hb dX6_dropFirst_2 rfl (lv_at hl 0 rfl) ?_
      refine lv_aload_n hx hb dX6_dropFirst_3 rfl (lv_at hl 1 rfl) ?_
      refine gfX6_21 (v := .int (N 19 6)) hx hb hta hown hK hP 20 rfl rfl dX6_dropFirst_4 ?_
      refine kTop e6 ?_
      refine lv_icmp_ge (tgt := 58) hx hb dX6_dropFirst_7 (by decide) (fun c1 => ?_) (fun c1 => ?_)
      · have c1n : (nY M) ≤ (d + j) := (nI_leI (a := nY M) (b := d + j) (by omega) (by omega)).mp c1
        refine lv_aload_n hx hb dX6_dropFirst_58 rfl (lv_at hl 1 rfl) ?_
        refine lv_dup hx hb dX6_dropFirst_59 rfl ?_
        refine gfX6_21 (v := .int (N 19 6)) hx hb hta hown hK hP 20 rfl rfl dX6_dropFirst_60 ?_
        refine kTop e6 ?_
        refine lv_iload_n hx hb dX6_dropFirst_63 rfl (lv_at hl 2 rfl) ?_
        refine lv_isub hx hb dX6_dropFirst_64 ?_
        refine pfX6_21 (ws1 := wM Y a (sM N 19 6 ((nI (nY M)) - (nI d)))) hx hb hta hown hK hP hD hS 20 rfl (Nat.le_of_ble_eq_true rfl) rfl dX6_dropFirst_65 (fun H locs hP hD hS => ?_)
        exact kvret (sM N 19 6 ((nI (nY M)) - (nI d))) hQ hx hb hr hlocks hP hS dX6_dropFirst_68 (by have hj2 : j = nY M - d := (by omega); subst hj2; unfold cDrop; rw [hN, hI.y])
      · have c1n : ¬ (nY M) ≤ (d + j) := fun h => c1 ((nI_leI (a := nY M) (b := d + j) (by omega) (by omega)).mpr h)
        refine lv_aload_n hx hb dX6_dropFirst_10 rfl (lv_at hl 1 rfl) ?_
        refine gfX6_9 (v := .ref (a 21)) hx hb hta hown hK hP 20 rfl rfl dX6_dropFirst_11 ?_
        refine lv_iload_n hx hb dX6_dropFirst_14 rfl (lv_at hl 0 rfl) ?_
        refine lv_iload_n hx hb dX6_dropFirst_15 rfl (lv_at hl 2 rfl) ?_
        refine lv_isub hx hb dX6_dropFirst_16 ?_
        refine kTop (y := nI j) ((pk_sub (by omega)).trans (congrArg nI (by omega))) ?_
        refine lv_aload_n hx hb dX6_dropFirst_17 rfl (lv_at hl 1 rfl) ?_
        refine gfX6_9 (v := .ref (a 21)) hx hb hta hown hK hP 20 rfl rfl dX6_dropFirst_18 ?_
        refine lv_iload_n hx hb dX6_dropFirst_21 rfl (lv_at hl 0 rfl) ?_
        refine kiald (f := N 16) hx hb hK hP 21 rfl (d + j) rfl (by omega) (by omega) dX6_dropFirst_22 ?_
        refine kiast (f := N 16) hx hb hK hP hD hS 21 rfl j rfl (by omega) (by omega) dX6_dropFirst_23 (wM Y a (sM N 16 j (N 16 (d + j)))) rfl (fun H locs hP hD hS => ?_)
        refine lv_aload_n hx hb dX6_dropFirst_24 rfl (lv_at hl 1 rfl) ?_
        refine gfX6_15 (v := .ref (a 22)) hx hb hta hown hK hP 20 rfl rfl dX6_dropFirst_25 ?_
        refine lv_iload_n hx hb dX6_dropFirst_28 rfl (lv_at hl 0 rfl) ?_
        refine lv_iload_n hx hb dX6_dropFirst_29 rfl (lv_at hl 2 rfl) ?_
        refine lv_isub hx hb dX6_dropFirst_30 ?_
        refine kTop (y := nI j) ((pk_sub (by omega)).trans (congrArg nI (by omega))) ?_
        refine lv_aload_n hx hb dX6_dropFirst_31 rfl (lv_at hl 1 rfl) ?_
        refine gfX6_15 (v := .ref (a 22)) hx hb hta hown hK hP 20 rfl rfl dX6_dropFirst_32 ?_
        refine lv_iload_n hx hb dX6_dropFirst_35 rfl (lv_at hl 0 rfl) ?_
        refine kiald (f := N 17) hx hb hK hP 22 rfl (d + j) rfl (by omega) (by omega) dX6_dropFirst_36 ?_
        refine kiast (f := N 17) hx hb hK hP hD hS 22 rfl j rfl (by omega) (by omega) dX6_dropFirst_37 (wM Y a (sM (sM N 16 j (N 16 (d + j))) 17 j (N 17 (d + j)))) rfl (fun H locs hP hD hS => ?_)
        refine lv_aload_n hx hb dX6_dropFirst_38 rfl (lv_at hl 1 rfl) ?_
        refine gfX6_18 (v := .ref (a 23)) hx hb hta hown hK hP 20 rfl rfl dX6_dropFirst_39 ?_
        refine lv_iload_n hx hb dX6_dropFirst_42 rfl (lv_at hl 0 rfl) ?_
        refine lv_iload_n hx hb dX6_dropFirst_43 rfl (lv_at hl 2 rfl) ?_
        refine lv_isub hx hb dX6_dropFirst_44 ?_
        refine kTop (y := nI j) ((pk_sub (by omega)).trans (congrArg nI (by omega))) ?_
        refine lv_aload_n hx hb dX6_dropFirst_45 rfl (lv_at hl 1 rfl) ?_
        refine gfX6_18 (v := .ref (a 23)) hx hb hta hown hK hP 20 rfl rfl dX6_dropFirst_46 ?_
        refine lv_iload_n hx hb dX6_dropFirst_49 rfl (lv_at hl 0 rfl) ?_
        refine kiald (f := N 18) hx hb hK hP 23 rfl (d + j) rfl (by omega) (by omega) dX6_dropFirst_50 ?_
        refine kiast (f := N 18) hx hb hK hP hD hS 23 rfl j rfl (by omega) (by omega) dX6_dropFirst_51 (wM Y a (sM (sM (sM N 16 j (N 16 (d + j))) 17 j (N 17 (d + j))) 18 j (N 18 (d + j)))) rfl (fun H locs hP hD hS => ?_)
        refine lv_iinc (v := nI (d + j + 1)) (lv' := [(2, .int (nI (d + j + 1))), (0, .ref (a 20)), (1, .int (nI d))]) hx hb dX6_dropFirst_52 hl (k := 0) rfl (nI_add (d + j) 1) (by decide) rfl (fun ls hl => ?_)
        refine lv_goto (tgt := 2) hx hb dX6_dropFirst_55 (by decide) ?_
        exact ih (j + 1) (sM (sM (sM N 16 j (N 16 (d + j))) 17 j (N 17 (d + j))) 18 j (N 18 (d + j))) (by omega) (by rw [← hN]; rfl) (by omega) _ _ hP hD hS ls (lv_sub hl [0, 1, 2] rfl)
  exact loop2 ((nY M - (d + 0)) + 1) 0 M (Nat.lt_succ_self _) rfl (by omega) _ _ hP hD hS ls (lv_sub hl [0, 1, 2] rfl)
set_option maxHeartbeats 4000000 in
set_option maxRecDepth 100000 in
theorem c_X3_loseOldCane (l : Launch) (D : va_G) (Y : Nat → ClassId) (a : Nat → Nat) (M : kN) (hI : cI M) : kM l yX3_loseOldCane wX3_loseOldCane rX3_loseOldCane D Y (wM Y a M) [.ref (a 0)] kX0 (kQv D (fun u => u = cLose M) (fun u => wM Y a u)) := by
  refine kentry (cc := cX3_loseOldCane) (maxL := 2) (ret := none) (by decide +kernel) rfl (Nat.le_of_ble_eq_true rfl) ?_
  intro p e s m args below meth c A Q ls hQ hx hb hr hlocks hml hown hin hta hA hX hK hNs hP hD hS hl
  have hown : s.vm.findClass RX3 = some m.cls := hown
  have hl : lv_has ls 2 [(0, .ref (a 0))] := hl
  have h30 := hI.f30
  refine lv_iconst (v := 0) hx hb dX3_loseOldCane_0 (by decide) ?_
  refine lv_istore_n (lv' := [(1, .int 0), (0, .ref (a 0))]) hx hb dX3_loseOldCane_1 rfl hl (by decide) rfl (fun ls hl => ?_)
  have loop2 : ∀ (n : Nat) (k : Nat) (N : kN), nF M - k < n → cLoseTo M k = N → k ≤ nF M → ∀ (H : Heap) (locs : List Loc), va_P D vwCl (wM Y a N) H → va_D A (wM Y a N) → va_S A s.heap H locs → ∀ (ls : Array Slot), lv_has ls 2 [(1, .int (nI k)), (0, .ref (a 0))] → W p l e rX3_loseOldCane s m args below meth c H locs 0 0 Q (F0 m 2 ls []) := by
    intro n
    induction n with
    | zero => intro k N hmu; exact absurd hmu (Nat.not_lt_zero _)
    | succ n ih =>
      intro k N hmu hN hk H locs hP hD hS ls hl
      obtain ⟨hIN, eF⟩ : cI N ∧ nF N = nF M := hN ▸ cLoseTo_I hI k
      have e4 : N 19 4 = nI (nF M) := by rw [hIN.f, eF]
      refine lv_iload_n hx hb dX3_loseOldCane_2 rfl (lv_at hl 0 rfl) ?_
      refine lv_aload_n hx hb dX3_loseOldCane_3 rfl (lv_at hl 1 rfl) ?_
      refine gfX3_25 (v := .ref (a 8)) hx hb hta hown hK hP 0 rfl rfl dX3_loseOldCane_4 ?_
      refine gfX3_110 (v := .int (N 19 4)) hx hb hta hown hK hP 8 rfl rfl dX3_loseOldCane_7 ?_
      refine kTop e4 ?_
      refine lv_icmp_ge (tgt := 70) hx hb dX3_loseOldCane_10 (by decide) (fun c1 => ?_) (fun c1 => ?_)
      · have c1n : (nF M) ≤ k := (nI_leI (a := nF M) (b := k) (by omega) (by omega)).mp c1
        exact kvret (N) hQ hx hb hr hlocks hP hS dX3_loseOldCane_70 (by have hk2 : k = nF M := (by omega); subst hk2; exact hN.symm)
      · have c1n : ¬ (nF M) ≤ k := fun h => c1 ((nI_leI (a := nF M) (b := k) (by omega) (by omega)).mpr h)
        have hg := hIN.g (f := k) (by omega)
        refine lv_aload_n hx hb dX3_loseOldCane_13 rfl (lv_at hl 1 rfl) ?_
        refine gfX3_60 (v := .int (N 19 0)) hx hb hta hown hK hP 0 rfl rfl dX3_loseOldCane_14 ?_
        refine lv_aload_n hx hb dX3_loseOldCane_17 rfl (lv_at hl 1 rfl) ?_
        refine gfX3_25 (v := .ref (a 8)) hx hb hta hown hK hP 0 rfl rfl dX3_loseOldCane_18 ?_
        refine gfX3_113 (v := .ref (a 12)) hx hb hta hown hK hP 8 rfl rfl dX3_loseOldCane_21 ?_
        refine lv_iload_n hx hb dX3_loseOldCane_24 rfl (lv_at hl 0 rfl) ?_
        refine kiald (f := N 9) hx hb hK hP 12 rfl k rfl (by omega) (by omega) dX3_loseOldCane_25 ?_
        refine lv_isub hx hb dX3_loseOldCane_26 ?_
        refine lv_aload_n hx hb dX3_loseOldCane_27 rfl (lv_at hl 1 rfl) ?_
        refine gfX3_9 (v := .ref (a 1)) hx hb hta hown hK hP 0 rfl rfl dX3_loseOldCane_28 ?_
        refine lv_iconst (v := 5) hx hb dX3_loseOldCane_31 (by decide) ?_
        refine kiald (f := N 0) hx hb hK hP 1 rfl 5 rfl (by omega) (by omega) dX3_loseOldCane_32 ?_
        refine lv_icmp_le (tgt := 64) hx hb dX3_loseOldCane_33 (by decide) (fun c2 => ?_) (fun c2 => ?_)
        · refine lv_iinc (v := nI (k + 1)) (lv' := [(1, .int (nI (k + 1))), (0, .ref (a 0))]) hx hb dX3_loseOldCane_64 hl (k := 0) rfl (nI_add k 1) (by decide) rfl (fun ls hl => ?_)
          refine lv_goto (tgt := 2) hx hb dX3_loseOldCane_67 (by decide) ?_
          exact ih (k + 1) N (by omega) (by show cLoseStep (cLoseTo M k) k = _; rw [hN]; unfold cLoseStep; exact if_pos c2) (by omega) _ _ hP hD hS ls (lv_sub hl [0, 1] rfl)
        · refine lv_aload_n hx hb dX3_loseOldCane_36 rfl (lv_at hl 1 rfl) ?_
          refine gfX3_18 (v := .ref (a 2)) hx hb hta hown hK hP 0 rfl rfl dX3_loseOldCane_37 ?_
          refine gfX3_116 (v := .ref (a 6)) hx hb hta hown hK hP 2 rfl rfl dX3_loseOldCane_40 ?_
          refine lv_aload_n hx hb dX3_loseOldCane_43 rfl (lv_at hl 1 rfl) ?_
          refine gfX3_25 (v := .ref (a 8)) hx hb hta hown hK hP 0 rfl rfl dX3_loseOldCane_44 ?_
          refine gfX3_119 (v := .ref (a 9)) hx hb hta hown hK hP 8 rfl rfl dX3_loseOldCane_47 ?_
          refine lv_iload_n hx hb dX3_loseOldCane_50 rfl (lv_at hl 0 rfl) ?_
          refine kiald (f := N 6) hx hb hK hP 9 rfl k rfl (by omega) (by omega) dX3_loseOldCane_51 ?_
          refine kTop hg.1 ?_
          refine lv_dup2_11 hx hb dX3_loseOldCane_52 rfl rfl ?_
          refine kiald (f := N 4) hx hb hK hP 6 rfl (gr N k) rfl (hg.2) (by omega) dX3_loseOldCane_53 ?_
          refine lv_aload_n hx hb dX3_loseOldCane_54 rfl (lv_at hl 1 rfl) ?_
          refine gfX3_25 (v := .ref (a 8)) hx hb hta hown hK hP 0 rfl rfl dX3_loseOldCane_55 ?_
          refine lv_iload_n hx hb dX3_loseOldCane_58 rfl (lv_at hl 0 rfl) ?_
          refine kc_i (krV (As := [.int (nI k)]) (rest := [.int (N 4 (gr N k)), .int (nI (gr N k)), .ref (a 6)]) (c_X0_loseCane l D Y a N k (by omega)) ⟨hx, hb, hml, hown, hta⟩ (cwX3_122 hta ⟨Nat.le_of_ble_eq_true rfl, Nat.le_of_ble_eq_true rfl⟩) kX0b (fun _ _ _ => trivial) hK hNs hP hD (kJ_all) (q0 := 8) rfl rfl rfl rfl hl.1 rfl (Nat.le_of_ble_eq_true rfl) dX3_loseOldCane_59 ⟨Nat.le_of_ble_eq_true rfl, Nat.le_of_ble_eq_true rfl⟩) hP hD hS hA (kJ_all) (fun _ => rfl) (fun r3 u H locs hw hP hD hS => ?_)
          obtain ⟨rfl, rfl⟩ := hw
          have hP : va_P D vwCl (wM Y a (cLoseCane N k)) H := hP
          have hD : va_D A (wM Y a (cLoseCane N k)) := hD
          refine lv_iadd hx hb dX3_loseOldCane_62 ?_
          refine kiast (f := (cLoseCane N k) 4) hx hb hK hP hD hS 6 rfl (gr N k) rfl (hg.2) (by omega) dX3_loseOldCane_63 (wM Y a (sM (cLoseCane N k) 4 (gr N k) ((N 4 (gr N k)) + (N 10 k)))) rfl (fun H locs hP hD hS => ?_)
          refine lv_iinc (v := nI (k + 1)) (lv' := [(1, .int (nI (k + 1))), (0, .ref (a 0))]) hx hb dX3_loseOldCane_64 hl (k := 0) rfl (nI_add k 1) (by decide) rfl (fun ls hl => ?_)
          refine lv_goto (tgt := 2) hx hb dX3_loseOldCane_67 (by decide) ?_
          exact ih (k + 1) (sM (cLoseCane N k) 4 (gr N k) ((N 4 (gr N k)) + (N 10 k))) (by omega) (by show cLoseStep (cLoseTo M k) k = _; rw [hN]; unfold cLoseStep; exact if_neg c2) (by omega) _ _ hP hD hS ls (lv_sub hl [0, 1] rfl)
  exact loop2 ((nF M - 0) + 1) 0 M (Nat.lt_succ_self _) rfl (by omega) _ _ hP hD hS ls (lv_sub hl [0, 1] rfl)
set_option maxHeartbeats 4000000 in
set_option maxRecDepth 100000 in
theorem c_X3_nextField (l : Launch) (D : va_G) (Y : Nat → ClassId) (a : Nat → Nat) (M : kN) (hI : cI M) : kM l yX3_nextField wX3_nextField rX3_nextField D Y (wM Y a M) [.ref (a 0)] kX0 (kQi D (fun r (_ : Unit) => r = oI (cNextO M)) (fun _ => wM Y a M)) := by
  refine kentry (cc := cX3_nextField) (maxL := 3) (ret := (some .int)) (by decide +kernel) rfl (Nat.le_of_ble_eq_true rfl) ?_
  intro p e s m args below meth c A Q ls hQ hx hb hr hlocks hml hown hin hta hA hX hK hNs hP hD hS hl
  have hown : s.vm.findClass RX3 = some m.cls := hown
  have hl : lv_has ls 3 [(0, .ref (a 0))] := hl
  have h30 := hI.f30
  refine lv_aload_n hx hb dX3_nextField_0 rfl (lv_at hl 0 rfl) ?_
  refine kc_i (krV (As := []) (rest := []) (c_X3_room l D Y a M) ⟨hx, hb, hml, hown, hta⟩ (cwX3_134 hta ⟨Nat.le_of_ble_eq_true rfl, Nat.le_of_ble_eq_true rfl⟩) kX0b (fun _ _ _ => trivial) hK hNs hP hD (kJ_all) (q0 := 0) rfl rfl rfl rfl hl.1 rfl (Nat.le_of_ble_eq_true rfl) dX3_nextField_1 ⟨Nat.le_of_ble_eq_true rfl, Nat.le_of_ble_eq_true rfl⟩) hP hD hS hA (kJ_all) (fun _ => rfl) (fun r1 u H locs hw hP hD hS => ?_)
  subst hw
  have hP : va_P D vwCl (wM Y a M) H := hP
  have hD : va_D A (wM Y a M) := hD
  refine lv_if_gt (tgt := 10) hx hb dX3_nextField_4 (by decide) (fun c2 => ?_) (fun c2 => ?_)
  · refine lv_bipush (v := (-6)) hx hb dX3_nextField_10 (by decide) ?_
    refine lv_istore_n (lv' := [(1, .int (-6)), (0, .ref (a 0))]) hx hb dX3_nextField_12 rfl hl (by decide) rfl (fun ls hl => ?_)
    refine lv_iconst (v := 0) hx hb dX3_nextField_13 (by decide) ?_
    refine lv_istore_n (lv' := [(2, .int 0), (1, .int (-6)), (0, .ref (a 0))]) hx hb dX3_nextField_14 rfl hl (by decide) rfl (fun ls hl => ?_)
    have loop15 : ∀ (n : Nat) (k : Nat) (o : Option Nat), nF M - k < n → o = cBest M k → k ≤ nF M → ∀ (H : Heap) (locs : List Loc), va_P D vwCl (wM Y a M) H → va_D A (wM Y a M) → va_S A s.heap H locs → ∀ (ls : Array Slot), lv_has ls 3 [(2, .int (nI k)), (1, .int (oI o)), (0, .ref (a 0))] → W p l e rX3_nextField s m args below meth c H locs 0 0 Q (F0 m 15 ls []) := by
      intro n
      induction n with
      | zero => intro k o hmu; exact absurd hmu (Nat.not_lt_zero _)
      | succ n ih =>
        intro k o hmu ho hk H locs hP hD hS ls hl
        refine lv_iload_n hx hb dX3_nextField_15 rfl (lv_at hl 0 rfl) ?_
        refine lv_aload_n hx hb dX3_nextField_16 rfl (lv_at hl 2 rfl) ?_
        refine gfX3_25 (v := .ref (a 8)) hx hb hta hown hK hP 0 rfl rfl dX3_nextField_17 ?_
        refine gfX3_110 (v := .int (M 19 4)) hx hb hta hown hK hP 8 rfl rfl dX3_nextField_20 ?_
        refine kTop hI.f ?_
        refine lv_icmp_ge (tgt := 76) hx hb dX3_nextField_23 (by decide) (fun c3 => ?_) (fun c3 => ?_)
        · have c3n : (nF M) ≤ k := (nI_leI (a := nF M) (b := k) (by omega) (by omega)).mp c3
          refine lv_iload_n hx hb dX3_nextField_76 rfl (lv_at hl 1 rfl) ?_
          exact kiret (()) hQ hx hb hr hlocks hP hS dX3_nextField_77 (by have hk2 : k = nF M := (by omega); subst hk2; unfold cNextO; rw [if_pos c2, ho])
        · have c3n : ¬ (nF M) ≤ k := fun h => c3 ((nI_leI (a := nF M) (b := k) (by omega) (by omega)).mpr h)
          refine lv_aload_n hx hb dX3_nextField_26 rfl (lv_at hl 2 rfl) ?_
          refine gfX3_25 (v := .ref (a 8)) hx hb hta hown hK hP 0 rfl rfl dX3_nextField_27 ?_
          refine lv_iload_n hx hb dX3_nextField_30 rfl (lv_at hl 0 rfl) ?_
          refine lv_aload_n hx hb dX3_nextField_31 rfl (lv_at hl 2 rfl) ?_
          refine gfX3_60 (v := .int (M 19 0)) hx hb hta hown hK hP 0 rfl rfl dX3_nextField_32 ?_
          refine kc_i (krV (As := [.int (nI k), .int (M 19 0)]) (rest := []) (c_X0_howItIs l D Y a M k (M 19 0) (by omega)) ⟨hx, hb, hml, hown, hta⟩ (cwX3_137 hta ⟨Nat.le_of_ble_eq_true rfl, Nat.le_of_ble_eq_true rfl⟩) kX0b (fun _ _ _ => trivial) hK hNs hP hD (kJ_all) (q0 := 8) rfl rfl rfl rfl hl.1 rfl (Nat.le_of_ble_eq_true rfl) dX3_nextField_35 ⟨Nat.le_of_ble_eq_true rfl, Nat.le_of_ble_eq_true rfl⟩) hP hD hS hA (kJ_all) (fun _ => rfl) (fun r4 u H locs hw hP hD hS => ?_)
          subst hw
          have hP : va_P D vwCl (wM Y a M) H := hP
          have hD : va_D A (wM Y a M) := hD
          refine lv_iconst (v := 1) hx hb dX3_nextField_38 (by decide) ?_
          refine lv_icmp_ne (tgt := 70) hx hb dX3_nextField_39 (by decide) (fun c5 => ?_) (fun c5 => ?_)
          · refine lv_iinc (v := nI (k + 1)) (lv' := [(2, .int (nI (k + 1))), (1, .int (oI o)), (0, .ref (a 0))]) hx hb dX3_nextField_70 hl (k := 0) rfl (nI_add k 1) (by decide) rfl (fun ls hl => ?_)
            refine lv_goto (tgt := 15) hx hb dX3_nextField_73 (by decide) ?_
            exact ih (k + 1) o (by omega) (by show _ = (if pCan M k then cBetter M k (cBest M k) else cBest M k); rw [if_neg (fun h => c5 h.1)]; exact ho) (by omega) _ _ hP hD hS ls (lv_sub hl [0, 1, 2] rfl)
          · refine lv_aload_n hx hb dX3_nextField_42 rfl (lv_at hl 2 rfl) ?_
            refine lv_iload_n hx hb dX3_nextField_43 rfl (lv_at hl 0 rfl) ?_
            refine kc_i (krV (As := [.int (nI k)]) (rest := []) (c_X3_quotaOf l D Y a M k (by omega) (hI.g (by omega))) ⟨hx, hb, hml, hown, hta⟩ (cwX3_141 hta ⟨Nat.le_of_ble_eq_true rfl, Nat.le_of_ble_eq_true rfl⟩) kX0b (fun _ _ _ => trivial) hK hNs hP hD (kJ_all) (q0 := 0) rfl rfl rfl rfl hl.1 rfl (Nat.le_of_ble_eq_true rfl) dX3_nextField_44 ⟨Nat.le_of_ble_eq_true rfl, Nat.le_of_ble_eq_true rfl⟩) hP hD hS hA (kJ_all) (fun _ => rfl) (fun r6 u H locs hw hP hD hS => ?_)
            subst hw
            have hP : va_P D vwCl (wM Y a M) H := hP
            have hD : va_D A (wM Y a M) := hD
            refine lv_if_gt (tgt := 53) hx hb dX3_nextField_47 (by decide) (fun c7 => ?_) (fun c7 => ?_)
            · rcases o with _ | b0
              · have hl : lv_has ls 3 [(2, .int (nI k)), (1, .int (-6)), (0, .ref (a 0))] := hl
                refine lv_iload_n hx hb dX3_nextField_53 rfl (lv_at hl 1 rfl) ?_
                refine lv_bipush (v := (-6)) hx hb dX3_nextField_54 (by decide) ?_
                refine lv_icmp_eq (tgt := 68) hx hb dX3_nextField_56 (by decide) (fun _ => ?_) (fun h => absurd rfl h)
                refine lv_iload_n hx hb dX3_nextField_68 rfl (lv_at hl 0 rfl) ?_
                refine lv_istore_n (lv' := [(1, .int (nI k)), (2, .int (nI k)), (0, .ref (a 0))]) hx hb dX3_nextField_69 rfl hl (by decide) rfl (fun ls hl => ?_)
                refine lv_iinc (v := nI (k + 1)) (lv' := [(2, .int (nI (k + 1))), (1, .int (nI k)), (0, .ref (a 0))]) hx hb dX3_nextField_70 hl (k := 1) rfl (nI_add k 1) (by decide) rfl (fun ls hl => ?_)
                refine lv_goto (tgt := 15) hx hb dX3_nextField_73 (by decide) ?_
                exact ih (k + 1) (some k) (by omega) (by show _ = (if pCan M k then cBetter M k (cBest M k) else cBest M k); rw [if_pos ⟨c5, c7⟩, ← ho]; rfl) (by omega) _ _ hP hD hS ls (lv_sub hl [0, 1, 2] rfl)
              · have hl : lv_has ls 3 [(2, .int (nI k)), (1, .int (nI b0)), (0, .ref (a 0))] := hl
                have hb0 : b0 < k := cBest_lt ho.symm
                refine lv_iload_n hx hb dX3_nextField_53 rfl (lv_at hl 1 rfl) ?_
                refine lv_bipush (v := (-6)) hx hb dX3_nextField_54 (by decide) ?_
                refine lv_icmp_eq (tgt := 68) hx hb dX3_nextField_56 (by decide) (fun h => absurd h (oI_ne (by omega))) (fun _ => ?_)
                refine lv_aload_n hx hb dX3_nextField_59 rfl (lv_at hl 2 rfl) ?_
                refine lv_iload_n hx hb dX3_nextField_60 rfl (lv_at hl 0 rfl) ?_
                refine lv_iload_n hx hb dX3_nextField_61 rfl (lv_at hl 1 rfl) ?_
                refine kc_i (krV (As := [.int (nI k), .int (nI b0)]) (rest := []) (c_X3_goesAhead l D Y a M k b0 (by omega) (by omega) (hI.g (by omega)) (hI.g (by omega))) ⟨hx, hb, hml, hown, hta⟩ (cwX3_144 hta ⟨Nat.le_of_ble_eq_true rfl, Nat.le_of_ble_eq_true rfl⟩) kX0b (fun _ _ _ => trivial) hK hNs hP hD (kJ_all) (q0 := 0) rfl rfl rfl rfl hl.1 rfl (Nat.le_of_ble_eq_true rfl) dX3_nextField_62 ⟨Nat.le_of_ble_eq_true rfl, Nat.le_of_ble_eq_true rfl⟩) hP hD hS hA (kJ_all) (fun _ => rfl) (fun r10 u H locs hw hP hD hS => ?_)
                subst hw
                have hP : va_P D vwCl (wM Y a M) H := hP
                have hD : va_D A (wM Y a M) := hD
                by_cases c11 : pAheadM M k b0
                · refine kTop (kb_t c11) ?_
                  refine lv_if_eq (tgt := 70) hx hb dX3_nextField_65 (by decide) (fun h => False.elim (by revert h; decide)) (fun _ => ?_)
                  refine lv_iload_n hx hb dX3_nextField_68 rfl (lv_at hl 0 rfl) ?_
                  refine lv_istore_n (lv' := [(1, .int (nI k)), (2, .int (nI k)), (0, .ref (a 0))]) hx hb dX3_nextField_69 rfl hl (by decide) rfl (fun ls hl => ?_)
                  refine lv_iinc (v := nI (k + 1)) (lv' := [(2, .int (nI (k + 1))), (1, .int (nI k)), (0, .ref (a 0))]) hx hb dX3_nextField_70 hl (k := 1) rfl (nI_add k 1) (by decide) rfl (fun ls hl => ?_)
                  refine lv_goto (tgt := 15) hx hb dX3_nextField_73 (by decide) ?_
                  exact ih (k + 1) (some k) (by omega) (by show _ = (if pCan M k then cBetter M k (cBest M k) else cBest M k); rw [if_pos ⟨c5, c7⟩, ← ho]; exact (if_pos c11).symm) (by omega) _ _ hP hD hS ls (lv_sub hl [0, 1, 2] rfl)
                · refine kTop (kb_f c11) ?_
                  refine lv_if_eq (tgt := 70) hx hb dX3_nextField_65 (by decide) (fun _ => ?_) (fun h => False.elim (by revert h; decide))
                  refine lv_iinc (v := nI (k + 1)) (lv' := [(2, .int (nI (k + 1))), (1, .int (nI b0)), (0, .ref (a 0))]) hx hb dX3_nextField_70 hl (k := 0) rfl (nI_add k 1) (by decide) rfl (fun ls hl => ?_)
                  refine lv_goto (tgt := 15) hx hb dX3_nextField_73 (by decide) ?_
                  exact ih (k + 1) (some b0) (by omega) (by show _ = (if pCan M k then cBetter M k (cBest M k) else cBest M k); rw [if_pos ⟨c5, c7⟩, ← ho]; exact (if_neg c11).symm) (by omega) _ _ hP hD hS ls (lv_sub hl [0, 1, 2] rfl)
            · refine lv_goto (tgt := 70) hx hb dX3_nextField_50 (by decide) ?_
              refine lv_iinc (v := nI (k + 1)) (lv' := [(2, .int (nI (k + 1))), (1, .int (oI o)), (0, .ref (a 0))]) hx hb dX3_nextField_70 hl (k := 0) rfl (nI_add k 1) (by decide) rfl (fun ls hl => ?_)
              refine lv_goto (tgt := 15) hx hb dX3_nextField_73 (by decide) ?_
              exact ih (k + 1) o (by omega) (by show _ = (if pCan M k then cBetter M k (cBest M k) else cBest M k); rw [if_neg (fun h => c7 h.2)]; exact ho) (by omega) _ _ hP hD hS ls (lv_sub hl [0, 1, 2] rfl)
    exact loop15 ((nF M - 0) + 1) 0 none (Nat.lt_succ_self _) rfl (by omega) _ _ hP hD hS ls (lv_sub hl [0, 1, 2] rfl)
  · refine lv_bipush (v := (-6)) hx hb dX3_nextField_7 (by decide) ?_
    exact kiret (()) hQ hx hb hr hlocks hP hS dX3_nextField_9 (by unfold cNextO; rw [if_neg c2]; rfl)
set_option maxHeartbeats 4000000 in
set_option maxRecDepth 100000 in
theorem c_X3_bringLoad (l : Launch) (D : va_G) (Y : Nat → ClassId) (a : Nat → Nat) (M : kN) (f : Nat) (hI : cI M) (hf : f < nF M) : kM l yX3_bringLoad wX3_bringLoad rX3_bringLoad D Y (wM Y a M) [.ref (a 0), .int (nI f)] kX0 (kQv D (fun u => u = cBringLoad M f) (fun u => wM Y a u)) := by
  refine kentry (cc := cX3_bringLoad) (maxL := 5) (ret := none) (by decide +kernel) rfl (Nat.le_of_ble_eq_true rfl) ?_
  intro p e s m args below meth c A Q ls hQ hx hb hr hlocks hml hown hin hta hA hX hK hNs hP hD hS hl
  have hown : s.vm.findClass RX3 = some m.cls := hown
  have hl : lv_has ls 5 [(0, .ref (a 0)), (1, .int (nI f))] := hl
  have h30 := hI.f30
  have hg := hI.g hf
  refine lv_aload_n hx hb dX3_bringLoad_0 rfl (lv_at hl 0 rfl) ?_
  refine gfX3_9 (v := .ref (a 1)) hx hb hta hown hK hP 0 rfl rfl dX3_bringLoad_1 ?_
  refine lv_iconst (v := 1) hx hb dX3_bringLoad_4 (by decide) ?_
  refine kiald (f := M 0) hx hb hK hP 1 rfl 1 rfl (by omega) (by omega) dX3_bringLoad_5 ?_
  refine lv_aload_n hx hb dX3_bringLoad_6 rfl (lv_at hl 0 rfl) ?_
  refine gfX3_25 (v := .ref (a 8)) hx hb hta hown hK hP 0 rfl rfl dX3_bringLoad_7 ?_
  refine gfX3_154 (v := .ref (a 13)) hx hb hta hown hK hP 8 rfl rfl dX3_bringLoad_10 ?_
  refine lv_iload_n hx hb dX3_bringLoad_13 rfl (lv_at hl 1 rfl) ?_
  refine kiald (f := M 10) hx hb hK hP 13 rfl f rfl (by omega) (by omega) dX3_bringLoad_14 ?_
  refine va_mmin hx hb (by rw [hml]; exact hl.1.symm) hown (hta _ al_350) (hta _ al_132) (hta _ al_133) (hta _ al_134) (Nat.le_of_ble_eq_true rfl) (Nat.le_of_ble_eq_true rfl) (Nat.le_of_ble_eq_true rfl) (Nat.le_of_ble_eq_true rfl) dX3_bringLoad_15 ?_
  refine kTop (y := kmin (M 0 1) (M 10 f)) rfl ?_
  refine lv_istore_n (lv' := [(2, .int (kmin (M 0 1) (M 10 f))), (0, .ref (a 0)), (1, .int (nI f))]) hx hb dX3_bringLoad_18 rfl hl (by decide) rfl (fun ls hl => ?_)
  refine lv_iload_n hx hb dX3_bringLoad_19 rfl (lv_at hl 0 rfl) ?_
  refine lv_aload_n hx hb dX3_bringLoad_20 rfl (lv_at hl 1 rfl) ?_
  refine lv_iload_n hx hb dX3_bringLoad_21 rfl (lv_at hl 2 rfl) ?_
  refine kc_i (krV (As := [.int (nI f)]) (rest := [.int (kmin (M 0 1) (M 10 f))]) (c_X3_quotaOf l D Y a M f (by omega) (hg)) ⟨hx, hb, hml, hown, hta⟩ (cwX3_141 hta ⟨Nat.le_of_ble_eq_true rfl, Nat.le_of_ble_eq_true rfl⟩) kX0b (fun _ _ _ => trivial) hK hNs hP hD (kJ_all) (q0 := 0) rfl rfl rfl rfl hl.1 rfl (Nat.le_of_ble_eq_true rfl) dX3_bringLoad_22 ⟨Nat.le_of_ble_eq_true rfl, Nat.le_of_ble_eq_true rfl⟩) hP hD hS hA (kJ_all) (fun _ => rfl) (fun r1 u H locs hw hP hD hS => ?_)
  subst hw
  have hP : va_P D vwCl (wM Y a M) H := hP
  have hD : va_D A (wM Y a M) := hD
  refine lv_aload_n hx hb dX3_bringLoad_25 rfl (lv_at hl 1 rfl) ?_
  refine kc_i (krV (As := []) (rest := [.int (M 1 (gr M f)), .int (kmin (M 0 1) (M 10 f))]) (c_X3_room l D Y a M) ⟨hx, hb, hml, hown, hta⟩ (cwX3_134 hta ⟨Nat.le_of_ble_eq_true rfl, Nat.le_of_ble_eq_true rfl⟩) kX0b (fun _ _ _ => trivial) hK hNs hP hD (kJ_all) (q0 := 0) rfl rfl rfl rfl hl.1 rfl (Nat.le_of_ble_eq_true rfl) dX3_bringLoad_26 ⟨Nat.le_of_ble_eq_true rfl, Nat.le_of_ble_eq_true rfl⟩) hP hD hS hA (kJ_all) (fun _ => rfl) (fun r2 u H locs hw hP hD hS => ?_)
  subst hw
  have hP : va_P D vwCl (wM Y a M) H := hP
  have hD : va_D A (wM Y a M) := hD
  refine va_mmin hx hb (by rw [hml]; exact hl.1.symm) hown (hta _ al_350) (hta _ al_132) (hta _ al_133) (hta _ al_134) (Nat.le_of_ble_eq_true rfl) (Nat.le_of_ble_eq_true rfl) (Nat.le_of_ble_eq_true rfl) (Nat.le_of_ble_eq_true rfl) dX3_bringLoad_29 ?_
  refine kTop (y := kmin (M 1 (gr M f)) (cRoom M)) rfl ?_
  refine va_mmin hx hb (by rw [hml]; exact hl.1.symm) hown (hta _ al_350) (hta _ al_132) (hta _ al_133) (hta _ al_134) (Nat.le_of_ble_eq_true rfl) (Nat.le_of_ble_eq_true rfl) (Nat.le_of_ble_eq_true rfl) (Nat.le_of_ble_eq_true rfl) dX3_bringLoad_32 ?_
  refine kTop (y := kmin (kmin (M 0 1) (M 10 f)) (kmin (M 1 (gr M f)) (cRoom M))) rfl ?_
  refine lv_istore_n (lv' := [(3, .int (kmin (kmin (M 0 1) (M 10 f)) (kmin (M 1 (gr M f)) (cRoom M)))), (2, .int (kmin (M 0 1) (M 10 f))), (0, .ref (a 0)), (1, .int (nI f))]) hx hb dX3_bringLoad_35 rfl hl (by decide) rfl (fun ls hl => ?_)
  refine lv_aload_n hx hb dX3_bringLoad_36 rfl (lv_at hl 2 rfl) ?_
  refine gfX3_25 (v := .ref (a 8)) hx hb hta hown hK hP 0 rfl rfl dX3_bringLoad_37 ?_
  refine gfX3_119 (v := .ref (a 9)) hx hb hta hown hK hP 8 rfl rfl dX3_bringLoad_40 ?_
  refine lv_iload_n hx hb dX3_bringLoad_43 rfl (lv_at hl 3 rfl) ?_
  refine kiald (f := M 6) hx hb hK hP 9 rfl f rfl (by omega) (by omega) dX3_bringLoad_44 ?_
  refine kTop hg.1 ?_
  refine lv_istore (lv' := [(4, .int (nI (gr M f))), (3, .int (kmin (kmin (M 0 1) (M 10 f)) (kmin (M 1 (gr M f)) (cRoom M)))), (2, .int (kmin (M 0 1) (M 10 f))), (0, .ref (a 0)), (1, .int (nI f))]) hx hb dX3_bringLoad_45 hl (by decide) rfl (fun ls hl => ?_)
  refine lv_aload_n hx hb dX3_bringLoad_47 rfl (lv_at hl 3 rfl) ?_
  refine gfX3_18 (v := .ref (a 2)) hx hb hta hown hK hP 0 rfl rfl dX3_bringLoad_48 ?_
  refine gfX3_87 (v := .ref (a 3)) hx hb hta hown hK hP 2 rfl rfl dX3_bringLoad_51 ?_
  refine lv_iload hx hb dX3_bringLoad_54 (lv_at hl 0 rfl) ?_
  refine lv_dup2_11 hx hb dX3_bringLoad_56 rfl rfl ?_
  refine kiald (f := M 1) hx hb hK hP 3 rfl (gr M f) rfl (hg.2) (by omega) dX3_bringLoad_57 ?_
  refine lv_iload_n hx hb dX3_bringLoad_58 rfl (lv_at hl 1 rfl) ?_
  refine lv_isub hx hb dX3_bringLoad_59 ?_
  refine kiast (f := M 1) hx hb hK hP hD hS 3 rfl (gr M f) rfl (hg.2) (by omega) dX3_bringLoad_60 (wM Y a (sM M 1 (gr M f) ((M 1 (gr M f)) - (kmin (kmin (M 0 1) (M 10 f)) (kmin (M 1 (gr M f)) (cRoom M)))))) rfl (fun H locs hP hD hS => ?_)
  refine lv_aload_n hx hb dX3_bringLoad_61 rfl (lv_at hl 3 rfl) ?_
  refine gfX3_18 (v := .ref (a 2)) hx hb hta hown hK hP 0 rfl rfl dX3_bringLoad_62 ?_
  refine gfX3_162 (v := .ref (a 4)) hx hb hta hown hK hP 2 rfl rfl dX3_bringLoad_65 ?_
  refine lv_iload hx hb dX3_bringLoad_68 (lv_at hl 0 rfl) ?_
  refine lv_dup2_11 hx hb dX3_bringLoad_70 rfl rfl ?_
  refine kiald (f := M 2) hx hb hK hP 4 rfl (gr M f) rfl (hg.2) (by omega) dX3_bringLoad_71 ?_
  refine lv_iload_n hx hb dX3_bringLoad_72 rfl (lv_at hl 1 rfl) ?_
  refine lv_iadd hx hb dX3_bringLoad_73 ?_
  refine kiast (f := M 2) hx hb hK hP hD hS 4 rfl (gr M f) rfl (hg.2) (by omega) dX3_bringLoad_74 (wM Y a (sM (sM M 1 (gr M f) ((M 1 (gr M f)) - (kmin (kmin (M 0 1) (M 10 f)) (kmin (M 1 (gr M f)) (cRoom M))))) 2 (gr M f) ((M 2 (gr M f)) + (kmin (kmin (M 0 1) (M 10 f)) (kmin (M 1 (gr M f)) (cRoom M)))))) rfl (fun H locs hP hD hS => ?_)
  refine lv_aload_n hx hb dX3_bringLoad_75 rfl (lv_at hl 3 rfl) ?_
  refine gfX3_25 (v := .ref (a 8)) hx hb hta hown hK hP 0 rfl rfl dX3_bringLoad_76 ?_
  refine gfX3_154 (v := .ref (a 13)) hx hb hta hown hK hP 8 rfl rfl dX3_bringLoad_79 ?_
  refine lv_iload_n hx hb dX3_bringLoad_82 rfl (lv_at hl 4 rfl) ?_
  refine lv_dup2_11 hx hb dX3_bringLoad_83 rfl rfl ?_
  refine kiald (f := M 10) hx hb hK hP 13 rfl f rfl (by omega) (by omega) dX3_bringLoad_84 ?_
  refine lv_iload_n hx hb dX3_bringLoad_85 rfl (lv_at hl 1 rfl) ?_
  refine lv_isub hx hb dX3_bringLoad_86 ?_
  refine kiast (f := M 10) hx hb hK hP hD hS 13 rfl f rfl (by omega) (by omega) dX3_bringLoad_87 (wM Y a (sM (sM (sM M 1 (gr M f) ((M 1 (gr M f)) - (kmin (kmin (M 0 1) (M 10 f)) (kmin (M 1 (gr M f)) (cRoom M))))) 2 (gr M f) ((M 2 (gr M f)) + (kmin (kmin (M 0 1) (M 10 f)) (kmin (M 1 (gr M f)) (cRoom M))))) 10 f ((M 10 f) - (kmin (kmin (M 0 1) (M 10 f)) (kmin (M 1 (gr M f)) (cRoom M)))))) rfl (fun H locs hP hD hS => ?_)
  refine lv_aload_n hx hb dX3_bringLoad_88 rfl (lv_at hl 3 rfl) ?_
  refine gfX3_25 (v := .ref (a 8)) hx hb hta hown hK hP 0 rfl rfl dX3_bringLoad_89 ?_
  refine gfX3_165 (v := .ref (a 14)) hx hb hta hown hK hP 8 rfl rfl dX3_bringLoad_92 ?_
  refine lv_iload_n hx hb dX3_bringLoad_95 rfl (lv_at hl 4 rfl) ?_
  refine lv_dup2_11 hx hb dX3_bringLoad_96 rfl rfl ?_
  refine kiald (f := M 11) hx hb hK hP 14 rfl f rfl (by omega) (by omega) dX3_bringLoad_97 ?_
  refine lv_iload_n hx hb dX3_bringLoad_98 rfl (lv_at hl 1 rfl) ?_
  refine lv_iadd hx hb dX3_bringLoad_99 ?_
  refine kiast (f := M 11) hx hb hK hP hD hS 14 rfl f rfl (by omega) (by omega) dX3_bringLoad_100 (wM Y a (sM (sM (sM (sM M 1 (gr M f) ((M 1 (gr M f)) - (kmin (kmin (M 0 1) (M 10 f)) (kmin (M 1 (gr M f)) (cRoom M))))) 2 (gr M f) ((M 2 (gr M f)) + (kmin (kmin (M 0 1) (M 10 f)) (kmin (M 1 (gr M f)) (cRoom M))))) 10 f ((M 10 f) - (kmin (kmin (M 0 1) (M 10 f)) (kmin (M 1 (gr M f)) (cRoom M))))) 11 f ((M 11 f) + (kmin (kmin (M 0 1) (M 10 f)) (kmin (M 1 (gr M f)) (cRoom M)))))) rfl (fun H locs hP hD hS => ?_)
  refine lv_aload_n hx hb dX3_bringLoad_101 rfl (lv_at hl 3 rfl) ?_
  refine gfX3_39 (v := .ref (a 20)) hx hb hta hown hK hP 0 rfl rfl dX3_bringLoad_102 ?_
  refine lv_iload_n hx hb dX3_bringLoad_105 rfl (lv_at hl 4 rfl) ?_
  refine lv_iload_n hx hb dX3_bringLoad_106 rfl (lv_at hl 1 rfl) ?_
  refine lv_aload_n hx hb dX3_bringLoad_107 rfl (lv_at hl 3 rfl) ?_
  refine gfX3_60 (v := .int (M 19 0)) hx hb hta hown hK hP 0 rfl rfl dX3_bringLoad_108 ?_
  refine kc_v (krV (As := [.int (nI f), .int (kmin (kmin (M 0 1) (M 10 f)) (kmin (M 1 (gr M f)) (cRoom M))), .int (M 19 0)]) (rest := []) (c_X6_append l D Y a (sM (sM (sM (sM M 1 (gr M f) ((M 1 (gr M f)) - (kmin (kmin (M 0 1) (M 10 f)) (kmin (M 1 (gr M f)) (cRoom M))))) 2 (gr M f) ((M 2 (gr M f)) + (kmin (kmin (M 0 1) (M 10 f)) (kmin (M 1 (gr M f)) (cRoom M))))) 10 f ((M 10 f) - (kmin (kmin (M 0 1) (M 10 f)) (kmin (M 1 (gr M f)) (cRoom M))))) 11 f ((M 11 f) + (kmin (kmin (M 0 1) (M 10 f)) (kmin (M 1 (gr M f)) (cRoom M))))) (nI f) (kmin (kmin (M 0 1) (M 10 f)) (kmin (M 1 (gr M f)) (cRoom M))) (M 19 0) (cLeaves_I hI f)) ⟨hx, hb, hml, hown, hta⟩ (cwX3_168 hta ⟨Nat.le_of_ble_eq_true rfl, Nat.le_of_ble_eq_true rfl⟩) kX0b (fun _ _ _ => trivial) hK hNs hP hD (kJ_all) (q0 := 20) rfl rfl rfl rfl hl.1 rfl (Nat.le_of_ble_eq_true rfl) dX3_bringLoad_111 ⟨Nat.le_of_ble_eq_true rfl, Nat.le_of_ble_eq_true rfl⟩) hP hD hS hA (kJ_all) (fun _ => rfl) (fun u H locs hw hP hD hS => ?_)
  subst hw
  have hP : va_P D vwCl (wM Y a (cAppend (sM (sM (sM (sM M 1 (gr M f) ((M 1 (gr M f)) - (kmin (kmin (M 0 1) (M 10 f)) (kmin (M 1 (gr M f)) (cRoom M))))) 2 (gr M f) ((M 2 (gr M f)) + (kmin (kmin (M 0 1) (M 10 f)) (kmin (M 1 (gr M f)) (cRoom M))))) 10 f ((M 10 f) - (kmin (kmin (M 0 1) (M 10 f)) (kmin (M 1 (gr M f)) (cRoom M))))) 11 f ((M 11 f) + (kmin (kmin (M 0 1) (M 10 f)) (kmin (M 1 (gr M f)) (cRoom M))))) (nI f) (kmin (kmin (M 0 1) (M 10 f)) (kmin (M 1 (gr M f)) (cRoom M))) (M 19 0))) H := hP
  have hD : va_D A (wM Y a (cAppend (sM (sM (sM (sM M 1 (gr M f) ((M 1 (gr M f)) - (kmin (kmin (M 0 1) (M 10 f)) (kmin (M 1 (gr M f)) (cRoom M))))) 2 (gr M f) ((M 2 (gr M f)) + (kmin (kmin (M 0 1) (M 10 f)) (kmin (M 1 (gr M f)) (cRoom M))))) 10 f ((M 10 f) - (kmin (kmin (M 0 1) (M 10 f)) (kmin (M 1 (gr M f)) (cRoom M))))) 11 f ((M 11 f) + (kmin (kmin (M 0 1) (M 10 f)) (kmin (M 1 (gr M f)) (cRoom M))))) (nI f) (kmin (kmin (M 0 1) (M 10 f)) (kmin (M 1 (gr M f)) (cRoom M))) (M 19 0))) := hD
  refine lv_aload_n hx hb dX3_bringLoad_114 rfl (lv_at hl 3 rfl) ?_
  refine lv_dup hx hb dX3_bringLoad_115 rfl ?_
  refine gfX3_67 (v := .int ((cAppend (sM (sM (sM (sM M 1 (gr M f) ((M 1 (gr M f)) - (kmin (kmin (M 0 1) (M 10 f)) (kmin (M 1 (gr M f)) (cRoom M))))) 2 (gr M f) ((M 2 (gr M f)) + (kmin (kmin (M 0 1) (M 10 f)) (kmin (M 1 (gr M f)) (cRoom M))))) 10 f ((M 10 f) - (kmin (kmin (M 0 1) (M 10 f)) (kmin (M 1 (gr M f)) (cRoom M))))) 11 f ((M 11 f) + (kmin (kmin (M 0 1) (M 10 f)) (kmin (M 1 (gr M f)) (cRoom M))))) (nI f) (kmin (kmin (M 0 1) (M 10 f)) (kmin (M 1 (gr M f)) (cRoom M))) (M 19 0)) 19 2)) hx hb hta hown hK hP 0 rfl rfl dX3_bringLoad_116 ?_
  refine lv_iconst (v := 1) hx hb dX3_bringLoad_119 (by decide) ?_
  refine lv_iadd hx hb dX3_bringLoad_120 ?_
  refine pfX3_67 (ws1 := wM Y a (sM (cAppend (sM (sM (sM (sM M 1 (gr M f) ((M 1 (gr M f)) - (kmin (kmin (M 0 1) (M 10 f)) (kmin (M 1 (gr M f)) (cRoom M))))) 2 (gr M f) ((M 2 (gr M f)) + (kmin (kmin (M 0 1) (M 10 f)) (kmin (M 1 (gr M f)) (cRoom M))))) 10 f ((M 10 f) - (kmin (kmin (M 0 1) (M 10 f)) (kmin (M 1 (gr M f)) (cRoom M))))) 11 f ((M 11 f) + (kmin (kmin (M 0 1) (M 10 f)) (kmin (M 1 (gr M f)) (cRoom M))))) (nI f) (kmin (kmin (M 0 1) (M 10 f)) (kmin (M 1 (gr M f)) (cRoom M))) (M 19 0)) 19 2 (((cAppend (sM (sM (sM (sM M 1 (gr M f) ((M 1 (gr M f)) - (kmin (kmin (M 0 1) (M 10 f)) (kmin (M 1 (gr M f)) (cRoom M))))) 2 (gr M f) ((M 2 (gr M f)) + (kmin (kmin (M 0 1) (M 10 f)) (kmin (M 1 (gr M f)) (cRoom M))))) 10 f ((M 10 f) - (kmin (kmin (M 0 1) (M 10 f)) (kmin (M 1 (gr M f)) (cRoom M))))) 11 f ((M 11 f) + (kmin (kmin (M 0 1) (M 10 f)) (kmin (M 1 (gr M f)) (cRoom M))))) (nI f) (kmin (kmin (M 0 1) (M 10 f)) (kmin (M 1 (gr M f)) (cRoom M))) (M 19 0)) 19 2) + 1))) hx hb hta hown hK hP hD hS 0 rfl (Nat.le_of_ble_eq_true rfl) rfl dX3_bringLoad_121 (fun H locs hP hD hS => ?_)
  exact kvret (sM (cAppend (sM (sM (sM (sM M 1 (gr M f) ((M 1 (gr M f)) - (kmin (kmin (M 0 1) (M 10 f)) (kmin (M 1 (gr M f)) (cRoom M))))) 2 (gr M f) ((M 2 (gr M f)) + (kmin (kmin (M 0 1) (M 10 f)) (kmin (M 1 (gr M f)) (cRoom M))))) 10 f ((M 10 f) - (kmin (kmin (M 0 1) (M 10 f)) (kmin (M 1 (gr M f)) (cRoom M))))) 11 f ((M 11 f) + (kmin (kmin (M 0 1) (M 10 f)) (kmin (M 1 (gr M f)) (cRoom M))))) (nI f) (kmin (kmin (M 0 1) (M 10 f)) (kmin (M 1 (gr M f)) (cRoom M))) (M 19 0)) 19 2 (((cAppend (sM (sM (sM (sM M 1 (gr M f) ((M 1 (gr M f)) - (kmin (kmin (M 0 1) (M 10 f)) (kmin (M 1 (gr M f)) (cRoom M))))) 2 (gr M f) ((M 2 (gr M f)) + (kmin (kmin (M 0 1) (M 10 f)) (kmin (M 1 (gr M f)) (cRoom M))))) 10 f ((M 10 f) - (kmin (kmin (M 0 1) (M 10 f)) (kmin (M 1 (gr M f)) (cRoom M))))) 11 f ((M 11 f) + (kmin (kmin (M 0 1) (M 10 f)) (kmin (M 1 (gr M f)) (cRoom M))))) (nI f) (kmin (kmin (M 0 1) (M 10 f)) (kmin (M 1 (gr M f)) (cRoom M))) (M 19 0)) 19 2) + 1)) hQ hx hb hr hlocks hP hS dX3_bringLoad_124 rfl
