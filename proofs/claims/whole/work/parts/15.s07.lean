set_option maxHeartbeats 4000000 in
set_option maxRecDepth 100000 in
theorem c_X8_inYard (l : Launch) (D : va_G) (Y : Nat → ClassId) (x : Nat) (s : kS) (hX : mX s) : kM l yX8_inYard wX8_inYard rX8_inYard D Y ([(x, .inl (Y 0, 1497, .inl s))]) [.ref x] kX0 (kQi D (fun r (_ : Unit) => r = mYd s (mY s)) (fun _ => [(x, .inl (Y 0, 1497, .inl s))])) := by
  refine kentry (cc := cX8_inYard) (maxL := 3) (ret := (some .int)) (by decide +kernel) rfl (Nat.le_of_ble_eq_true rfl) ?_
  intro p e s0 m args below meth c A Q ls hQ hx hb hr hlocks hml hown hin hta hA hX0 hK hNs hP hD hS hl
  have hown : s0.vm.findClass RX8 = some m.cls := hown
  have hl : lv_has ls 3 [(0, .ref x)] := hl
  have h400 := hX.y400
  refine lv_iconst (v := 0) hx hb dX8_inYard_0 (by decide) ?_
  refine lv_istore_n (lv' := [(1, .int 0), (0, .ref x)]) hx hb dX8_inYard_1 rfl hl (by decide) rfl (fun ls hl => ?_)
  refine lv_iconst (v := 0) hx hb dX8_inYard_2 (by decide) ?_
  refine lv_istore_n (lv' := [(2, .int 0), (1, .int 0), (0, .ref x)]) hx hb dX8_inYard_3 rfl hl (by decide) rfl (fun ls hl => ?_)
  have loop4 : ∀ (n : Nat) (k : Nat), mY s - k < n → k ≤ mY s → ∀ (H : Heap) (locs : List Loc), va_P D vwCl ([(x, .inl (Y 0, 1497, .inl s))]) H → va_D A ([(x, .inl (Y 0, 1497, .inl s))]) → va_S A s0.heap H locs → ∀ (ls : Array Slot), lv_has ls 3 [(2, .int (nI k)), (1, .int (mYd s k)), (0, .ref x)] → W p l e rX8_inYard s0 m args below meth c H locs 0 0 Q (F0 m 4 ls []) := by
    intro n
    induction n with
    | zero => intro k hmu; exact absurd hmu (Nat.not_lt_zero _)
    | succ n ih =>
      intro k hmu hk H locs hP hD hS ls hl
      refine lv_iload_n hx hb dX8_inYard_4 rfl (lv_at hl 0 rfl) ?_
      refine lv_aload_n hx hb dX8_inYard_5 rfl (lv_at hl 2 rfl) ?_
      refine lv_sipush (v := 296) hx hb dX8_inYard_6 (by decide) ?_
      refine kiald (f := s) hx hb hK hP 0 rfl 296 rfl (by omega) (by omega) dX8_inYard_9 ?_
      refine kTop hX.y ?_
      refine lv_icmp_ge (tgt := 33) hx hb dX8_inYard_10 (by decide) (fun c1 => ?_) (fun c1 => ?_)
      · have c1n : (mY s) ≤ k := (nI_leI (a := mY s) (b := k) (by omega) (by omega)).mp c1
        refine lv_iload_n hx hb dX8_inYard_33 rfl (lv_at hl 1 rfl) ?_
        exact kiret (()) hQ hx hb hr hlocks hP hS dX8_inYard_34 (by have hk2 : k = mY s := (by omega); rw [hk2])
      · have c1n : ¬ (mY s) ≤ k := fun h => c1 ((nI_leI (a := mY s) (b := k) (by omega) (by omega)).mpr h)
        refine lv_iload_n hx hb dX8_inYard_13 rfl (lv_at hl 1 rfl) ?_
        refine lv_aload_n hx hb dX8_inYard_14 rfl (lv_at hl 2 rfl) ?_
        refine lv_sipush (v := 297) hx hb dX8_inYard_15 (by decide) ?_
        refine lv_iconst (v := 3) hx hb dX8_inYard_18 (by decide) ?_
        refine lv_iload_n hx hb dX8_inYard_19 rfl (lv_at hl 0 rfl) ?_
        refine lv_imul hx hb dX8_inYard_20 ?_
        refine kTop (pk_mul 3 k) ?_
        refine lv_iadd hx hb dX8_inYard_21 ?_
        refine kTop (nI_add 297 (3 * k)) ?_
        refine lv_iconst (v := 1) hx hb dX8_inYard_22 (by decide) ?_
        refine lv_iadd hx hb dX8_inYard_23 ?_
        refine kTop (nI_add (297 + 3 * k) 1) ?_
        refine kiald (f := s) hx hb hK hP 0 rfl (297 + 3 * k + 1) rfl (by omega) (by omega) dX8_inYard_24 ?_
        refine lv_iadd hx hb dX8_inYard_25 ?_
        refine lv_istore_n (lv' := [(1, .int ((mYd s k) + (s (297 + 3 * k + 1)))), (2, .int (nI k)), (0, .ref x)]) hx hb dX8_inYard_26 rfl hl (by decide) rfl (fun ls hl => ?_)
        refine lv_iinc (v := nI (k + 1)) (lv' := [(2, .int (nI (k + 1))), (1, .int ((mYd s k) + (s (297 + 3 * k + 1)))), (0, .ref x)]) hx hb dX8_inYard_27 hl (k := 1) rfl (nI_add k 1) (by decide) rfl (fun ls hl => ?_)
        refine lv_goto (tgt := 4) hx hb dX8_inYard_30 (by decide) ?_
        exact ih (k + 1) (by omega) (by omega) _ _ hP hD hS ls (lv_sub hl [0, 1, 2] rfl)
  exact loop4 ((mY s - 0) + 1) 0 (Nat.lt_succ_self _) (by omega) _ _ hP hD hS ls (lv_sub hl [0, 1, 2] rfl)
