set_option maxHeartbeats 4000000 in
set_option maxRecDepth 100000 in
theorem c_X7_sumOf (l : Launch) (D : va_G) (Y : Nat → ClassId) (x n0 : Nat) (f : Nat → Int32) (hn : n0 < 2 ^ 31) : kM l yX7_sumOf wX7_sumOf rX7_sumOf D Y ([(x, .inl (Y 0, n0, .inl f))]) [.ref x] kX0 (kQi D (fun r (_ : Unit) => r = sTo f n0) (fun _ => [(x, .inl (Y 0, n0, .inl f))])) := by
  refine kentry (cc := cX7_sumOf) (maxL := 6) (ret := (some .int)) (by decide +kernel) rfl (Nat.le_of_ble_eq_true rfl) ?_
  intro p e s m args below meth c A Q ls hQ hx hb hr hlocks hml hown hin hta hA hX hK hNs hP hD hS hl
  have hown : s.vm.findClass RX7 = some m.cls := hown
  have hl : lv_has ls 6 [(0, .ref x)] := hl
  refine lv_iconst (v := 0) hx hb dX7_sumOf_0 (by decide) ?_
  refine lv_istore_n (lv' := [(1, .int 0), (0, .ref x)]) hx hb dX7_sumOf_1 rfl hl (by decide) rfl (fun ls hl => ?_)
  refine lv_aload_n hx hb dX7_sumOf_2 rfl (lv_at hl 1 rfl) ?_
  refine lv_astore_n (lv' := [(2, .ref x), (1, .int 0), (0, .ref x)]) hx hb dX7_sumOf_3 rfl hl (by decide) rfl (fun ls hl => ?_)
  refine lv_aload_n hx hb dX7_sumOf_4 rfl (lv_at hl 0 rfl) ?_
  refine kalen (n := n0) hx hb hK hP 0 rfl dX7_sumOf_5 ?_
  refine lv_istore_n (lv' := [(3, .int (nI n0)), (2, .ref x), (1, .int 0), (0, .ref x)]) hx hb dX7_sumOf_6 rfl hl (by decide) rfl (fun ls hl => ?_)
  refine lv_iconst (v := 0) hx hb dX7_sumOf_7 (by decide) ?_
  refine lv_istore (lv' := [(4, .int 0), (3, .int (nI n0)), (2, .ref x), (1, .int 0), (0, .ref x)]) hx hb dX7_sumOf_8 hl (by decide) rfl (fun ls hl => ?_)
  have loop10 : ∀ (n : Nat) (k : Nat), n0 - k < n → k ≤ n0 → ∀ (H : Heap) (locs : List Loc), va_P D vwCl ([(x, .inl (Y 0, n0, .inl f))]) H → va_D A ([(x, .inl (Y 0, n0, .inl f))]) → va_S A s.heap H locs → ∀ (ls : Array Slot), lv_has ls 6 [(4, .int (nI k)), (3, .int (nI n0)), (2, .ref x), (1, .int (sTo f k)), (0, .ref x)] → W p l e rX7_sumOf s m args below meth c H locs 0 0 Q (F0 m 10 ls []) := by
    intro n
    induction n with
    | zero => intro k hmu; exact absurd hmu (Nat.not_lt_zero _)
    | succ n ih =>
      intro k hmu hk H locs hP hD hS ls hl
      refine lv_iload hx hb dX7_sumOf_10 (lv_at hl 0 rfl) ?_
      refine lv_iload_n hx hb dX7_sumOf_12 rfl (lv_at hl 1 rfl) ?_
      refine lv_icmp_ge (tgt := 33) hx hb dX7_sumOf_13 (by decide) (fun c1 => ?_) (fun c1 => ?_)
      · have c1n : n0 ≤ k := (nI_leI (a := n0) (b := k) (by omega) (by omega)).mp c1
        refine lv_iload_n hx hb dX7_sumOf_33 rfl (lv_at hl 3 rfl) ?_
        exact kiret (()) hQ hx hb hr hlocks hP hS dX7_sumOf_34 (by have hk2 : k = n0 := (by omega); rw [hk2])
      · have c1n : ¬ n0 ≤ k := fun h => c1 ((nI_leI (a := n0) (b := k) (by omega) (by omega)).mpr h)
        refine lv_aload_n hx hb dX7_sumOf_16 rfl (lv_at hl 2 rfl) ?_
        refine lv_iload hx hb dX7_sumOf_17 (lv_at hl 0 rfl) ?_
        refine kiald (f := f) hx hb hK hP 0 rfl k rfl (by omega) (by omega) dX7_sumOf_19 ?_
        refine lv_istore (lv' := [(5, .int (f k)), (4, .int (nI k)), (3, .int (nI n0)), (2, .ref x), (1, .int (sTo f k)), (0, .ref x)]) hx hb dX7_sumOf_20 hl (by decide) rfl (fun ls hl => ?_)
        refine lv_iload_n hx hb dX7_sumOf_22 rfl (lv_at hl 4 rfl) ?_
        refine lv_iload hx hb dX7_sumOf_23 (lv_at hl 0 rfl) ?_
        refine lv_iadd hx hb dX7_sumOf_25 ?_
        refine lv_istore_n (lv' := [(1, .int ((sTo f k) + (f k))), (5, .int (f k)), (4, .int (nI k)), (3, .int (nI n0)), (2, .ref x), (0, .ref x)]) hx hb dX7_sumOf_26 rfl hl (by decide) rfl (fun ls hl => ?_)
        refine lv_iinc (v := nI (k + 1)) (lv' := [(4, .int (nI (k + 1))), (1, .int ((sTo f k) + (f k))), (5, .int (f k)), (3, .int (nI n0)), (2, .ref x), (0, .ref x)]) hx hb dX7_sumOf_27 hl (k := 2) rfl (nI_add k 1) (by decide) rfl (fun ls hl => ?_)
        refine lv_goto (tgt := 10) hx hb dX7_sumOf_30 (by decide) ?_
        exact ih (k + 1) (by omega) (by omega) _ _ hP hD hS ls (lv_sub hl [0, 3, 4, 1, 5] rfl)
  exact loop10 ((n0 - 0) + 1) 0 (Nat.lt_succ_self _) (by omega) _ _ hP hD hS ls (lv_sub hl [0, 1, 2, 3, 4] rfl)
