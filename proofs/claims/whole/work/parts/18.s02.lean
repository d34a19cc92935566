set_option maxHeartbeats 4000000 in
set_option maxRecDepth 100000 in
theorem c_X8_lays (l : Launch) (D : va_G) (Y : Nat → ClassId) (x n0 : Nat) (f : Nat → Int32) (fa : Nat) (y n1 : Nat) (g : Nat → Int32) (ta : Nat) (h0 : n0 < 10000) (h1 : n1 < 10000) (hf0 : fa + 1497 ≤ n0) (ht0 : ta + 1497 ≤ n1) : kM l yX8_lays wX8_lays rX8_lays D Y ([(x, .inl (Y 0, n0, .inl f))] ++ [(y, .inl (Y 0, n1, .inl g))]) [.ref x, .int (nI fa), .ref y, .int (nI ta)] kX0 (kQv D (fun (_ : Unit) => True) (fun _ => [(x, .inl (Y 0, n0, .inl f)), (y, .inl (Y 0, n1, .inl (kcy f g fa ta 1497)))])) := by
  refine kentry (cc := cX8_lays) (maxL := 5) (ret := none) (by decide +kernel) rfl (Nat.le_of_ble_eq_true rfl) ?_
  intro p e s0 m args below meth c A Q ls hQ hx hb hr hlocks hml hown hin hta hA hX0 hK hNs hP hD hS hl
  have hown : s0.vm.findClass RX8 = some m.cls := hown
  have hl : lv_has ls 5 [(0, .ref x), (1, .int (nI fa)), (2, .ref y), (3, .int (nI ta))] := hl
  refine lv_iconst (v := 0) hx hb dX8_lays_0 (by decide) ?_
  refine lv_istore (lv' := [(4, .int 0), (0, .ref x), (1, .int (nI fa)), (2, .ref y), (3, .int (nI ta))]) hx hb dX8_lays_1 hl (by decide) rfl (fun ls hl => ?_)
  have loop3 : ∀ (n : Nat) (k : Nat) (N : kS), 1497 - k < n → kcy f g fa ta k = N → k ≤ 1497 → ∀ (H : Heap) (locs : List Loc), va_P D vwCl ([(x, .inl (Y 0, n0, .inl f))] ++ [(y, .inl (Y 0, n1, .inl N))]) H → va_D A ([(x, .inl (Y 0, n0, .inl f))] ++ [(y, .inl (Y 0, n1, .inl N))]) → va_S A s0.heap H locs → ∀ (ls : Array Slot), lv_has ls 5 [(4, .int (nI k)), (0, .ref x), (1, .int (nI fa)), (2, .ref y), (3, .int (nI ta))] → W p l e rX8_lays s0 m args below meth c H locs 0 0 Q (F0 m 3 ls []) := by
    intro n
    induction n with
    | zero => intro k N hmu; exact absurd hmu (Nat.not_lt_zero _)
    | succ n ih =>
      intro k N hmu hN hk H locs hP hD hS ls hl
      refine lv_iload hx hb dX8_lays_3 (lv_at hl 0 rfl) ?_
      refine lv_sipush (v := 1497) hx hb dX8_lays_5 (by decide) ?_
      refine lv_icmp_ge (tgt := 29) hx hb dX8_lays_8 (by decide) (fun c1 => ?_) (fun c1 => ?_)
      · have c1n : 1497 ≤ k := (nI_leI (a := 1497) (b := k) (by omega) (by omega)).mp c1
        have hk2 : k = 1497 := by omega
        subst hk2
        subst hN
        exact kvret (()) hQ hx hb hr hlocks hP hS dX8_lays_29 trivial
      · have c1n : ¬ 1497 ≤ k := fun h => c1 ((nI_leI (a := 1497) (b := k) (by omega) (by omega)).mpr h)
        refine lv_aload_n hx hb dX8_lays_11 rfl (lv_at hl 3 rfl) ?_
        refine lv_iload_n hx hb dX8_lays_12 rfl (lv_at hl 4 rfl) ?_
        refine lv_iload hx hb dX8_lays_13 (lv_at hl 0 rfl) ?_
        refine lv_iadd hx hb dX8_lays_15 ?_
        refine kTop (nI_add ta k) ?_
        refine lv_aload_n hx hb dX8_lays_16 rfl (lv_at hl 1 rfl) ?_
        refine lv_iload_n hx hb dX8_lays_17 rfl (lv_at hl 2 rfl) ?_
        refine lv_iload hx hb dX8_lays_18 (lv_at hl 0 rfl) ?_
        refine lv_iadd hx hb dX8_lays_20 ?_
        refine kTop (nI_add fa k) ?_
        refine kiald (f := f) hx hb hK hP 0 rfl (fa + k) rfl (by omega) (by omega) dX8_lays_21 ?_
        refine kiast (f := N) hx hb hK hP hD hS 1 rfl (ta + k) rfl (by omega) (by omega) dX8_lays_22 ([(x, .inl (Y 0, n0, .inl f))] ++ [(y, .inl (Y 0, n1, .inl (upd N (ta + k) (f (fa + k)))))]) rfl (fun H locs hP hD hS => ?_)
        refine lv_iinc (v := nI (k + 1)) (lv' := [(4, .int (nI (k + 1))), (0, .ref x), (1, .int (nI fa)), (2, .ref y), (3, .int (nI ta))]) hx hb dX8_lays_23 hl (k := 0) rfl (nI_add k 1) (by decide) rfl (fun ls hl => ?_)
        refine lv_goto (tgt := 3) hx hb dX8_lays_26 (by decide) ?_
        exact ih (k + 1) (upd N (ta + k) (f (fa + k))) (by omega) (by rw [← hN]; exact (kcy_1 f g fa ta k).symm) (by omega) _ _ hP hD hS ls (lv_sub hl [0, 1, 2, 3, 4] rfl)
  exact loop3 ((1497 - 0) + 1) 0 g (Nat.lt_succ_self _) (kcy_0 f g fa ta) (by omega) _ _ hP hD hS ls (lv_sub hl [0, 1, 2, 3, 4] rfl)
