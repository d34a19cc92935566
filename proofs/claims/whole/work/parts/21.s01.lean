set_option maxHeartbeats 4000000 in
set_option maxRecDepth 100000 in
theorem c_X8_comes (l : Launch) (D : va_G) (Y : Nat → ClassId) (b : Nat → Nat) (R : kN) (s : kS) (g t p0 b0 : Int32) (hZ : mX s) (hlt : mF s < 30) : kM l yX8_comes wX8_comes rX8_comes D Y (wR Y b (sR R 0 (s))) [.ref (b 0), .int g, .int t, .int p0, .int b0] kX0 (kQi D (fun r u => r = nI (mF s) ∧ u = mComes s g t p0 b0) (fun u => wR Y b (sR R 0 u))) := by
  refine kentry (cc := cX8_comes) (maxL := 7) (ret := (some .int)) (by decide +kernel) rfl (Nat.le_of_ble_eq_true rfl) ?_
  intro p e s0 m args below meth c A Q ls hQ hx hb hr hlocks hml hown hin hta hA hX0 hK hNs hP hD hS hl
  have hown : s0.vm.findClass RX8 = some m.cls := hown
  have hl : lv_has ls 7 [(0, .ref (b 0)), (1, .int g), (2, .int t), (3, .int p0), (4, .int b0)] := hl
  refine lv_bipush (v := 56) hx hb dX8_comes_0 (by decide) ?_
  refine lv_bipush (v := 8) hx hb dX8_comes_2 (by decide) ?_
  refine lv_aload_n hx hb dX8_comes_4 rfl (lv_at hl 0 rfl) ?_
  refine gfX8_7 (v := .ref (b 1)) hx hb hta hown hK hP 0 rfl rfl dX8_comes_5 ?_
  refine lv_iconst (v := 1) hx hb dX8_comes_8 (by decide) ?_
  refine kiald (f := s) hx hb hK hP 1 rfl 1 rfl (by omega) (by omega) dX8_comes_9 ?_
  refine kTop hZ.f ?_
  refine lv_imul hx hb dX8_comes_10 ?_
  refine kTop (pk_mul 8 (mF s)) ?_
  refine lv_iadd hx hb dX8_comes_11 ?_
  refine kTop (nI_add 56 (8 * mF s)) ?_
  refine lv_istore (lv' := [(5, .int (nI (56 + 8 * mF s))), (0, .ref (b 0)), (1, .int g), (2, .int t), (3, .int p0), (4, .int b0)]) hx hb dX8_comes_12 hl (by decide) rfl (fun ls hl => ?_)
  refine lv_iconst (v := 0) hx hb dX8_comes_14 (by decide) ?_
  refine lv_istore (lv' := [(6, .int 0), (5, .int (nI (56 + 8 * mF s))), (0, .ref (b 0)), (1, .int g), (2, .int t), (3, .int p0), (4, .int b0)]) hx hb dX8_comes_15 hl (by decide) rfl (fun ls hl => ?_)
  have loop17 : ∀ (n : Nat) (k : Nat) (N : kS), 8 - k < n → mZero s (56 + 8 * mF s) k = N → k ≤ 8 → ∀ (H : Heap) (locs : List Loc), va_P D vwCl (wR Y b (sR R 0 (N))) H → va_D A (wR Y b (sR R 0 (N))) → va_S A s0.heap H locs → ∀ (ls : Array Slot), lv_has ls 7 [(6, .int (nI k)), (5, .int (nI (56 + 8 * mF s))), (0, .ref (b 0)), (1, .int g), (2, .int t), (3, .int p0), (4, .int b0)] → W p l e rX8_comes s0 m args below meth c H locs 0 0 Q (F0 m 17 ls []) := by
    intro n
    induction n with
    | zero => intro k N hmu; exact absurd hmu (Nat.not_lt_zero _)
    | succ n ih =>
      intro k N hmu hN hk0 H locs hP hD hS ls hl
      refine lv_iload hx hb dX8_comes_17 (lv_at hl 0 rfl) ?_
      refine lv_bipush (v := 8) hx hb dX8_comes_19 (by decide) ?_
      refine lv_icmp_ge (tgt := 41) hx hb dX8_comes_21 (by decide) (fun c1 => ?_) (fun c1 => ?_)
      · have c1n : 8 ≤ k := (nI_leI (a := 8) (b := k) (by omega) (by omega)).mp c1
        have hk8 : k = 8 := by omega
        subst hk8
        subst hN
        refine lv_aload_n hx hb dX8_comes_41 rfl (lv_at hl 2 rfl) ?_
        refine gfX8_7 (v := .ref (b 1)) hx hb hta hown hK hP 0 rfl rfl dX8_comes_42 ?_
        refine lv_iload hx hb dX8_comes_45 (lv_at hl 1 rfl) ?_
        refine lv_iconst (v := 0) hx hb dX8_comes_47 (by decide) ?_
        refine lv_iadd hx hb dX8_comes_48 ?_
        refine kTop (nI_add (56 + 8 * mF s) 0) ?_
        refine lv_iload_n hx hb dX8_comes_49 rfl (lv_at hl 3 rfl) ?_
        refine kiast (f := mZero s (56 + 8 * mF s) 8) hx hb hK hP hD hS 1 rfl (56 + 8 * mF s + 0) rfl (by omega) (by omega) dX8_comes_50 (wR Y b (sR R 0 (upd (mZero s (56 + 8 * mF s) 8) (56 + 8 * mF s + 0) g))) rfl (fun H locs hP hD hS => ?_)
        refine lv_aload_n hx hb dX8_comes_51 rfl (lv_at hl 2 rfl) ?_
        refine gfX8_7 (v := .ref (b 1)) hx hb hta hown hK hP 0 rfl rfl dX8_comes_52 ?_
        refine lv_iload hx hb dX8_comes_55 (lv_at hl 1 rfl) ?_
        refine lv_iconst (v := 1) hx hb dX8_comes_57 (by decide) ?_
        refine lv_iadd hx hb dX8_comes_58 ?_
        refine kTop (nI_add (56 + 8 * mF s) 1) ?_
        refine lv_iload_n hx hb dX8_comes_59 rfl (lv_at hl 4 rfl) ?_
        refine kiast (f := upd (mZero s (56 + 8 * mF s) 8) (56 + 8 * mF s + 0) g) hx hb hK hP hD hS 1 rfl (56 + 8 * mF s + 1) rfl (by omega) (by omega) dX8_comes_60 (wR Y b (sR R 0 (upd (upd (mZero s (56 + 8 * mF s) 8) (56 + 8 * mF s + 0) g) (56 + 8 * mF s + 1) t))) rfl (fun H locs hP hD hS => ?_)
        refine lv_aload_n hx hb dX8_comes_61 rfl (lv_at hl 2 rfl) ?_
        refine gfX8_7 (v := .ref (b 1)) hx hb hta hown hK hP 0 rfl rfl dX8_comes_62 ?_
        refine lv_iload hx hb dX8_comes_65 (lv_at hl 1 rfl) ?_
        refine lv_iconst (v := 2) hx hb dX8_comes_67 (by decide) ?_
        refine lv_iadd hx hb dX8_comes_68 ?_
        refine kTop (nI_add (56 + 8 * mF s) 2) ?_
        refine lv_iload_n hx hb dX8_comes_69 rfl (lv_at hl 5 rfl) ?_
        refine kiast (f := upd (upd (mZero s (56 + 8 * mF s) 8) (56 + 8 * mF s + 0) g) (56 + 8 * mF s + 1) t) hx hb hK hP hD hS 1 rfl (56 + 8 * mF s + 2) rfl (by omega) (by omega) dX8_comes_70 (wR Y b (sR R 0 (upd (upd (upd (mZero s (56 + 8 * mF s) 8) (56 + 8 * mF s + 0) g) (56 + 8 * mF s + 1) t) (56 + 8 * mF s + 2) p0))) rfl (fun H locs hP hD hS => ?_)
        refine lv_aload_n hx hb dX8_comes_71 rfl (lv_at hl 2 rfl) ?_
        refine gfX8_7 (v := .ref (b 1)) hx hb hta hown hK hP 0 rfl rfl dX8_comes_72 ?_
        refine lv_iload hx hb dX8_comes_75 (lv_at hl 1 rfl) ?_
        refine lv_iconst (v := 3) hx hb dX8_comes_77 (by decide) ?_
        refine lv_iadd hx hb dX8_comes_78 ?_
        refine kTop (nI_add (56 + 8 * mF s) 3) ?_
        refine lv_iload hx hb dX8_comes_79 (lv_at hl 6 rfl) ?_
        refine kiast (f := upd (upd (upd (mZero s (56 + 8 * mF s) 8) (56 + 8 * mF s + 0) g) (56 + 8 * mF s + 1) t) (56 + 8 * mF s + 2) p0) hx hb hK hP hD hS 1 rfl (56 + 8 * mF s + 3) rfl (by omega) (by omega) dX8_comes_81 (wR Y b (sR R 0 (upd (upd (upd (upd (mZero s (56 + 8 * mF s) 8) (56 + 8 * mF s + 0) g) (56 + 8 * mF s + 1) t) (56 + 8 * mF s + 2) p0) (56 + 8 * mF s + 3) b0))) rfl (fun H locs hP hD hS => ?_)
        refine lv_aload_n hx hb dX8_comes_82 rfl (lv_at hl 2 rfl) ?_
        refine gfX8_7 (v := .ref (b 1)) hx hb hta hown hK hP 0 rfl rfl dX8_comes_83 ?_
        refine lv_iload hx hb dX8_comes_86 (lv_at hl 1 rfl) ?_
        refine lv_iconst (v := 4) hx hb dX8_comes_88 (by decide) ?_
        refine lv_iadd hx hb dX8_comes_89 ?_
        refine kTop (nI_add (56 + 8 * mF s) 4) ?_
        refine lv_iload_n hx hb dX8_comes_90 rfl (lv_at hl 4 rfl) ?_
        refine kiast (f := upd (upd (upd (upd (mZero s (56 + 8 * mF s) 8) (56 + 8 * mF s + 0) g) (56 + 8 * mF s + 1) t) (56 + 8 * mF s + 2) p0) (56 + 8 * mF s + 3) b0) hx hb hK hP hD hS 1 rfl (56 + 8 * mF s + 4) rfl (by omega) (by omega) dX8_comes_91 (wR Y b (sR R 0 (upd (upd (upd (upd (upd (mZero s (56 + 8 * mF s) 8) (56 + 8 * mF s + 0) g) (56 + 8 * mF s + 1) t) (56 + 8 * mF s + 2) p0) (56 + 8 * mF s + 3) b0) (56 + 8 * mF s + 4) t))) rfl (fun H locs hP hD hS => ?_)
        have hP : va_P D vwCl (wR Y b (sR R 0 (mComesRow s g t p0 b0))) H := hP
        have hD : va_D A (wR Y b (sR R 0 (mComesRow s g t p0 b0))) := hD
        have hN1 : mComesRow s g t p0 b0 1 = nI (mF s) := by unfold mComesRow; rw [upd_o (by omega), upd_o (by omega), upd_o (by omega), upd_o (by omega), upd_o (by omega), mZero_at, if_neg (by omega)]; exact hZ.f
        refine lv_aload_n hx hb dX8_comes_92 rfl (lv_at hl 2 rfl) ?_
        refine gfX8_7 (v := .ref (b 1)) hx hb hta hown hK hP 0 rfl rfl dX8_comes_93 ?_
        refine lv_iconst (v := 1) hx hb dX8_comes_96 (by decide) ?_
        refine lv_dup2_11 hx hb dX8_comes_97 rfl rfl ?_
        refine kiald (f := mComesRow s g t p0 b0) hx hb hK hP 1 rfl 1 rfl (by omega) (by omega) dX8_comes_98 ?_
        refine kTop hN1 ?_
        refine lv_iconst (v := 1) hx hb dX8_comes_99 (by decide) ?_
        refine lv_iadd hx hb dX8_comes_100 ?_
        refine kTop (nI_add (mF s) 1) ?_
        refine kiast (f := mComesRow s g t p0 b0) hx hb hK hP hD hS 1 rfl 1 rfl (by omega) (by omega) dX8_comes_101 (wR Y b (sR R 0 (upd (mComesRow s g t p0 b0) 1 (nI (mF s + 1))))) rfl (fun H locs hP hD hS => ?_)
        have hN2 : (upd (mComesRow s g t p0 b0) 1 (nI (mF s + 1))) 1 = nI (mF s + 1) := upd_s
        refine lv_aload_n hx hb dX8_comes_102 rfl (lv_at hl 2 rfl) ?_
        refine gfX8_7 (v := .ref (b 1)) hx hb hta hown hK hP 0 rfl rfl dX8_comes_103 ?_
        refine lv_iconst (v := 1) hx hb dX8_comes_106 (by decide) ?_
        refine kiald (f := upd (mComesRow s g t p0 b0) 1 (nI (mF s + 1))) hx hb hK hP 1 rfl 1 rfl (by omega) (by omega) dX8_comes_107 ?_
        refine kTop hN2 ?_
        refine lv_iconst (v := 1) hx hb dX8_comes_108 (by decide) ?_
        refine lv_isub hx hb dX8_comes_109 ?_
        refine kTop (y := nI (mF s)) (nI_pred (mF s)) ?_
        exact kiret (upd (mComesRow s g t p0 b0) 1 (nI (mF s + 1))) hQ hx hb hr hlocks hP hS dX8_comes_110 (⟨rfl, rfl⟩)
      · have c1n : ¬ 8 ≤ k := fun h => c1 ((nI_leI (a := 8) (b := k) (by omega) (by omega)).mpr h)
        refine lv_aload_n hx hb dX8_comes_24 rfl (lv_at hl 2 rfl) ?_
        refine gfX8_7 (v := .ref (b 1)) hx hb hta hown hK hP 0 rfl rfl dX8_comes_25 ?_
        refine lv_iload hx hb dX8_comes_28 (lv_at hl 1 rfl) ?_
        refine lv_iload hx hb dX8_comes_30 (lv_at hl 0 rfl) ?_
        refine lv_iadd hx hb dX8_comes_32 ?_
        refine kTop (nI_add (56 + 8 * mF s) k) ?_
        refine lv_iconst (v := 0) hx hb dX8_comes_33 (by decide) ?_
        refine kiast (f := N) hx hb hK hP hD hS 1 rfl (56 + 8 * mF s + k) rfl (by omega) (by omega) dX8_comes_34 (wR Y b (sR R 0 (upd (N) (56 + 8 * mF s + k) 0))) rfl (fun H locs hP hD hS => ?_)
        refine lv_iinc (v := nI (k + 1)) (lv' := [(6, .int (nI (k + 1))), (5, .int (nI (56 + 8 * mF s))), (0, .ref (b 0)), (1, .int g), (2, .int t), (3, .int p0), (4, .int b0)]) hx hb dX8_comes_35 hl (k := 0) rfl (nI_add k 1) (by decide) rfl (fun ls hl => ?_)
        refine lv_goto (tgt := 17) hx hb dX8_comes_38 (by decide) ?_
        exact ih (k + 1) (upd (N) (56 + 8 * mF s + k) 0) (by omega) (by rw [← hN]; rfl) (by omega) _ _ hP hD hS ls (lv_sub hl [0, 1, 2, 3, 4, 5, 6] rfl)
  exact loop17 ((8 - 0) + 1) 0 s (Nat.lt_succ_self _) rfl (by omega) _ _ hP hD hS ls (lv_sub hl [0, 1, 2, 3, 4, 5, 6] rfl)
