set_option maxHeartbeats 4000000 in
set_option maxRecDepth 100000 in
theorem c_X8_mills (l : Launch) (D : va_G) (Y : Nat → ClassId) (x : Nat) (s : kS) (hX : mX s) : kM l yX8_mills wX8_mills rX8_mills D Y ([(x, .inl (Y 0, 1497, .inl s))]) [.ref x] kX0 (kQv D (fun u => u = mMills s) (fun u => [(x, .inl (Y 0, 1497, .inl (u)))])) := by
  refine kentry (cc := cX8_mills) (maxL := 4) (ret := none) (by decide +kernel) rfl (Nat.le_of_ble_eq_true rfl) ?_
  intro p e s0 m args below meth c A Q ls hQ hx hb hr hlocks hml hown hin hta hA hX0 hK hNs hP hD hS hl
  have hown : s0.vm.findClass RX8 = some m.cls := hown
  have hl : lv_has ls 4 [(0, .ref x)] := hl
  have h400 := hX.y400
  refine lv_aload_n hx hb dX8_mills_0 rfl (lv_at hl 0 rfl) ?_
  refine lv_iconst (v := 5) hx hb dX8_mills_1 (by decide) ?_
  refine kiald (f := s) hx hb hK hP 0 rfl 5 rfl (by omega) (by omega) dX8_mills_2 ?_
  refine lv_istore_n (lv' := [(1, .int (s 5)), (0, .ref x)]) hx hb dX8_mills_3 rfl hl (by decide) rfl (fun ls hl => ?_)
  refine lv_iconst (v := 0) hx hb dX8_mills_4 (by decide) ?_
  refine lv_istore_n (lv' := [(2, .int 0), (1, .int (s 5)), (0, .ref x)]) hx hb dX8_mills_5 rfl hl (by decide) rfl (fun ls hl => ?_)
  have loop6 : ∀ (n : Nat) (i : Nat) (N : kS) (left : Int32) (k : Nat), mY s - k + (if 0 < left then 1 else 0) < n → mMillTo s i = (N, left, k) → mMi s i (N, left, k) → ∀ (H : Heap) (locs : List Loc), va_P D vwCl ([(x, .inl (Y 0, 1497, .inl N))]) H → va_D A ([(x, .inl (Y 0, 1497, .inl N))]) → va_S A s0.heap H locs → ∀ (ls : Array Slot), lv_has ls 4 [(2, .int (nI k)), (1, .int left), (0, .ref x)] → W p l e rX8_mills s0 m args below meth c H locs 0 0 Q (F0 m 6 ls []) := by
    intro n
    induction n with
    | zero => intro i N left k hmu; exact absurd hmu (Nat.not_lt_zero _)
    | succ n ih =>
      intro i N left k hmu hx0 hmi H locs hP hD hS ls hl
      obtain ⟨hXN, eF, eY, hk, hi1, hi2, -⟩ := id hmi
      dsimp only at hXN eF eY hk hi1 hi2
      have e296 : N 296 = nI (mY N) := hXN.y
      have h30N := hXN.f30
      have hpos : (if 0 < left then 1 else 0) ≤ 1 := by split <;> omega
      refine lv_iload_n hx hb dX8_mills_6 rfl (lv_at hl 1 rfl) ?_
      refine lv_if_le (tgt := 93) hx hb dX8_mills_7 (by decide) (fun c1 => ?_) (fun c1 => ?_)
      · have hend : left ≤ 0 ∨ mY N ≤ k := Or.inl c1
        have hfin : mMillTo s (mY s + 1) = (N, left, k) := by { have e2 := mMillTo_stop (s := s) (i := i) (by rw [hx0]; exact hend) (mY s + 1 - i); rw [show i + (mY s + 1 - i) = mY s + 1 by omega] at e2; exact e2.trans hx0 }
        refine lv_aload_n hx hb dX8_mills_93 rfl (lv_at hl 2 rfl) ?_
        refine lv_sipush (v := 296) hx hb dX8_mills_94 (by decide) ?_
        refine lv_dup2_11 hx hb dX8_mills_97 rfl rfl ?_
        refine kiald (f := N) hx hb hK hP 0 rfl 296 rfl (by omega) (by omega) dX8_mills_98 ?_
        refine kTop e296 ?_
        refine lv_iload_n hx hb dX8_mills_99 rfl (lv_at hl 0 rfl) ?_
        refine lv_isub hx hb dX8_mills_100 ?_
        refine kTop (pk_sub (a := mY N) (b := k) (by omega)) ?_
        refine kiast (f := N) hx hb hK hP hD hS 0 rfl 296 rfl (by omega) (by omega) dX8_mills_101 ([(x, .inl (Y 0, 1497, .inl (upd N 296 (nI ((mY N) - k)))))]) rfl (fun H locs hP hD hS => ?_)
        refine lv_iconst (v := 0) hx hb dX8_mills_102 (by decide) ?_
        refine lv_istore_n (lv' := [(3, .int 0), (2, .int (nI k)), (1, .int left), (0, .ref x)]) hx hb dX8_mills_103 rfl hl (by decide) rfl (fun ls hl => ?_)
        have loop104 : ∀ (n : Nat) (q : Nat) (u : kS), 3 * (mY N - k) - q < n → mShift (upd N 296 (nI (mY N - k))) k q = u → q ≤ 3 * (mY N - k) → ∀ (H : Heap) (locs : List Loc), va_P D vwCl ([(x, .inl (Y 0, 1497, .inl u))]) H → va_D A ([(x, .inl (Y 0, 1497, .inl u))]) → va_S A s0.heap H locs → ∀ (ls : Array Slot), lv_has ls 4 [(3, .int (nI q)), (0, .ref x), (2, .int (nI k))] → W p l e rX8_mills s0 m args below meth c H locs 0 0 Q (F0 m 104 ls []) := by
          intro n
          induction n with
          | zero => intro q u hmu; exact absurd hmu (Nat.not_lt_zero _)
          | succ n ih =>
            intro q u hmu hu hq H locs hP hD hS ls hl
            have hu6 : u 296 = nI (mY N - k) := by rw [← hu, mShift_at, if_neg (by omega), upd_s]
            refine lv_iload_n hx hb dX8_mills_104 rfl (lv_at hl 0 rfl) ?_
            refine lv_iconst (v := 3) hx hb dX8_mills_105 (by decide) ?_
            refine lv_aload_n hx hb dX8_mills_106 rfl (lv_at hl 1 rfl) ?_
            refine lv_sipush (v := 296) hx hb dX8_mills_107 (by decide) ?_
            refine kiald (f := u) hx hb hK hP 0 rfl 296 rfl (by omega) (by omega) dX8_mills_110 ?_
            refine kTop hu6 ?_
            refine lv_imul hx hb dX8_mills_111 ?_
            refine kTop (pk_mul 3 (mY N - k)) ?_
            refine lv_icmp_ge (tgt := 139) hx hb dX8_mills_112 (by decide) (fun c2 => ?_) (fun c2 => ?_)
            · have c2n : (3 * (mY N - k)) ≤ q := (nI_leI (a := 3 * (mY N - k)) (b := q) (by omega) (by omega)).mp c2
              exact kvret (u) hQ hx hb hr hlocks hP hS dX8_mills_139 (by have hq2 : q = 3 * (mY N - k) := (by omega); subst hq2; unfold mMills; rw [hfin]; exact hu.symm)
            · have c2n : ¬ (3 * (mY N - k)) ≤ q := fun h => c2 ((nI_leI (a := 3 * (mY N - k)) (b := q) (by omega) (by omega)).mpr h)
              refine lv_aload_n hx hb dX8_mills_115 rfl (lv_at hl 1 rfl) ?_
              refine lv_sipush (v := 297) hx hb dX8_mills_116 (by decide) ?_
              refine lv_iload_n hx hb dX8_mills_119 rfl (lv_at hl 0 rfl) ?_
              refine lv_iadd hx hb dX8_mills_120 ?_
              refine kTop (nI_add 297 q) ?_
              refine lv_aload_n hx hb dX8_mills_121 rfl (lv_at hl 1 rfl) ?_
              refine lv_sipush (v := 297) hx hb dX8_mills_122 (by decide) ?_
              refine lv_iload_n hx hb dX8_mills_125 rfl (lv_at hl 0 rfl) ?_
              refine lv_iadd hx hb dX8_mills_126 ?_
              refine kTop (nI_add 297 q) ?_
              refine lv_iconst (v := 3) hx hb dX8_mills_127 (by decide) ?_
              refine lv_iload_n hx hb dX8_mills_128 rfl (lv_at hl 2 rfl) ?_
              refine lv_imul hx hb dX8_mills_129 ?_
              refine kTop (pk_mul 3 k) ?_
              refine lv_iadd hx hb dX8_mills_130 ?_
              refine kTop (nI_add (297 + q) (3 * k)) ?_
              refine kiald (f := u) hx hb hK hP 0 rfl (297 + q + 3 * k) rfl (by omega) (by omega) dX8_mills_131 ?_
              refine kiast (f := u) hx hb hK hP hD hS 0 rfl (297 + q) rfl (by omega) (by omega) dX8_mills_132 ([(x, .inl (Y 0, 1497, .inl (upd u (297 + q) (u (297 + q + 3 * k)))))]) rfl (fun H locs hP hD hS => ?_)
              refine lv_iinc (v := nI (q + 1)) (lv' := [(3, .int (nI (q + 1))), (0, .ref x), (2, .int (nI k))]) hx hb dX8_mills_133 hl (k := 0) rfl (nI_add q 1) (by decide) rfl (fun ls hl => ?_)
              refine lv_goto (tgt := 104) hx hb dX8_mills_136 (by decide) ?_
              exact ih (q + 1) (upd u (297 + q) (u (297 + q + 3 * k))) (by omega) (by rw [← hu]; rfl) (by omega) _ _ hP hD hS ls (lv_sub hl [0, 1, 2] rfl)
        exact loop104 ((3 * (mY N - k) - 0) + 1) 0 (upd N 296 (nI ((mY N) - k))) (Nat.lt_succ_self _) rfl (by omega) _ _ hP hD hS ls (lv_sub hl [0, 3, 1] rfl)
      · refine lv_iload_n hx hb dX8_mills_10 rfl (lv_at hl 0 rfl) ?_
        refine lv_aload_n hx hb dX8_mills_11 rfl (lv_at hl 2 rfl) ?_
        refine lv_sipush (v := 296) hx hb dX8_mills_12 (by decide) ?_
        refine kiald (f := N) hx hb hK hP 0 rfl 296 rfl (by omega) (by omega) dX8_mills_15 ?_
        refine kTop e296 ?_
        refine lv_icmp_ge (tgt := 93) hx hb dX8_mills_16 (by decide) (fun c3 => ?_) (fun c3 => ?_)
        · have c3n : (mY N) ≤ k := (nI_leI (a := mY N) (b := k) (by omega) (by omega)).mp c3
          have hend : left ≤ 0 ∨ mY N ≤ k := Or.inr (by omega)
          have hfin : mMillTo s (mY s + 1) = (N, left, k) := by { have e2 := mMillTo_stop (s := s) (i := i) (by rw [hx0]; exact hend) (mY s + 1 - i); rw [show i + (mY s + 1 - i) = mY s + 1 by omega] at e2; exact e2.trans hx0 }
          refine lv_aload_n hx hb dX8_mills_93 rfl (lv_at hl 2 rfl) ?_
          refine lv_sipush (v := 296) hx hb dX8_mills_94 (by decide) ?_
          refine lv_dup2_11 hx hb dX8_mills_97 rfl rfl ?_
          refine kiald (f := N) hx hb hK hP 0 rfl 296 rfl (by omega) (by omega) dX8_mills_98 ?_
          refine kTop e296 ?_
          refine lv_iload_n hx hb dX8_mills_99 rfl (lv_at hl 0 rfl) ?_
          refine lv_isub hx hb dX8_mills_100 ?_
          refine kTop (pk_sub (a := mY N) (b := k) (by omega)) ?_
          refine kiast (f := N) hx hb hK hP hD hS 0 rfl 296 rfl (by omega) (by omega) dX8_mills_101 ([(x, .inl (Y 0, 1497, .inl (upd N 296 (nI ((mY N) - k)))))]) rfl (fun H locs hP hD hS => ?_)
          refine lv_iconst (v := 0) hx hb dX8_mills_102 (by decide) ?_
          refine lv_istore_n (lv' := [(3, .int 0), (2, .int (nI k)), (1, .int left), (0, .ref x)]) hx hb dX8_mills_103 rfl hl (by decide) rfl (fun ls hl => ?_)
          have loop104 : ∀ (n : Nat) (q : Nat) (u : kS), 3 * (mY N - k) - q < n → mShift (upd N 296 (nI (mY N - k))) k q = u → q ≤ 3 * (mY N - k) → ∀ (H : Heap) (locs : List Loc), va_P D vwCl ([(x, .inl (Y 0, 1497, .inl u))]) H → va_D A ([(x, .inl (Y 0, 1497, .inl u))]) → va_S A s0.heap H locs → ∀ (ls : Array Slot), lv_has ls 4 [(3, .int (nI q)), (0, .ref x), (2, .int (nI k))] → W p l e rX8_mills s0 m args below meth c H locs 0 0 Q (F0 m 104 ls []) := by
            intro n
            induction n with
            | zero => intro q u hmu; exact absurd hmu (Nat.not_lt_zero _)
            | succ n ih =>
              intro q u hmu hu hq H locs hP hD hS ls hl
              have hu6 : u 296 = nI (mY N - k) := by rw [← hu, mShift_at, if_neg (by omega), upd_s]
              refine lv_iload_n hx hb dX8_mills_104 rfl (lv_at hl 0 rfl) ?_
              refine lv_iconst (v := 3) hx hb dX8_mills_105 (by decide) ?_
              refine lv_aload_n hx hb dX8_mills_106 rfl (lv_at hl 1 rfl) ?_
              refine lv_sipush (v := 296) hx hb dX8_mills_107 (by decide) ?_
              refine kiald (f := u) hx hb hK hP 0 rfl 296 rfl (by omega) (by omega) dX8_mills_110 ?_
              refine kTop hu6 ?_
              refine lv_imul hx hb dX8_mills_111 ?_
              refine kTop (pk_mul 3 (mY N - k)) ?_
              refine lv_icmp_ge (tgt := 139) hx hb dX8_mills_112 (by decide) (fun c4 => ?_) (fun c4 => ?_)
              · have c4n : (3 * (mY N - k)) ≤ q := (nI_leI (a := 3 * (mY N - k)) (b := q) (by omega) (by omega)).mp c4
                exact kvret (u) hQ hx hb hr hlocks hP hS dX8_mills_139 (by have hq2 : q = 3 * (mY N - k) := (by omega); subst hq2; unfold mMills; rw [hfin]; exact hu.symm)
              · have c4n : ¬ (3 * (mY N - k)) ≤ q := fun h => c4 ((nI_leI (a := 3 * (mY N - k)) (b := q) (by omega) (by omega)).mpr h)
                refine lv_aload_n hx hb dX8_mills_115 rfl (lv_at hl 1 rfl) ?_
                refine lv_sipush (v := 297) hx hb dX8_mills_116 (by decide) ?_
                refine lv_iload_n hx hb dX8_mills_119 rfl (lv_at hl 0 rfl) ?_
                refine lv_iadd hx hb dX8_mills_120 ?_
                refine kTop (nI_add 297 q) ?_
                refine lv_aload_n hx hb dX8_mills_121 rfl (lv_at hl 1 rfl) ?_
                refine lv_sipush (v := 297) hx hb dX8_mills_122 (by decide) ?_
                refine lv_iload_n hx hb dX8_mills_125 rfl (lv_at hl 0 rfl) ?_
                refine lv_iadd hx hb dX8_mills_126 ?_
                refine kTop (nI_add 297 q) ?_
                refine lv_iconst (v := 3) hx hb dX8_mills_127 (by decide) ?_
                refine lv_iload_n hx hb dX8_mills_128 rfl (lv_at hl 2 rfl) ?_
                refine lv_imul hx hb dX8_mills_129 ?_
                refine kTop (pk_mul 3 k) ?_
                refine lv_iadd hx hb dX8_mills_130 ?_
                refine kTop (nI_add (297 + q) (3 * k)) ?_
                refine kiald (f := u) hx hb hK hP 0 rfl (297 + q + 3 * k) rfl (by omega) (by omega) dX8_mills_131 ?_
                refine kiast (f := u) hx hb hK hP hD hS 0 rfl (297 + q) rfl (by omega) (by omega) dX8_mills_132 ([(x, .inl (Y 0, 1497, .inl (upd u (297 + q) (u (297 + q + 3 * k)))))]) rfl (fun H locs hP hD hS => ?_)
                refine lv_iinc (v := nI (q + 1)) (lv' := [(3, .int (nI (q + 1))), (0, .ref x), (2, .int (nI k))]) hx hb dX8_mills_133 hl (k := 0) rfl (nI_add q 1) (by decide) rfl (fun ls hl => ?_)
                refine lv_goto (tgt := 104) hx hb dX8_mills_136 (by decide) ?_
                exact ih (q + 1) (upd u (297 + q) (u (297 + q + 3 * k))) (by omega) (by rw [← hu]; rfl) (by omega) _ _ hP hD hS ls (lv_sub hl [0, 1, 2] rfl)
          exact loop104 ((3 * (mY N - k) - 0) + 1) 0 (upd N 296 (nI ((mY N) - k))) (Nat.lt_succ_self _) rfl (by omega) _ _ hP hD hS ls (lv_sub hl [0, 3, 1] rfl)
        · have c3n : ¬ (mY N) ≤ k := fun h => c3 ((nI_leI (a := mY N) (b := k) (by omega) (by omega)).mpr h)
          have hfi := hXN.l (k := k) (by omega)
          have hfi2 := hfi.2
          refine lv_iload_n hx hb dX8_mills_19 rfl (lv_at hl 1 rfl) ?_
          refine lv_aload_n hx hb dX8_mills_20 rfl (lv_at hl 2 rfl) ?_
          refine lv_sipush (v := 297) hx hb dX8_mills_21 (by decide) ?_
          refine lv_iconst (v := 3) hx hb dX8_mills_24 (by decide) ?_
          refine lv_iload_n hx hb dX8_mills_25 rfl (lv_at hl 0 rfl) ?_
          refine lv_imul hx hb dX8_mills_26 ?_
          refine kTop (pk_mul 3 k) ?_
          refine lv_iadd hx hb dX8_mills_27 ?_
          refine kTop (nI_add 297 (3 * k)) ?_
          refine lv_iconst (v := 1) hx hb dX8_mills_28 (by decide) ?_
          refine lv_iadd hx hb dX8_mills_29 ?_
          refine kTop (nI_add (297 + 3 * k) 1) ?_
          refine kiald (f := N) hx hb hK hP 0 rfl (297 + 3 * k + 1) rfl (by omega) (by omega) dX8_mills_30 ?_
          refine kc_i (krS (As := [.int left, .int (N (297 + 3 * k + 1))]) (rest := []) (c_X8_least l D Y left (N (297 + 3 * k + 1))) ⟨hx, hb, hml, hown, hta⟩ (cwX8_63 hta ⟨Nat.le_of_ble_eq_true rfl, Nat.le_of_ble_eq_true rfl⟩) kX0b (fun _ _ _ => trivial) hK hNs hP hD (kJ_nil) rfl hl.1 rfl (Nat.le_of_ble_eq_true rfl) dX8_mills_31 ⟨Nat.le_of_ble_eq_true rfl, Nat.le_of_ble_eq_true rfl⟩) hP hD hS hA (kJ_nil) (fun _ => rfl) (fun r5 u H locs hw hP hD hS => ?_)
          subst hw
          have hP : va_P D vwCl ([(x, .inl (Y 0, 1497, .inl N))]) H := hP
          have hD : va_D A ([(x, .inl (Y 0, 1497, .inl N))]) := hD
          refine lv_istore_n (lv' := [(3, .int (mLeast left (N (297 + 3 * k + 1)))), (2, .int (nI k)), (1, .int left), (0, .ref x)]) hx hb dX8_mills_34 rfl hl (by decide) rfl (fun ls hl => ?_)
          refine lv_aload_n hx hb dX8_mills_35 rfl (lv_at hl 3 rfl) ?_
          refine lv_aload_n hx hb dX8_mills_36 rfl (lv_at hl 3 rfl) ?_
          refine lv_sipush (v := 297) hx hb dX8_mills_37 (by decide) ?_
          refine lv_iconst (v := 3) hx hb dX8_mills_40 (by decide) ?_
          refine lv_iload_n hx hb dX8_mills_41 rfl (lv_at hl 1 rfl) ?_
          refine lv_imul hx hb dX8_mills_42 ?_
          refine kTop (pk_mul 3 k) ?_
          refine lv_iadd hx hb dX8_mills_43 ?_
          refine kTop (nI_add 297 (3 * k)) ?_
          refine kiald (f := N) hx hb hK hP 0 rfl (297 + 3 * k) rfl (by omega) (by omega) dX8_mills_44 ?_
          refine kTop hfi.1 ?_
          refine lv_iload_n hx hb dX8_mills_45 rfl (lv_at hl 0 rfl) ?_
          refine kc_v (krS (As := [.ref x, .int (nI (ml N k)), .int (mLeast left (N (297 + 3 * k + 1)))]) (rest := []) (c_X8_crushes l D Y (x) N (ml N k) (mLeast left (N (297 + 3 * k + 1))) (by omega) (hXN.g hfi2)) ⟨hx, hb, hml, hown, hta⟩ (cwX8_70 hta ⟨Nat.le_of_ble_eq_true rfl, Nat.le_of_ble_eq_true rfl⟩) kX0b (fun _ _ _ => trivial) hK hNs hP hD (kJ_all) rfl hl.1 rfl (Nat.le_of_ble_eq_true rfl) dX8_mills_46 ⟨Nat.le_of_ble_eq_true rfl, Nat.le_of_ble_eq_true rfl⟩) hP hD hS hA (kJ_all) (fun _ => rfl) (fun u H locs hw hP hD hS => ?_)
          subst hw
          have hP : va_P D vwCl ([(x, .inl (Y 0, 1497, .inl (mCrushes N (ml N k) (mLeast left (N (297 + 3 * k + 1))))))]) H := hP
          have hD : va_D A ([(x, .inl (Y 0, 1497, .inl (mCrushes N (ml N k) (mLeast left (N (297 + 3 * k + 1))))))]) := hD
          obtain ⟨-, -, c3N⟩ := mCrushes_X hXN hfi2 (mLeast left (N (297 + 3 * k + 1)))
          refine lv_aload_n hx hb dX8_mills_49 rfl (lv_at hl 3 rfl) ?_
          refine lv_sipush (v := 297) hx hb dX8_mills_50 (by decide) ?_
          refine lv_iconst (v := 3) hx hb dX8_mills_53 (by decide) ?_
          refine lv_iload_n hx hb dX8_mills_54 rfl (lv_at hl 1 rfl) ?_
          refine lv_imul hx hb dX8_mills_55 ?_
          refine kTop (pk_mul 3 k) ?_
          refine lv_iadd hx hb dX8_mills_56 ?_
          refine kTop (nI_add 297 (3 * k)) ?_
          refine lv_iconst (v := 1) hx hb dX8_mills_57 (by decide) ?_
          refine lv_iadd hx hb dX8_mills_58 ?_
          refine kTop (nI_add (297 + 3 * k) 1) ?_
          refine lv_dup2_11 hx hb dX8_mills_59 rfl rfl ?_
          refine kiald (f := mCrushes N (ml N k) (mLeast left (N (297 + 3 * k + 1)))) hx hb hK hP 0 rfl (297 + 3 * k + 1) rfl (by omega) (by omega) dX8_mills_60 ?_
          refine lv_iload_n hx hb dX8_mills_61 rfl (lv_at hl 0 rfl) ?_
          refine lv_isub hx hb dX8_mills_62 ?_
          refine kiast (f := mCrushes N (ml N k) (mLeast left (N (297 + 3 * k + 1)))) hx hb hK hP hD hS 0 rfl (297 + 3 * k + 1) rfl (by omega) (by omega) dX8_mills_63 ([(x, .inl (Y 0, 1497, .inl (upd (mCrushes N (ml N k) (mLeast left (N (297 + 3 * k + 1)))) (297 + 3 * k + 1) ((mCrushes N (ml N k) (mLeast left (N (297 + 3 * k + 1))) (297 + 3 * k + 1)) - (mLeast left (N (297 + 3 * k + 1)))))))]) rfl (fun H locs hP hD hS => ?_)
          refine lv_iload_n hx hb dX8_mills_64 rfl (lv_at hl 2 rfl) ?_
          refine lv_iload_n hx hb dX8_mills_65 rfl (lv_at hl 0 rfl) ?_
          refine lv_isub hx hb dX8_mills_66 ?_
          refine lv_istore_n (lv' := [(1, .int (left - (mLeast left (N (297 + 3 * k + 1))))), (3, .int (mLeast left (N (297 + 3 * k + 1)))), (2, .int (nI k)), (0, .ref x)]) hx hb dX8_mills_67 rfl hl (by decide) rfl (fun ls hl => ?_)
          refine lv_iload_n hx hb dX8_mills_68 rfl (lv_at hl 2 rfl) ?_
          refine lv_aload_n hx hb dX8_mills_69 rfl (lv_at hl 3 rfl) ?_
          refine lv_sipush (v := 297) hx hb dX8_mills_70 (by decide) ?_
          refine lv_iconst (v := 3) hx hb dX8_mills_73 (by decide) ?_
          refine lv_iload_n hx hb dX8_mills_74 rfl (lv_at hl 2 rfl) ?_
          refine lv_imul hx hb dX8_mills_75 ?_
          refine kTop (pk_mul 3 k) ?_
          refine lv_iadd hx hb dX8_mills_76 ?_
          refine kTop (nI_add 297 (3 * k)) ?_
          refine lv_iconst (v := 1) hx hb dX8_mills_77 (by decide) ?_
          refine lv_iadd hx hb dX8_mills_78 ?_
          refine kTop (nI_add (297 + 3 * k) 1) ?_
          refine kiald (f := upd (mCrushes N (ml N k) (mLeast left (N (297 + 3 * k + 1)))) (297 + 3 * k + 1) ((mCrushes N (ml N k) (mLeast left (N (297 + 3 * k + 1))) (297 + 3 * k + 1)) - (mLeast left (N (297 + 3 * k + 1))))) hx hb hK hP 0 rfl (297 + 3 * k + 1) rfl (by omega) (by omega) dX8_mills_79 ?_
          refine lv_if_ne (tgt := 87) hx hb dX8_mills_80 (by decide) (fun c7 => ?_) (fun c7 => ?_)
          · refine lv_iconst (v := 0) hx hb dX8_mills_87 (by decide) ?_
            refine lv_iadd hx hb dX8_mills_88 ?_
            refine kTop (nI_add k 0) ?_
            refine lv_istore_n (lv' := [(2, .int (nI (k + 0))), (1, .int (left - (mLeast left (N (297 + 3 * k + 1))))), (3, .int (mLeast left (N (297 + 3 * k + 1)))), (0, .ref x)]) hx hb dX8_mills_89 rfl hl (by decide) rfl (fun ls hl => ?_)
            refine lv_goto (tgt := 6) hx hb dX8_mills_90 (by decide) ?_
            have hstep : mMillTo s (i + 1) = (upd (mCrushes N (ml N k) (mLeast left (N (297 + 3 * k + 1)))) (297 + 3 * k + 1) ((mCrushes N (ml N k) (mLeast left (N (297 + 3 * k + 1))) (297 + 3 * k + 1)) - (mLeast left (N (297 + 3 * k + 1)))), left - (mLeast left (N (297 + 3 * k + 1))), k + 0) := by show mMillStep (mMillTo s i) = _; rw [hx0]; unfold mMillStep; rw [if_neg c1, if_neg c3n]; dsimp only; have q3 : ¬ N (297 + 3 * k + 1) - mLeast left (N (297 + 3 * k + 1)) = 0 := (by have q4 := c7; rw [upd_s, c3N _ (by omega)] at q4; exact q4); rw [if_neg q3] <;> rfl
            exact ih (i + 1) (upd (mCrushes N (ml N k) (mLeast left (N (297 + 3 * k + 1)))) (297 + 3 * k + 1) ((mCrushes N (ml N k) (mLeast left (N (297 + 3 * k + 1))) (297 + 3 * k + 1)) - (mLeast left (N (297 + 3 * k + 1))))) (left - (mLeast left (N (297 + 3 * k + 1)))) (k + 0) (by have hz : left - mLeast left (N (297 + 3 * k + 1)) = 0 := (by have q4 := c7; rw [upd_s, c3N _ (by omega)] at q4; exact mLeft0 q4); rw [hz]; have h2 : (if 0 < left then 1 else 0) = 1 := if_pos (Int32.not_le.mp c1); have h3 : (if (0 : Int32) < 0 then 1 else 0) = 0 := rfl; omega) hstep (by have z := mMi_step hmi c1 (by dsimp only; omega); rw [← hx0] at z; have z2 : mMi s (i + 1) (mMillTo s (i + 1)) := z; rw [hstep] at z2; exact z2) _ _ hP hD hS ls (lv_sub hl [0, 1, 3] rfl)
          · refine lv_iconst (v := 1) hx hb dX8_mills_83 (by decide) ?_
            refine lv_goto (tgt := 88) hx hb dX8_mills_84 (by decide) ?_
            refine lv_iadd hx hb dX8_mills_88 ?_
            refine kTop (nI_add k 1) ?_
            refine lv_istore_n (lv' := [(2, .int (nI (k + 1))), (1, .int (left - (mLeast left (N (297 + 3 * k + 1))))), (3, .int (mLeast left (N (297 + 3 * k + 1)))), (0, .ref x)]) hx hb dX8_mills_89 rfl hl (by decide) rfl (fun ls hl => ?_)
            refine lv_goto (tgt := 6) hx hb dX8_mills_90 (by decide) ?_
            have hstep : mMillTo s (i + 1) = (upd (mCrushes N (ml N k) (mLeast left (N (297 + 3 * k + 1)))) (297 + 3 * k + 1) ((mCrushes N (ml N k) (mLeast left (N (297 + 3 * k + 1))) (297 + 3 * k + 1)) - (mLeast left (N (297 + 3 * k + 1)))), left - (mLeast left (N (297 + 3 * k + 1))), k + 1) := by show mMillStep (mMillTo s i) = _; rw [hx0]; unfold mMillStep; rw [if_neg c1, if_neg c3n]; dsimp only; have q3 :  N (297 + 3 * k + 1) - mLeast left (N (297 + 3 * k + 1)) = 0 := (by have q4 := c7; rw [upd_s, c3N _ (by omega)] at q4; exact q4); rw [if_pos q3] <;> rfl
            exact ih (i + 1) (upd (mCrushes N (ml N k) (mLeast left (N (297 + 3 * k + 1)))) (297 + 3 * k + 1) ((mCrushes N (ml N k) (mLeast left (N (297 + 3 * k + 1))) (297 + 3 * k + 1)) - (mLeast left (N (297 + 3 * k + 1))))) (left - (mLeast left (N (297 + 3 * k + 1)))) (k + 1) (by have h1 : (if 0 < left - mLeast left (N (297 + 3 * k + 1)) then 1 else 0) ≤ 1 := (by split <;> omega); have h2 : (if 0 < left then 1 else 0) = 1 := if_pos (Int32.not_le.mp c1); omega) hstep (by have z := mMi_step hmi c1 (by dsimp only; omega); rw [← hx0] at z; have z2 : mMi s (i + 1) (mMillTo s (i + 1)) := z; rw [hstep] at z2; exact z2) _ _ hP hD hS ls (lv_sub hl [0, 1, 3] rfl)
  exact loop6 ((mY s - 0 + (if 0 < s 5 then 1 else 0)) + 1) 0 s (s 5) 0 (Nat.lt_succ_self _) rfl (mMi_0 hX) _ _ hP hD hS ls (lv_sub hl [0, 1, 2] rfl)
