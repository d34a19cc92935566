set_option maxHeartbeats 4000000 in
set_option maxRecDepth 100000 in
theorem c_X3_crush (l : Launch) (D : va_G) (Y : Nat → ClassId) (a : Nat → Nat) (M : kN) (hI : cI M) : kM l yX3_crush wX3_crush rX3_crush D Y (wM Y a M) [.ref (a 0)] kX0 (kQv D (fun u => u = cCrush M) (fun u => wM Y a u)) := by
  refine kentry (cc := cX3_crush) (maxL := 5) (ret := none) (by decide +kernel) rfl (Nat.le_of_ble_eq_true rfl) ?_
  intro p e s m args below meth c A Q ls hQ hx hb hr hlocks hml hown hin hta hA hX hK hNs hP hD hS hl
  have hown : s.vm.findClass RX3 = some m.cls := hown
  have hl : lv_has ls 5 [(0, .ref (a 0))] := hl
  have h400 := hI.y400
  refine lv_aload_n hx hb dX3_crush_0 rfl (lv_at hl 0 rfl) ?_
  refine gfX3_9 (v := .ref (a 1)) hx hb hta hown hK hP 0 rfl rfl dX3_crush_1 ?_
  refine lv_iconst (v := 2) hx hb dX3_crush_4 (by decide) ?_
  refine kiald (f := M 0) hx hb hK hP 1 rfl 2 rfl (by omega) (by omega) dX3_crush_5 ?_
  refine lv_istore_n (lv' := [(1, .int (M 0 2)), (0, .ref (a 0))]) hx hb dX3_crush_6 rfl hl (by decide) rfl (fun ls hl => ?_)
  refine lv_iconst (v := 0) hx hb dX3_crush_7 (by decide) ?_
  refine lv_istore_n (lv' := [(2, .int 0), (1, .int (M 0 2)), (0, .ref (a 0))]) hx hb dX3_crush_8 rfl hl (by decide) rfl (fun ls hl => ?_)
  refine lv_iconst (v := 0) hx hb dX3_crush_9 (by decide) ?_
  refine lv_istore_n (lv' := [(3, .int 0), (2, .int 0), (1, .int (M 0 2)), (0, .ref (a 0))]) hx hb dX3_crush_10 rfl hl (by decide) rfl (fun ls hl => ?_)
  have loop11 : ∀ (n : Nat) (k : Nat) (N : kN) (rest : Int32) (em : Nat), nY M - k < n → cCrushTo M k = (N, rest, em) → k ≤ nY M → ∀ (H : Heap) (locs : List Loc), va_P D vwCl (wM Y a N) H → va_D A (wM Y a N) → va_S A s.heap H locs → ∀ (ls : Array Slot), lv_has ls 5 [(3, .int (nI k)), (2, .int (nI em)), (1, .int rest), (0, .ref (a 0))] → W p l e rX3_crush s m args below meth c H locs 0 0 Q (F0 m 11 ls []) := by
    intro n
    induction n with
    | zero => intro k N rest em hmu; exact absurd hmu (Nat.not_lt_zero _)
    | succ n ih =>
      intro k N rest em hmu hX hk H locs hP hD hS ls hl
      obtain ⟨hIN, eF, eY, hem⟩ : cI N ∧ nF N = nF M ∧ nY N = nY M ∧ em ≤ k := by have h := cCrushTo_I hI k; rw [hX] at h; exact h
      have e6 : N 19 6 = nI (nY M) := by rw [hIN.y, eY]
      have h30N := hIN.f30
      refine lv_iload_n hx hb dX3_crush_11 rfl (lv_at hl 0 rfl) ?_
      refine lv_aload_n hx hb dX3_crush_12 rfl (lv_at hl 3 rfl) ?_
      refine gfX3_39 (v := .ref (a 20)) hx hb hta hown hK hP 0 rfl rfl dX3_crush_13 ?_
      refine gfX3_148 (v := .int (N 19 6)) hx hb hta hown hK hP 20 rfl rfl dX3_crush_16 ?_
      refine kTop e6 ?_
      refine lv_icmp_ge (tgt := 83) hx hb dX3_crush_19 (by decide) (fun c1 => ?_) (fun c1 => ?_)
      · have c1n : (nY M) ≤ k := (nI_leI (a := nY M) (b := k) (by omega) (by omega)).mp c1
        refine lv_aload_n hx hb dX3_crush_83 rfl (lv_at hl 3 rfl) ?_
        refine gfX3_39 (v := .ref (a 20)) hx hb hta hown hK hP 0 rfl rfl dX3_crush_84 ?_
        refine lv_iload_n hx hb dX3_crush_87 rfl (lv_at hl 1 rfl) ?_
        refine kc_v (krV (As := [.int (nI em)]) (rest := []) (c_X6_dropFirst l D Y a N em hIN (by omega)) ⟨hx, hb, hml, hown, hta⟩ (cwX3_184 hta ⟨Nat.le_of_ble_eq_true rfl, Nat.le_of_ble_eq_true rfl⟩) kX0b (fun _ _ _ => trivial) hK hNs hP hD (kJ_all) (q0 := 20) rfl rfl rfl rfl hl.1 rfl (Nat.le_of_ble_eq_true rfl) dX3_crush_88 ⟨Nat.le_of_ble_eq_true rfl, Nat.le_of_ble_eq_true rfl⟩) hP hD hS hA (kJ_all) (fun _ => rfl) (fun u H locs hw hP hD hS => ?_)
        subst hw
        have hP : va_P D vwCl (wM Y a (cDrop N em)) H := hP
        have hD : va_D A (wM Y a (cDrop N em)) := hD
        exact kvret (cDrop N em) hQ hx hb hr hlocks hP hS dX3_crush_91 (by have e : cCrushTo M (nY M) = (N, rest, em) := by { have hk2 : k = nY M := (by omega); subst hk2; exact hX }; unfold cCrush; rw [e])
      · have c1n : ¬ (nY M) ≤ k := fun h => c1 ((nI_leI (a := nY M) (b := k) (by omega) (by omega)).mpr h)
        have hfi := hIN.fk (k := k) (by omega)
        refine lv_iload_n hx hb dX3_crush_22 rfl (lv_at hl 2 rfl) ?_
        refine lv_if_le (tgt := 83) hx hb dX3_crush_23 (by decide) (fun c3 => ?_) (fun c3 => ?_)
        · refine lv_aload_n hx hb dX3_crush_83 rfl (lv_at hl 3 rfl) ?_
          refine gfX3_39 (v := .ref (a 20)) hx hb hta hown hK hP 0 rfl rfl dX3_crush_84 ?_
          refine lv_iload_n hx hb dX3_crush_87 rfl (lv_at hl 1 rfl) ?_
          refine kc_v (krV (As := [.int (nI em)]) (rest := []) (c_X6_dropFirst l D Y a N em hIN (by omega)) ⟨hx, hb, hml, hown, hta⟩ (cwX3_184 hta ⟨Nat.le_of_ble_eq_true rfl, Nat.le_of_ble_eq_true rfl⟩) kX0b (fun _ _ _ => trivial) hK hNs hP hD (kJ_all) (q0 := 20) rfl rfl rfl rfl hl.1 rfl (Nat.le_of_ble_eq_true rfl) dX3_crush_88 ⟨Nat.le_of_ble_eq_true rfl, Nat.le_of_ble_eq_true rfl⟩) hP hD hS hA (kJ_all) (fun _ => rfl) (fun u H locs hw hP hD hS => ?_)
          subst hw
          have hP : va_P D vwCl (wM Y a (cDrop N em)) H := hP
          have hD : va_D A (wM Y a (cDrop N em)) := hD
          exact kvret (cDrop N em) hQ hx hb hr hlocks hP hS dX3_crush_91 (by have e : cCrushTo M (nY M) = (N, rest, em) := by { have e2 := cCrushTo_stop (M := M) (k := k) (by rw [hX]; exact c3) (nY M - k); rw [show k + (nY M - k) = nY M by omega] at e2; exact e2.trans hX }; unfold cCrush; rw [e])
        · refine lv_iload_n hx hb dX3_crush_26 rfl (lv_at hl 2 rfl) ?_
          refine lv_aload_n hx hb dX3_crush_27 rfl (lv_at hl 3 rfl) ?_
          refine gfX3_39 (v := .ref (a 20)) hx hb hta hown hK hP 0 rfl rfl dX3_crush_28 ?_
          refine gfX3_171 (v := .ref (a 22)) hx hb hta hown hK hP 20 rfl rfl dX3_crush_31 ?_
          refine lv_iload_n hx hb dX3_crush_34 rfl (lv_at hl 0 rfl) ?_
          refine kiald (f := N 17) hx hb hK hP 22 rfl k rfl (by omega) (by omega) dX3_crush_35 ?_
          refine va_mmin hx hb (by rw [hml]; exact hl.1.symm) hown (hta _ al_350) (hta _ al_132) (hta _ al_133) (hta _ al_134) (Nat.le_of_ble_eq_true rfl) (Nat.le_of_ble_eq_true rfl) (Nat.le_of_ble_eq_true rfl) (Nat.le_of_ble_eq_true rfl) dX3_crush_36 ?_
          refine kTop (y := kmin rest (N 17 k)) rfl ?_
          refine lv_istore (lv' := [(4, .int (kmin rest (N 17 k))), (3, .int (nI k)), (2, .int (nI em)), (1, .int rest), (0, .ref (a 0))]) hx hb dX3_crush_39 hl (by decide) rfl (fun ls hl => ?_)
          refine lv_aload_n hx hb dX3_crush_41 rfl (lv_at hl 4 rfl) ?_
          refine lv_aload_n hx hb dX3_crush_42 rfl (lv_at hl 4 rfl) ?_
          refine gfX3_39 (v := .ref (a 20)) hx hb hta hown hK hP 0 rfl rfl dX3_crush_43 ?_
          refine gfX3_174 (v := .ref (a 21)) hx hb hta hown hK hP 20 rfl rfl dX3_crush_46 ?_
          refine lv_iload_n hx hb dX3_crush_49 rfl (lv_at hl 1 rfl) ?_
          refine kiald (f := N 16) hx hb hK hP 21 rfl k rfl (by omega) (by omega) dX3_crush_50 ?_
          refine kTop hfi.1 ?_
          refine lv_iload hx hb dX3_crush_51 (lv_at hl 0 rfl) ?_
          refine kc_v (krV (As := [.int (nI (fi N k)), .int (kmin rest (N 17 k))]) (rest := []) (c_X3_crushPart l D Y a N (fi N k) (kmin rest (N 17 k)) (by have := hfi.2; omega) (hIN.g hfi.2)) ⟨hx, hb, hml, hown, hta⟩ (cwX3_177 hta ⟨Nat.le_of_ble_eq_true rfl, Nat.le_of_ble_eq_true rfl⟩) kX0b (fun _ _ _ => trivial) hK hNs hP hD (kJ_all) (q0 := 0) rfl rfl rfl rfl hl.1 rfl (Nat.le_of_ble_eq_true rfl) dX3_crush_53 ⟨Nat.le_of_ble_eq_true rfl, Nat.le_of_ble_eq_true rfl⟩) hP hD hS hA (kJ_all) (fun _ => rfl) (fun u H locs hw hP hD hS => ?_)
          subst hw
          have hP : va_P D vwCl (wM Y a (cCrushPart N (fi N k) (kmin rest (N 17 k)))) H := hP
          have hD : va_D A (wM Y a (cCrushPart N (fi N k) (kmin rest (N 17 k)))) := hD
          refine lv_iload_n hx hb dX3_crush_56 rfl (lv_at hl 3 rfl) ?_
          refine lv_iload hx hb dX3_crush_57 (lv_at hl 0 rfl) ?_
          refine lv_isub hx hb dX3_crush_59 ?_
          refine lv_istore_n (lv' := [(1, .int (rest - (kmin rest (N 17 k)))), (4, .int (kmin rest (N 17 k))), (3, .int (nI k)), (2, .int (nI em)), (0, .ref (a 0))]) hx hb dX3_crush_60 rfl hl (by decide) rfl (fun ls hl => ?_)
          refine lv_aload_n hx hb dX3_crush_61 rfl (lv_at hl 4 rfl) ?_
          refine gfX3_39 (v := .ref (a 20)) hx hb hta hown hK hP 0 rfl rfl dX3_crush_62 ?_
          refine lv_iload_n hx hb dX3_crush_65 rfl (lv_at hl 2 rfl) ?_
          refine lv_iload hx hb dX3_crush_66 (lv_at hl 1 rfl) ?_
          refine kc_i (krV (As := [.int (nI k), .int (kmin rest (N 17 k))]) (rest := []) (c_X6_takeFrom l D Y a (cCrushPart N (fi N k) (kmin rest (N 17 k))) k (kmin rest (N 17 k)) (cCrushPart_I hIN _ _) (by show k < nY N; omega)) ⟨hx, hb, hml, hown, hta⟩ (cwX3_181 hta ⟨Nat.le_of_ble_eq_true rfl, Nat.le_of_ble_eq_true rfl⟩) kX0b (fun _ _ _ => trivial) hK hNs hP hD (kJ_all) (q0 := 20) rfl rfl rfl rfl hl.1 rfl (Nat.le_of_ble_eq_true rfl) dX3_crush_68 ⟨Nat.le_of_ble_eq_true rfl, Nat.le_of_ble_eq_true rfl⟩) hP hD hS hA (kJ_all) (fun _ => rfl) (fun r6 u H locs hw hP hD hS => ?_)
          obtain ⟨rfl, rfl⟩ := hw
          have hP : va_P D vwCl (wM Y a (cTake (cCrushPart N (fi N k) (kmin rest (N 17 k))) k (kmin rest (N 17 k)))) H := hP
          have hD : va_D A (wM Y a (cTake (cCrushPart N (fi N k) (kmin rest (N 17 k))) k (kmin rest (N 17 k)))) := hD
          refine lv_if_ne (tgt := 77) hx hb dX3_crush_71 (by decide) (fun c7 => ?_) (fun c7 => ?_)
          · refine lv_iinc (v := nI (k + 1)) (lv' := [(3, .int (nI (k + 1))), (1, .int (rest - (kmin rest (N 17 k)))), (4, .int (kmin rest (N 17 k))), (2, .int (nI em)), (0, .ref (a 0))]) hx hb dX3_crush_77 hl (k := 2) rfl (nI_add k 1) (by decide) rfl (fun ls hl => ?_)
            refine lv_goto (tgt := 11) hx hb dX3_crush_80 (by decide) ?_
            exact ih (k + 1) (cTake (cCrushPart N (fi N k) (kmin rest (N 17 k))) k (kmin rest (N 17 k))) (rest - (kmin rest (N 17 k))) em (by omega) (by show (if (cCrushTo M k).2.1 ≤ 0 then cCrushTo M k else _) = _; rw [hX, if_neg c3]; dsimp only; have q3 : ¬ N 17 k - kmin rest (N 17 k) = 0 := c7; rw [if_neg q3]) (by omega) _ _ hP hD hS ls (lv_sub hl [0, 3, 1, 4] rfl)
          · refine lv_iinc (v := nI (em + 1)) (lv' := [(2, .int (nI (em + 1))), (1, .int (rest - (kmin rest (N 17 k)))), (4, .int (kmin rest (N 17 k))), (3, .int (nI k)), (0, .ref (a 0))]) hx hb dX3_crush_74 hl (k := 3) rfl (nI_add em 1) (by decide) rfl (fun ls hl => ?_)
            refine lv_iinc (v := nI (k + 1)) (lv' := [(3, .int (nI (k + 1))), (2, .int (nI (em + 1))), (1, .int (rest - (kmin rest (N 17 k)))), (4, .int (kmin rest (N 17 k))), (0, .ref (a 0))]) hx hb dX3_crush_77 hl (k := 3) rfl (nI_add k 1) (by decide) rfl (fun ls hl => ?_)
            refine lv_goto (tgt := 11) hx hb dX3_crush_80 (by decide) ?_
            exact ih (k + 1) (cTake (cCrushPart N (fi N k) (kmin rest (N 17 k))) k (kmin rest (N 17 k))) (rest - (kmin rest (N 17 k))) (em + 1) (by omega) (by show (if (cCrushTo M k).2.1 ≤ 0 then cCrushTo M k else _) = _; rw [hX, if_neg c3]; dsimp only; have q3 :  N 17 k - kmin rest (N 17 k) = 0 := c7; rw [if_pos q3]) (by omega) _ _ hP hD hS ls (lv_sub hl [0, 1, 2, 4] rfl)
  exact loop11 ((nY M - 0) + 1) 0 M (M 0 2) 0 (Nat.lt_succ_self _) rfl (by omega) _ _ hP hD hS ls (lv_sub hl [0, 1, 2, 3] rfl)
set_option maxHeartbeats 4000000 in
set_option maxRecDepth 100000 in
theorem c_X3_passDay (l : Launch) (D : va_G) (Y : Nat → ClassId) (a : Nat → Nat) (M : kN) (P : Prop) [Decidable P] (hI : cI M) : kM l yX3_passDay wX3_passDay rX3_passDay D Y (wM Y a M) [.ref (a 0), .int (kb P)] kX0 (kQv D (fun u => u = cDay M P) (fun u => wM Y a u)) := by
  refine kentry (cc := cX3_passDay) (maxL := 2) (ret := none) (by decide +kernel) rfl (Nat.le_of_ble_eq_true rfl) ?_
  intro p e s m args below meth c A Q ls hQ hx hb hr hlocks hml hown hin hta hA hX hK hNs hP hD hS hl
  have hown : s.vm.findClass RX3 = some m.cls := hown
  have hl : lv_has ls 2 [(0, .ref (a 0)), (1, .int (kb P))] := hl
  refine lv_aload_n hx hb dX3_passDay_0 rfl (lv_at hl 0 rfl) ?_
  refine kc_v (krV (As := []) (rest := []) (c_X3_loseOldCane l D Y a M hI) ⟨hx, hb, hml, hown, hta⟩ (cwX3_98 hta ⟨Nat.le_of_ble_eq_true rfl, Nat.le_of_ble_eq_true rfl⟩) kX0b (fun _ _ _ => trivial) hK hNs hP hD (kJ_all) (q0 := 0) rfl rfl rfl rfl hl.1 rfl (Nat.le_of_ble_eq_true rfl) dX3_passDay_1 ⟨Nat.le_of_ble_eq_true rfl, Nat.le_of_ble_eq_true rfl⟩) hP hD hS hA (kJ_all) (fun _ => rfl) (fun N1 H locs hw hP hD hS => ?_)
  have hN1 := hw
  have hP : va_P D vwCl (wM Y a N1) H := hP
  have hD : va_D A (wM Y a N1) := hD
  refine lv_aload_n hx hb dX3_passDay_4 rfl (lv_at hl 0 rfl) ?_
  refine kc_v (krV (As := []) (rest := []) (c_X3_bringLoads l D Y a N1 (hN1 ▸ cLose_I hI)) ⟨hx, hb, hml, hown, hta⟩ (cwX3_101 hta ⟨Nat.le_of_ble_eq_true rfl, Nat.le_of_ble_eq_true rfl⟩) kX0b (fun _ _ _ => trivial) hK hNs hP hD (kJ_all) (q0 := 0) rfl rfl rfl rfl hl.1 rfl (Nat.le_of_ble_eq_true rfl) dX3_passDay_5 ⟨Nat.le_of_ble_eq_true rfl, Nat.le_of_ble_eq_true rfl⟩) hP hD hS hA (kJ_all) (fun _ => rfl) (fun N2 H locs hw hP hD hS => ?_)
  have hN2 := hw
  have hP : va_P D vwCl (wM Y a N2) H := hP
  have hD : va_D A (wM Y a N2) := hD
  refine lv_iload_n hx hb dX3_passDay_8 rfl (lv_at hl 1 rfl) ?_
  by_cases c3 : P
  · refine kTop (kb_t c3) ?_
    refine lv_if_ne (tgt := 26) hx hb dX3_passDay_9 (by decide) (fun _ => ?_) (fun h => False.elim (by revert h; decide))
    refine lv_aload_n hx hb dX3_passDay_26 rfl (lv_at hl 0 rfl) ?_
    refine lv_dup hx hb dX3_passDay_27 rfl ?_
    refine gfX3_70 (v := .int (N2 19 3)) hx hb hta hown hK hP 0 rfl rfl dX3_passDay_28 ?_
    refine lv_iconst (v := 1) hx hb dX3_passDay_31 (by decide) ?_
    refine lv_iadd hx hb dX3_passDay_32 ?_
    refine pfX3_70 (ws1 := wM Y a (sM N2 19 3 ((N2 19 3) + 1))) hx hb hta hown hK hP hD hS 0 rfl (Nat.le_of_ble_eq_true rfl) rfl dX3_passDay_33 (fun H locs hP hD hS => ?_)
    refine lv_goto (tgt := 43) hx hb dX3_passDay_36 (by decide) ?_
    refine lv_aload_n hx hb dX3_passDay_43 rfl (lv_at hl 0 rfl) ?_
    refine lv_dup hx hb dX3_passDay_44 rfl ?_
    refine gfX3_60 (v := .int (N2 19 0)) hx hb hta hown hK hP 0 rfl rfl dX3_passDay_45 ?_
    refine lv_iconst (v := 1) hx hb dX3_passDay_48 (by decide) ?_
    refine lv_iadd hx hb dX3_passDay_49 ?_
    refine pfX3_60 (ws1 := wM Y a (sM (sM N2 19 3 ((N2 19 3) + 1)) 19 0 ((N2 19 0) + 1))) hx hb hta hown hK hP hD hS 0 rfl (Nat.le_of_ble_eq_true rfl) rfl dX3_passDay_50 (fun H locs hP hD hS => ?_)
    exact kvret (sM (sM N2 19 3 ((N2 19 3) + 1)) 19 0 ((N2 19 0) + 1)) hQ hx hb hr hlocks hP hS dX3_passDay_53 (by subst hN1; subst hN2; unfold cDay cRest; rw [if_pos (Or.inl c3)] <;> rfl)
  · refine kTop (kb_f c3) ?_
    refine lv_if_ne (tgt := 26) hx hb dX3_passDay_9 (by decide) (fun h => False.elim (by revert h; decide)) (fun _ => ?_)
    refine lv_aload_n hx hb dX3_passDay_12 rfl (lv_at hl 0 rfl) ?_
    refine gfX3_32 (v := .ref (a 17)) hx hb hta hown hK hP 0 rfl rfl dX3_passDay_13 ?_
    refine lv_aload_n hx hb dX3_passDay_16 rfl (lv_at hl 0 rfl) ?_
    refine gfX3_60 (v := .int (N2 19 0)) hx hb hta hown hK hP 0 rfl rfl dX3_passDay_17 ?_
    refine kc_i (krV (As := [.int (N2 19 0)]) (rest := []) (c_X5_isStopped l D Y a N2 (N2 19 0) (hN2 ▸ cBring_I (hN1 ▸ cLose_I hI))) ⟨hx, hb, hml, hown, hta⟩ (cwX3_104 hta ⟨Nat.le_of_ble_eq_true rfl, Nat.le_of_ble_eq_true rfl⟩) kX0b (fun _ _ _ => trivial) hK hNs hP hD (kJ_all) (q0 := 17) rfl rfl rfl rfl hl.1 rfl (Nat.le_of_ble_eq_true rfl) dX3_passDay_20 ⟨Nat.le_of_ble_eq_true rfl, Nat.le_of_ble_eq_true rfl⟩) hP hD hS hA (kJ_all) (fun _ => rfl) (fun r4 u H locs hw hP hD hS => ?_)
    subst hw
    have hP : va_P D vwCl (wM Y a N2) H := hP
    have hD : va_D A (wM Y a N2) := hD
    by_cases c5 : cStopped N2 (N2 19 0) = true
    · refine kTop (kb_t c5) ?_
      refine lv_if_eq (tgt := 39) hx hb dX3_passDay_23 (by decide) (fun h => False.elim (by revert h; decide)) (fun _ => ?_)
      refine lv_aload_n hx hb dX3_passDay_26 rfl (lv_at hl 0 rfl) ?_
      refine lv_dup hx hb dX3_passDay_27 rfl ?_
      refine gfX3_70 (v := .int (N2 19 3)) hx hb hta hown hK hP 0 rfl rfl dX3_passDay_28 ?_
      refine lv_iconst (v := 1) hx hb dX3_passDay_31 (by decide) ?_
      refine lv_iadd hx hb dX3_passDay_32 ?_
      refine pfX3_70 (ws1 := wM Y a (sM N2 19 3 ((N2 19 3) + 1))) hx hb hta hown hK hP hD hS 0 rfl (Nat.le_of_ble_eq_true rfl) rfl dX3_passDay_33 (fun H locs hP hD hS => ?_)
      refine lv_goto (tgt := 43) hx hb dX3_passDay_36 (by decide) ?_
      refine lv_aload_n hx hb dX3_passDay_43 rfl (lv_at hl 0 rfl) ?_
      refine lv_dup hx hb dX3_passDay_44 rfl ?_
      refine gfX3_60 (v := .int (N2 19 0)) hx hb hta hown hK hP 0 rfl rfl dX3_passDay_45 ?_
      refine lv_iconst (v := 1) hx hb dX3_passDay_48 (by decide) ?_
      refine lv_iadd hx hb dX3_passDay_49 ?_
      refine pfX3_60 (ws1 := wM Y a (sM (sM N2 19 3 ((N2 19 3) + 1)) 19 0 ((N2 19 0) + 1))) hx hb hta hown hK hP hD hS 0 rfl (Nat.le_of_ble_eq_true rfl) rfl dX3_passDay_50 (fun H locs hP hD hS => ?_)
      exact kvret (sM (sM N2 19 3 ((N2 19 3) + 1)) 19 0 ((N2 19 0) + 1)) hQ hx hb hr hlocks hP hS dX3_passDay_53 (by subst hN1; subst hN2; unfold cDay cRest; rw [if_pos (Or.inr c5)] <;> rfl)
    · refine kTop (kb_f c5) ?_
      refine lv_if_eq (tgt := 39) hx hb dX3_passDay_23 (by decide) (fun _ => ?_) (fun h => False.elim (by revert h; decide))
      refine lv_aload_n hx hb dX3_passDay_39 rfl (lv_at hl 0 rfl) ?_
      refine kc_v (krV (As := []) (rest := []) (c_X3_crush l D Y a N2 (hN2 ▸ cBring_I (hN1 ▸ cLose_I hI))) ⟨hx, hb, hml, hown, hta⟩ (cwX3_107 hta ⟨Nat.le_of_ble_eq_true rfl, Nat.le_of_ble_eq_true rfl⟩) kX0b (fun _ _ _ => trivial) hK hNs hP hD (kJ_all) (q0 := 0) rfl rfl rfl rfl hl.1 rfl (Nat.le_of_ble_eq_true rfl) dX3_passDay_40 ⟨Nat.le_of_ble_eq_true rfl, Nat.le_of_ble_eq_true rfl⟩) hP hD hS hA (kJ_all) (fun _ => rfl) (fun N3 H locs hw hP hD hS => ?_)
      have hN3 := hw
      have hP : va_P D vwCl (wM Y a N3) H := hP
      have hD : va_D A (wM Y a N3) := hD
      refine lv_aload_n hx hb dX3_passDay_43 rfl (lv_at hl 0 rfl) ?_
      refine lv_dup hx hb dX3_passDay_44 rfl ?_
      refine gfX3_60 (v := .int (N3 19 0)) hx hb hta hown hK hP 0 rfl rfl dX3_passDay_45 ?_
      refine lv_iconst (v := 1) hx hb dX3_passDay_48 (by decide) ?_
      refine lv_iadd hx hb dX3_passDay_49 ?_
      refine pfX3_60 (ws1 := wM Y a (sM N3 19 0 ((N3 19 0) + 1))) hx hb hta hown hK hP hD hS 0 rfl (Nat.le_of_ble_eq_true rfl) rfl dX3_passDay_50 (fun H locs hP hD hS => ?_)
      exact kvret (sM N3 19 0 ((N3 19 0) + 1)) hQ hx hb hr hlocks hP hS dX3_passDay_53 (by subst hN1; subst hN2; subst hN3; unfold cDay cRest; rw [if_neg (fun h => h.elim c3 c5)] <;> rfl)
set_option maxHeartbeats 4000000 in
set_option maxRecDepth 100000 in
theorem c_X3_passDays (l : Launch) (D : va_G) (Y : Nat → ClassId) (a : Nat → Nat) (M : kN) (days : Int32) (hI : cI M) : kM l yX3_passDays wX3_passDays rX3_passDays D Y (wM Y a M) [.ref (a 0), .int days] kX0 (kQi D (fun r u => r = (cPass M days).1 ∧ u = (cPass M days).2) (fun u => wM Y a u)) := by
  refine kentry (cc := cX3_passDays) (maxL := 3) (ret := (some .int)) (by decide +kernel) rfl (Nat.le_of_ble_eq_true rfl) ?_
  intro p e s m args below meth c A Q ls hQ hx hb hr hlocks hml hown hin hta hA hX hK hNs hP hD hS hl
  have hown : s.vm.findClass RX3 = some m.cls := hown
  have hl : lv_has ls 3 [(0, .ref (a 0)), (1, .int days)] := hl
  refine lv_iload_n hx hb dX3_passDays_0 rfl (lv_at hl 1 rfl) ?_
  refine lv_iconst (v := 1) hx hb dX3_passDays_1 (by decide) ?_
  refine lv_bipush (v := 99) hx hb dX3_passDays_2 (by decide) ?_
  refine kc_i (krSN (As := [.int days, .int 1, .int 99]) (rest := []) (c_X7_isWithin l D Y days 1 99) ⟨hx, hb, hml, hown, hta⟩ (cwX3_73 hta hNs ⟨Nat.le_of_ble_eq_true rfl, Nat.le_of_ble_eq_true rfl⟩) kX0b (fun _ _ _ => trivial) hK hNs hP hD (kJ_nil) rfl hl.1 rfl (Nat.le_of_ble_eq_true rfl) dX3_passDays_4 ⟨Nat.le_of_ble_eq_true rfl, Nat.le_of_ble_eq_true rfl⟩) hP hD hS hA (kJ_nil) (fun _ => rfl) (fun r1 u H locs hw hP hD hS => ?_)
  subst hw
  have hP : va_P D vwCl (wM Y a M) H := hP
  have hD : va_D A (wM Y a M) := hD
  by_cases c2 : pIn days 1 99
  · refine kTop (kb_t c2) ?_
    refine lv_if_ne (tgt := 13) hx hb dX3_passDays_7 (by decide) (fun _ => ?_) (fun h => False.elim (by revert h; decide))
    refine lv_aload_n hx hb dX3_passDays_13 rfl (lv_at hl 0 rfl) ?_
    refine gfX3_60 (v := .int (M 19 0)) hx hb hta hown hK hP 0 rfl rfl dX3_passDays_14 ?_
    refine lv_iload_n hx hb dX3_passDays_17 rfl (lv_at hl 1 rfl) ?_
    refine lv_iadd hx hb dX3_passDays_18 ?_
    refine lv_sipush (v := 1000) hx hb dX3_passDays_19 (by decide) ?_
    refine lv_icmp_le (tgt := 28) hx hb dX3_passDays_22 (by decide) (fun c3 => ?_) (fun c3 => ?_)
    · obtain ⟨dn, rfl, hd1, hd2⟩ := pIn_nat c2 (show (1 : Int32) = nI 1 from rfl) (show (99 : Int32) = nI 99 from rfl) (by omega) (by omega)
      refine lv_iconst (v := 0) hx hb dX3_passDays_28 (by decide) ?_
      refine lv_istore_n (lv' := [(2, .int 0), (0, .ref (a 0)), (1, .int (nI dn))]) hx hb dX3_passDays_29 rfl hl (by decide) rfl (fun ls hl => ?_)
      have loop30 : ∀ (n : Nat) (i : Nat) (N : kN), dn - i < n → cDays M 0 i = N → i ≤ dn → ∀ (H : Heap) (locs : List Loc), va_P D vwCl (wM Y a N) H → va_D A (wM Y a N) → va_S A s.heap H locs → ∀ (ls : Array Slot), lv_has ls 3 [(2, .int (nI i)), (0, .ref (a 0)), (1, .int (nI dn))] → W p l e rX3_passDays s m args below meth c H locs 0 0 Q (F0 m 30 ls []) := by
        intro n
        induction n with
        | zero => intro i N hmu; exact absurd hmu (Nat.not_lt_zero _)
        | succ n ih =>
          intro i N hmu hN hi H locs hP hD hS ls hl
          have hIN : cI N := hN ▸ cDays_I hI 0 i
          refine lv_iload_n hx hb dX3_passDays_30 rfl (lv_at hl 0 rfl) ?_
          refine lv_iload_n hx hb dX3_passDays_31 rfl (lv_at hl 2 rfl) ?_
          refine lv_icmp_ge (tgt := 46) hx hb dX3_passDays_32 (by decide) (fun c4 => ?_) (fun c4 => ?_)
          · have c4n : dn ≤ i := (nI_leI (a := dn) (b := i) (by omega) (by omega)).mp c4
            refine lv_aload_n hx hb dX3_passDays_46 rfl (lv_at hl 1 rfl) ?_
            refine gfX3_60 (v := .int (N 19 0)) hx hb hta hown hK hP 0 rfl rfl dX3_passDays_47 ?_
            exact kiret (N) hQ hx hb hr hlocks hP hS dX3_passDays_50 (by have hi2 : i = dn := (by omega); subst hi2; unfold cPass; rw [if_pos c2, if_pos c3, nI_clamp (by omega), hN]; exact ⟨rfl, rfl⟩)
          · have c4n : ¬ dn ≤ i := fun h => c4 ((nI_leI (a := dn) (b := i) (by omega) (by omega)).mpr h)
            refine lv_aload_n hx hb dX3_passDays_35 rfl (lv_at hl 1 rfl) ?_
            refine lv_iconst (v := 0) hx hb dX3_passDays_36 (by decide) ?_
            refine kTop (y := kb (nI i < 0)) (kb_f (nI_pos (by omega))).symm ?_
            refine kc_v (krV (As := [.int (kb (nI i < 0))]) (rest := []) (c_X3_passDay l D Y a N (nI i < 0) hIN) ⟨hx, hb, hml, hown, hta⟩ (cwX3_94 hta ⟨Nat.le_of_ble_eq_true rfl, Nat.le_of_ble_eq_true rfl⟩) kX0b (fun _ _ _ => trivial) hK hNs hP hD (kJ_all) (q0 := 0) rfl rfl rfl rfl hl.1 rfl (Nat.le_of_ble_eq_true rfl) dX3_passDays_37 ⟨Nat.le_of_ble_eq_true rfl, Nat.le_of_ble_eq_true rfl⟩) hP hD hS hA (kJ_all) (fun _ => rfl) (fun u H locs hw hP hD hS => ?_)
            subst hw
            have hP : va_P D vwCl (wM Y a (cDay N (nI i < 0))) H := hP
            have hD : va_D A (wM Y a (cDay N (nI i < 0))) := hD
            refine lv_iinc (v := nI (i + 1)) (lv' := [(2, .int (nI (i + 1))), (0, .ref (a 0)), (1, .int (nI dn))]) hx hb dX3_passDays_40 hl (k := 0) rfl (nI_add i 1) (by decide) rfl (fun ls hl => ?_)
            refine lv_goto (tgt := 30) hx hb dX3_passDays_43 (by decide) ?_
            exact ih (i + 1) (cDay N (nI i < 0)) (by omega) (by rw [← hN]; rfl) (by omega) _ _ hP hD hS ls (lv_sub hl [0, 1, 2] rfl)
      exact loop30 ((dn - 0) + 1) 0 M (Nat.lt_succ_self _) rfl (by omega) _ _ hP hD hS ls (lv_sub hl [0, 1, 2] rfl)
    · refine lv_bipush (v := (-5)) hx hb dX3_passDays_25 (by decide) ?_
      exact kiret (M) hQ hx hb hr hlocks hP hS dX3_passDays_27 (by unfold cPass; rw [if_pos c2, if_neg c3]; exact ⟨rfl, rfl⟩)
  · refine kTop (kb_f c2) ?_
    refine lv_if_ne (tgt := 13) hx hb dX3_passDays_7 (by decide) (fun h => False.elim (by revert h; decide)) (fun _ => ?_)
    refine lv_bipush (v := (-2)) hx hb dX3_passDays_10 (by decide) ?_
    exact kiret (M) hQ hx hb hr hlocks hP hS dX3_passDays_12 (by unfold cPass; rw [if_neg c2]; exact ⟨rfl, rfl⟩)
