set_option maxHeartbeats 4000000 in
set_option maxRecDepth 100000 in
theorem c_X3_bringLoads (l : Launch) (D : va_G) (Y : Nat → ClassId) (a : Nat → Nat) (M : kN) (hI : cI M) : kM l yX3_bringLoads wX3_bringLoads rX3_bringLoads D Y (wM Y a M) [.ref (a 0)] kX0 (kQv D (fun u => u = cBring M) (fun u => wM Y a u)) := by
  refine kentry (cc := cX3_bringLoads) (maxL := 3) (ret := none) (by decide +kernel) rfl (Nat.le_of_ble_eq_true rfl) ?_
  intro p e s m args below meth c A Q ls hQ hx hb hr hlocks hml hown hin hta hA hX hK hNs hP hD hS hl
  have hown : s.vm.findClass RX3 = some m.cls := hown
  have hl : lv_has ls 3 [(0, .ref (a 0))] := hl
  have h20 := hI.t20
  refine lv_iconst (v := 0) hx hb dX3_bringLoads_0 (by decide) ?_
  refine lv_istore_n (lv' := [(1, .int 0), (0, .ref (a 0))]) hx hb dX3_bringLoads_1 rfl hl (by decide) rfl (fun ls hl => ?_)
  have loop2 : ∀ (n : Nat) (t : Nat) (N : kN), nT M - t < n → cBringTo M t = N → t ≤ nT M → ∀ (H : Heap) (locs : List Loc), va_P D vwCl (wM Y a N) H → va_D A (wM Y a N) → va_S A s.heap H locs → ∀ (ls : Array Slot), lv_has ls 3 [(1, .int (nI t)), (0, .ref (a 0))] → W p l e rX3_bringLoads s m args below meth c H locs 0 0 Q (F0 m 2 ls []) := by
    intro n
    induction n with
    | zero => intro t N hmu; exact absurd hmu (Nat.not_lt_zero _)
    | succ n ih =>
      intro t N hmu hN ht H locs hP hD hS ls hl
      obtain ⟨hIN, eF, e0⟩ : cI N ∧ nF N = nF M ∧ ∀ k, N 0 k = M 0 k := hN ▸ cBringTo_I hI t
      have eT : N 0 0 = nI (nT M) := by rw [e0, hI.t]
      refine lv_iload_n hx hb dX3_bringLoads_2 rfl (lv_at hl 0 rfl) ?_
      refine lv_aload_n hx hb dX3_bringLoads_3 rfl (lv_at hl 1 rfl) ?_
      refine gfX3_9 (v := .ref (a 1)) hx hb hta hown hK hP 0 rfl rfl dX3_bringLoads_4 ?_
      refine lv_iconst (v := 0) hx hb dX3_bringLoads_7 (by decide) ?_
      refine kiald (f := N 0) hx hb hK hP 1 rfl 0 rfl (by omega) (by omega) dX3_bringLoads_8 ?_
      refine kTop eT ?_
      refine lv_icmp_ge (tgt := 35) hx hb dX3_bringLoads_9 (by decide) (fun c1 => ?_) (fun c1 => ?_)
      · have c1n : (nT M) ≤ t := (nI_leI (a := nT M) (b := t) (by omega) (by omega)).mp c1
        exact kvret (N) hQ hx hb hr hlocks hP hS dX3_bringLoads_35 (by have ht2 : t = nT M := (by omega); subst ht2; exact hN.symm)
      · have c1n : ¬ (nT M) ≤ t := fun h => c1 ((nI_leI (a := nT M) (b := t) (by omega) (by omega)).mpr h)
        refine lv_aload_n hx hb dX3_bringLoads_12 rfl (lv_at hl 1 rfl) ?_
        refine kc_i (krV (As := []) (rest := []) (c_X3_nextField l D Y a N hIN) ⟨hx, hb, hml, hown, hta⟩ (cwX3_126 hta ⟨Nat.le_of_ble_eq_true rfl, Nat.le_of_ble_eq_true rfl⟩) kX0b (fun _ _ _ => trivial) hK hNs hP hD (kJ_all) (q0 := 0) rfl rfl rfl rfl hl.1 rfl (Nat.le_of_ble_eq_true rfl) dX3_bringLoads_13 ⟨Nat.le_of_ble_eq_true rfl, Nat.le_of_ble_eq_true rfl⟩) hP hD hS hA (kJ_all) (fun _ => rfl) (fun r2 u H locs hw hP hD hS => ?_)
        subst hw
        have hP : va_P D vwCl (wM Y a N) H := hP
        have hD : va_D A (wM Y a N) := hD
        rcases hc : cNextO N with _ | f
        · refine kTop (y := (-6)) rfl ?_
          refine lv_istore_n (lv' := [(2, .int (-6)), (1, .int (nI t)), (0, .ref (a 0))]) hx hb dX3_bringLoads_16 rfl hl (by decide) rfl (fun ls hl => ?_)
          refine lv_iload_n hx hb dX3_bringLoads_17 rfl (lv_at hl 0 rfl) ?_
          refine lv_bipush (v := (-6)) hx hb dX3_bringLoads_18 (by decide) ?_
          refine lv_icmp_ne (tgt := 24) hx hb dX3_bringLoads_20 (by decide) (fun h => absurd rfl h) (fun _ => ?_)
          exact kvret (N) hQ hx hb hr hlocks hP hS dX3_bringLoads_23 (by have e := cBringTo_stop (M := M) (t := t) (by rw [hN]; exact hc) (nT M - t); rw [show t + (nT M - t) = nT M by omega, hN] at e; exact e.symm)
        · refine kTop (y := nI f) rfl ?_
          have hfN : f < nF N := cNextO_lt hc
          have h30N := hIN.f30
          refine lv_istore_n (lv' := [(2, .int (nI f)), (1, .int (nI t)), (0, .ref (a 0))]) hx hb dX3_bringLoads_16 rfl hl (by decide) rfl (fun ls hl => ?_)
          refine lv_iload_n hx hb dX3_bringLoads_17 rfl (lv_at hl 0 rfl) ?_
          refine lv_bipush (v := (-6)) hx hb dX3_bringLoads_18 (by decide) ?_
          refine lv_icmp_ne (tgt := 24) hx hb dX3_bringLoads_20 (by decide) (fun _ => ?_) (fun h => absurd h (oI_ne (by omega)))
          refine lv_aload_n hx hb dX3_bringLoads_24 rfl (lv_at hl 2 rfl) ?_
          refine lv_iload_n hx hb dX3_bringLoads_25 rfl (lv_at hl 0 rfl) ?_
          refine kc_v (krV (As := [.int (nI f)]) (rest := []) (c_X3_bringLoad l D Y a N f hIN hfN) ⟨hx, hb, hml, hown, hta⟩ (cwX3_130 hta ⟨Nat.le_of_ble_eq_true rfl, Nat.le_of_ble_eq_true rfl⟩) kX0b (fun _ _ _ => trivial) hK hNs hP hD (kJ_all) (q0 := 0) rfl rfl rfl rfl hl.1 rfl (Nat.le_of_ble_eq_true rfl) dX3_bringLoads_26 ⟨Nat.le_of_ble_eq_true rfl, Nat.le_of_ble_eq_true rfl⟩) hP hD hS hA (kJ_all) (fun _ => rfl) (fun u H locs hw hP hD hS => ?_)
          subst hw
          have hP : va_P D vwCl (wM Y a (cBringLoad N f)) H := hP
          have hD : va_D A (wM Y a (cBringLoad N f)) := hD
          refine lv_iinc (v := nI (t + 1)) (lv' := [(1, .int (nI (t + 1))), (2, .int (nI f)), (0, .ref (a 0))]) hx hb dX3_bringLoads_29 hl (k := 1) rfl (nI_add t 1) (by decide) rfl (fun ls hl => ?_)
          refine lv_goto (tgt := 2) hx hb dX3_bringLoads_32 (by decide) ?_
          exact ih (t + 1) (cBringLoad N f) (by omega) (by show cBringStep (cBringTo M t) = _; rw [hN, cBringStep_s hc]) (by omega) _ _ hP hD hS ls (lv_sub hl [0, 2] rfl)
  exact loop2 ((nT M - 0) + 1) 0 M (Nat.lt_succ_self _) rfl (by omega) _ _ hP hD hS ls (lv_sub hl [0, 1] rfl)
set_option maxHeartbeats 4000000 in
set_option maxRecDepth 100000 in
theorem c_X5_isStopped (l : Launch) (D : va_G) (Y : Nat → ClassId) (a : Nat → Nat) (M : kN) (d : Int32) (hI : cI M) : kM l yX5_isStopped wX5_isStopped rX5_isStopped D Y (wM Y a M) [.ref (a 17), .int d] kX0 (kQi D (fun r (_ : Unit) => r = kb (cStopped M d = true)) (fun _ => wM Y a M)) := by
  refine kentry (cc := cX5_isStopped) (maxL := 3) (ret := (some .boolean)) (by decide +kernel) rfl (Nat.le_of_ble_eq_true rfl) ?_
  intro p e s m args below meth c A Q ls hQ hx hb hr hlocks hml hown hin hta hA hX hK hNs hP hD hS hl
  have hown : s.vm.findClass RX5 = some m.cls := hown
  have hl : lv_has ls 3 [(0, .ref (a 17)), (1, .int d)] := hl
  have h5 := hI.s5
  refine lv_iconst (v := 0) hx hb dX5_isStopped_0 (by decide) ?_
  refine lv_istore_n (lv' := [(2, .int 0), (0, .ref (a 17)), (1, .int d)]) hx hb dX5_isStopped_1 rfl hl (by decide) rfl (fun ls hl => ?_)
  have loop2 : ∀ (n : Nat) (k : Nat), nS M - k < n → cStopTo M d k = false → k ≤ nS M → ∀ (H : Heap) (locs : List Loc), va_P D vwCl (wM Y a M) H → va_D A (wM Y a M) → va_S A s.heap H locs → ∀ (ls : Array Slot), lv_has ls 3 [(2, .int (nI k)), (0, .ref (a 17)), (1, .int d)] → W p l e rX5_isStopped s m args below meth c H locs 0 0 Q (F0 m 2 ls []) := by
    intro n
    induction n with
    | zero => intro k hmu; exact absurd hmu (Nat.not_lt_zero _)
    | succ n ih =>
      intro k hmu ho hk H locs hP hD hS ls hl
      refine lv_iload_n hx hb dX5_isStopped_2 rfl (lv_at hl 0 rfl) ?_
      refine lv_aload_n hx hb dX5_isStopped_3 rfl (lv_at hl 1 rfl) ?_
      refine gfX5_18 (v := .int (M 19 5)) hx hb hta hown hK hP 17 rfl rfl dX5_isStopped_4 ?_
      refine kTop hI.s ?_
      refine lv_icmp_ge (tgt := 37) hx hb dX5_isStopped_7 (by decide) (fun c1 => ?_) (fun c1 => ?_)
      · have c1n : (nS M) ≤ k := (nI_leI (a := nS M) (b := k) (by omega) (by omega)).mp c1
        refine lv_iconst (v := 0) hx hb dX5_isStopped_37 (by decide) ?_
        exact kzret (()) hQ hx hb hr hlocks hP hS dX5_isStopped_38 (by first | exact Or.inl rfl | exact Or.inr rfl | exact kb_01 _) (by have hk2 : k = nS M := (by omega); subst hk2; refine (kb_f ?_).symm; unfold cStopped; rw [ho]; decide)
      · have c1n : ¬ (nS M) ≤ k := fun h => c1 ((nI_leI (a := nS M) (b := k) (by omega) (by omega)).mpr h)
        refine lv_iload_n hx hb dX5_isStopped_10 rfl (lv_at hl 2 rfl) ?_
        refine lv_aload_n hx hb dX5_isStopped_11 rfl (lv_at hl 1 rfl) ?_
        refine gfX5_9 (v := .ref (a 18)) hx hb hta hown hK hP 17 rfl rfl dX5_isStopped_12 ?_
        refine lv_iload_n hx hb dX5_isStopped_15 rfl (lv_at hl 0 rfl) ?_
        refine kiald (f := M 14) hx hb hK hP 18 rfl k rfl (by omega) (by omega) dX5_isStopped_16 ?_
        refine lv_aload_n hx hb dX5_isStopped_17 rfl (lv_at hl 1 rfl) ?_
        refine gfX5_15 (v := .ref (a 19)) hx hb hta hown hK hP 17 rfl rfl dX5_isStopped_18 ?_
        refine lv_iload_n hx hb dX5_isStopped_21 rfl (lv_at hl 0 rfl) ?_
        refine kiald (f := M 15) hx hb hK hP 19 rfl k rfl (by omega) (by omega) dX5_isStopped_22 ?_
        refine kc_i (krSN (As := [.int d, .int (M 14 k), .int (M 15 k)]) (rest := []) (c_X7_isWithin l D Y d (M 14 k) (M 15 k)) ⟨hx, hb, hml, hown, hta⟩ (cwX5_26 hta hNs ⟨Nat.le_of_ble_eq_true rfl, Nat.le_of_ble_eq_true rfl⟩) kX0b (fun _ _ _ => trivial) hK hNs hP hD (kJ_nil) rfl hl.1 rfl (Nat.le_of_ble_eq_true rfl) dX5_isStopped_23 ⟨Nat.le_of_ble_eq_true rfl, Nat.le_of_ble_eq_true rfl⟩) hP hD hS hA (kJ_nil) (fun _ => rfl) (fun r2 u H locs hw hP hD hS => ?_)
        subst hw
        have hP : va_P D vwCl (wM Y a M) H := hP
        have hD : va_D A (wM Y a M) := hD
        by_cases c3 : pIn d (M 14 k) (M 15 k)
        · refine kTop (kb_t c3) ?_
          refine lv_if_eq (tgt := 31) hx hb dX5_isStopped_26 (by decide) (fun h => False.elim (by revert h; decide)) (fun _ => ?_)
          refine lv_iconst (v := 1) hx hb dX5_isStopped_29 (by decide) ?_
          exact kzret (()) hQ hx hb hr hlocks hP hS dX5_isStopped_30 (by first | exact Or.inl rfl | exact Or.inr rfl | exact kb_01 _) (by refine (kb_t ?_).symm; have e : cStopTo M d (k + 1) = true := by { show (cStopTo M d k || decide (pIn d (M 14 k) (M 15 k))) = true; rw [decide_eq_true c3, Bool.or_true] }; have e2 := cStopTo_on e (nS M - (k + 1)); rw [show k + 1 + (nS M - (k + 1)) = nS M by omega] at e2; exact e2)
        · refine kTop (kb_f c3) ?_
          refine lv_if_eq (tgt := 31) hx hb dX5_isStopped_26 (by decide) (fun _ => ?_) (fun h => False.elim (by revert h; decide))
          refine lv_iinc (v := nI (k + 1)) (lv' := [(2, .int (nI (k + 1))), (0, .ref (a 17)), (1, .int d)]) hx hb dX5_isStopped_31 hl (k := 0) rfl (nI_add k 1) (by decide) rfl (fun ls hl => ?_)
          refine lv_goto (tgt := 2) hx hb dX5_isStopped_34 (by decide) ?_
          exact ih (k + 1) (by omega) (by show (cStopTo M d k || decide (pIn d (M 14 k) (M 15 k))) = false; rw [ho]; simp only [decide_eq_false c3]; rfl) (by omega) _ _ hP hD hS ls (lv_sub hl [0, 1, 2] rfl)
  exact loop2 ((nS M - 0) + 1) 0 (Nat.lt_succ_self _) rfl (by omega) _ _ hP hD hS ls (lv_sub hl [0, 1, 2] rfl)
set_option maxHeartbeats 4000000 in
set_option maxRecDepth 100000 in
theorem c_X3_crushPart (l : Launch) (D : va_G) (Y : Nat → ClassId) (a : Nat → Nat) (M : kN) (f : Nat) (t : Int32) (hf : f < 30) (hg : M 6 f = nI (gr M f) ∧ gr M f < 6) : kM l yX3_crushPart wX3_crushPart rX3_crushPart D Y (wM Y a M) [.ref (a 0), .int (nI f), .int t] kX0 (kQv D (fun u => u = cCrushPart M f t) (fun u => wM Y a u)) := by
  refine kentry (cc := cX3_crushPart) (maxL := 5) (ret := none) (by decide +kernel) rfl (Nat.le_of_ble_eq_true rfl) ?_
  intro p e s m args below meth c A Q ls hQ hx hb hr hlocks hml hown hin hta hA hX hK hNs hP hD hS hl
  have hown : s.vm.findClass RX3 = some m.cls := hown
  have hl : lv_has ls 5 [(0, .ref (a 0)), (1, .int (nI f)), (2, .int t)] := hl
  refine lv_aload_n hx hb dX3_crushPart_0 rfl (lv_at hl 0 rfl) ?_
  refine gfX3_25 (v := .ref (a 8)) hx hb hta hown hK hP 0 rfl rfl dX3_crushPart_1 ?_
  refine gfX3_119 (v := .ref (a 9)) hx hb hta hown hK hP 8 rfl rfl dX3_crushPart_4 ?_
  refine lv_iload_n hx hb dX3_crushPart_7 rfl (lv_at hl 1 rfl) ?_
  refine kiald (f := M 6) hx hb hK hP 9 rfl f rfl (by omega) (by omega) dX3_crushPart_8 ?_
  refine kTop hg.1 ?_
  refine lv_istore_n (lv' := [(3, .int (nI (gr M f))), (0, .ref (a 0)), (1, .int (nI f)), (2, .int t)]) hx hb dX3_crushPart_9 rfl hl (by decide) rfl (fun ls hl => ?_)
  refine lv_aload_n hx hb dX3_crushPart_10 rfl (lv_at hl 1 rfl) ?_
  refine gfX3_25 (v := .ref (a 8)) hx hb hta hown hK hP 0 rfl rfl dX3_crushPart_11 ?_
  refine lv_iload_n hx hb dX3_crushPart_14 rfl (lv_at hl 2 rfl) ?_
  refine lv_aload_n hx hb dX3_crushPart_15 rfl (lv_at hl 1 rfl) ?_
  refine gfX3_60 (v := .int (M 19 0)) hx hb hta hown hK hP 0 rfl rfl dX3_crushPart_16 ?_
  refine lv_aload_n hx hb dX3_crushPart_19 rfl (lv_at hl 1 rfl) ?_
  refine gfX3_9 (v := .ref (a 1)) hx hb hta hown hK hP 0 rfl rfl dX3_crushPart_20 ?_
  refine lv_iconst (v := 4) hx hb dX3_crushPart_23 (by decide) ?_
  refine kiald (f := M 0) hx hb hK hP 1 rfl 4 rfl (by omega) (by omega) dX3_crushPart_24 ?_
  refine kc_i (krV (As := [.int (nI f), .int (M 19 0), .int (M 0 4)]) (rest := []) (c_X0_purityOn l D Y a M f (M 19 0) (M 0 4) (hf)) ⟨hx, hb, hml, hown, hta⟩ (cwX3_187 hta ⟨Nat.le_of_ble_eq_true rfl, Nat.le_of_ble_eq_true rfl⟩) kX0b (fun _ _ _ => trivial) hK hNs hP hD (kJ_all) (q0 := 8) rfl rfl rfl rfl hl.1 rfl (Nat.le_of_ble_eq_true rfl) dX3_crushPart_25 ⟨Nat.le_of_ble_eq_true rfl, Nat.le_of_ble_eq_true rfl⟩) hP hD hS hA (kJ_all) (fun _ => rfl) (fun r1 u H locs hw hP hD hS => ?_)
  subst hw
  have hP : va_P D vwCl (wM Y a M) H := hP
  have hD : va_D A (wM Y a M) := hD
  refine lv_istore (lv' := [(4, .int (sPur (M 9 f) (M 8 f) (M 19 0) (M 0 4))), (3, .int (nI (gr M f))), (0, .ref (a 0)), (1, .int (nI f)), (2, .int t)]) hx hb dX3_crushPart_28 hl (by decide) rfl (fun ls hl => ?_)
  refine lv_aload_n hx hb dX3_crushPart_30 rfl (lv_at hl 2 rfl) ?_
  refine lv_dup hx hb dX3_crushPart_31 rfl ?_
  refine gfX3_64 (v := .int (M 19 1)) hx hb hta hown hK hP 0 rfl rfl dX3_crushPart_32 ?_
  refine lv_iload_n hx hb dX3_crushPart_35 rfl (lv_at hl 4 rfl) ?_
  refine lv_iload hx hb dX3_crushPart_36 (lv_at hl 0 rfl) ?_
  refine lv_imul hx hb dX3_crushPart_38 ?_
  refine lv_bipush (v := 100) hx hb dX3_crushPart_39 (by decide) ?_
  refine lv_idiv hx hb dX3_crushPart_41 (by decide) ?_
  refine lv_iadd hx hb dX3_crushPart_42 ?_
  refine pfX3_64 (ws1 := wM Y a (sM M 19 1 ((M 19 1) + ((t * (sPur (M 9 f) (M 8 f) (M 19 0) (M 0 4))) / 100)))) hx hb hta hown hK hP hD hS 0 rfl (Nat.le_of_ble_eq_true rfl) rfl dX3_crushPart_43 (fun H locs hP hD hS => ?_)
  refine lv_aload_n hx hb dX3_crushPart_46 rfl (lv_at hl 2 rfl) ?_
  refine gfX3_18 (v := .ref (a 2)) hx hb hta hown hK hP 0 rfl rfl dX3_crushPart_47 ?_
  refine gfX3_191 (v := .ref (a 7)) hx hb hta hown hK hP 2 rfl rfl dX3_crushPart_50 ?_
  refine lv_iload_n hx hb dX3_crushPart_53 rfl (lv_at hl 1 rfl) ?_
  refine lv_dup2_11 hx hb dX3_crushPart_54 rfl rfl ?_
  refine kiald (f := M 5) hx hb hK hP 7 rfl (gr M f) rfl (hg.2) (by omega) dX3_crushPart_55 ?_
  refine lv_iload_n hx hb dX3_crushPart_56 rfl (lv_at hl 4 rfl) ?_
  refine lv_iload hx hb dX3_crushPart_57 (lv_at hl 0 rfl) ?_
  refine lv_imul hx hb dX3_crushPart_59 ?_
  refine lv_aload_n hx hb dX3_crushPart_60 rfl (lv_at hl 2 rfl) ?_
  refine gfX3_9 (v := .ref (a 1)) hx hb hta hown hK hP 0 rfl rfl dX3_crushPart_61 ?_
  refine lv_bipush (v := 6) hx hb dX3_crushPart_64 (by decide) ?_
  refine kiald (f := M 0) hx hb hK hP 1 rfl 6 rfl (by omega) (by omega) dX3_crushPart_66 ?_
  refine lv_imul hx hb dX3_crushPart_67 ?_
  refine lv_bipush (v := 100) hx hb dX3_crushPart_68 (by decide) ?_
  refine lv_idiv hx hb dX3_crushPart_70 (by decide) ?_
  refine lv_iadd hx hb dX3_crushPart_71 ?_
  refine kiast (f := M 5) hx hb hK hP hD hS 7 rfl (gr M f) rfl (hg.2) (by omega) dX3_crushPart_72 (wM Y a (sM (sM M 19 1 ((M 19 1) + ((t * (sPur (M 9 f) (M 8 f) (M 19 0) (M 0 4))) / 100))) 5 (gr M f) ((M 5 (gr M f)) + (((t * (sPur (M 9 f) (M 8 f) (M 19 0) (M 0 4))) * (M 0 6)) / 100)))) rfl (fun H locs hP hD hS => ?_)
  refine lv_aload_n hx hb dX3_crushPart_73 rfl (lv_at hl 2 rfl) ?_
  refine gfX3_18 (v := .ref (a 2)) hx hb hta hown hK hP 0 rfl rfl dX3_crushPart_74 ?_
  refine gfX3_194 (v := .ref (a 5)) hx hb hta hown hK hP 2 rfl rfl dX3_crushPart_77 ?_
  refine lv_iload_n hx hb dX3_crushPart_80 rfl (lv_at hl 1 rfl) ?_
  refine lv_dup2_11 hx hb dX3_crushPart_81 rfl rfl ?_
  refine kiald (f := M 3) hx hb hK hP 5 rfl (gr M f) rfl (hg.2) (by omega) dX3_crushPart_82 ?_
  refine lv_iload_n hx hb dX3_crushPart_83 rfl (lv_at hl 4 rfl) ?_
  refine lv_iadd hx hb dX3_crushPart_84 ?_
  refine kiast (f := M 3) hx hb hK hP hD hS 5 rfl (gr M f) rfl (hg.2) (by omega) dX3_crushPart_85 (wM Y a (sM (sM (sM M 19 1 ((M 19 1) + ((t * (sPur (M 9 f) (M 8 f) (M 19 0) (M 0 4))) / 100))) 5 (gr M f) ((M 5 (gr M f)) + (((t * (sPur (M 9 f) (M 8 f) (M 19 0) (M 0 4))) * (M 0 6)) / 100))) 3 (gr M f) ((M 3 (gr M f)) + t))) rfl (fun H locs hP hD hS => ?_)
  refine lv_aload_n hx hb dX3_crushPart_86 rfl (lv_at hl 2 rfl) ?_
  refine gfX3_25 (v := .ref (a 8)) hx hb hta hown hK hP 0 rfl rfl dX3_crushPart_87 ?_
  refine gfX3_165 (v := .ref (a 14)) hx hb hta hown hK hP 8 rfl rfl dX3_crushPart_90 ?_
  refine lv_iload_n hx hb dX3_crushPart_93 rfl (lv_at hl 3 rfl) ?_
  refine lv_dup2_11 hx hb dX3_crushPart_94 rfl rfl ?_
  refine kiald (f := M 11) hx hb hK hP 14 rfl f rfl (by omega) (by omega) dX3_crushPart_95 ?_
  refine lv_iload_n hx hb dX3_crushPart_96 rfl (lv_at hl 4 rfl) ?_
  refine lv_isub hx hb dX3_crushPart_97 ?_
  refine kiast (f := M 11) hx hb hK hP hD hS 14 rfl f rfl (by omega) (by omega) dX3_crushPart_98 (wM Y a (sM (sM (sM (sM M 19 1 ((M 19 1) + ((t * (sPur (M 9 f) (M 8 f) (M 19 0) (M 0 4))) / 100))) 5 (gr M f) ((M 5 (gr M f)) + (((t * (sPur (M 9 f) (M 8 f) (M 19 0) (M 0 4))) * (M 0 6)) / 100))) 3 (gr M f) ((M 3 (gr M f)) + t)) 11 f ((M 11 f) - t))) rfl (fun H locs hP hD hS => ?_)
  refine lv_aload_n hx hb dX3_crushPart_99 rfl (lv_at hl 2 rfl) ?_
  refine gfX3_25 (v := .ref (a 8)) hx hb hta hown hK hP 0 rfl rfl dX3_crushPart_100 ?_
  refine gfX3_197 (v := .ref (a 15)) hx hb hta hown hK hP 8 rfl rfl dX3_crushPart_103 ?_
  refine lv_iload_n hx hb dX3_crushPart_106 rfl (lv_at hl 3 rfl) ?_
  refine lv_dup2_11 hx hb dX3_crushPart_107 rfl rfl ?_
  refine kiald (f := M 12) hx hb hK hP 15 rfl f rfl (by omega) (by omega) dX3_crushPart_108 ?_
  refine lv_iload_n hx hb dX3_crushPart_109 rfl (lv_at hl 4 rfl) ?_
  refine lv_iadd hx hb dX3_crushPart_110 ?_
  refine kiast (f := M 12) hx hb hK hP hD hS 15 rfl f rfl (by omega) (by omega) dX3_crushPart_111 (wM Y a (sM (sM (sM (sM (sM M 19 1 ((M 19 1) + ((t * (sPur (M 9 f) (M 8 f) (M 19 0) (M 0 4))) / 100))) 5 (gr M f) ((M 5 (gr M f)) + (((t * (sPur (M 9 f) (M 8 f) (M 19 0) (M 0 4))) * (M 0 6)) / 100))) 3 (gr M f) ((M 3 (gr M f)) + t)) 11 f ((M 11 f) - t)) 12 f ((M 12 f) + t))) rfl (fun H locs hP hD hS => ?_)
  exact kvret (sM (sM (sM (sM (sM M 19 1 ((M 19 1) + ((t * (sPur (M 9 f) (M 8 f) (M 19 0) (M 0 4))) / 100))) 5 (gr M f) ((M 5 (gr M f)) + (((t * (sPur (M 9 f) (M 8 f) (M 19 0) (M 0 4))) * (M 0 6)) / 100))) 3 (gr M f) ((M 3 (gr M f)) + t)) 11 f ((M 11 f) - t)) 12 f ((M 12 f) + t)) hQ hx hb hr hlocks hP hS dX3_crushPart_112 rfl
