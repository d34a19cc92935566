set_option maxHeartbeats 4000000 in
set_option maxRecDepth 100000 in
theorem c_X8_leastTrucks (l : Launch) (D : va_G) (Y : Nat → ClassId) (b : Nat → Nat) (R : kN) (d : Int32) (hZ : mX (R 0)) (hQ0 : mQ (R 0)) : kM l yX8_leastTrucks wX8_leastTrucks rX8_leastTrucks D Y (wR Y b R) [.ref (b 0), .int d] kX0 (kQi D (fun r u => r = mLeastTr (R 0) d ∧ ∃ T, u = sR R 1 T) (fun u => wR Y b u)) := by
  refine kentry (cc := cX8_leastTrucks) (maxL := 3) (ret := (some .int)) (by decide +kernel) rfl (Nat.le_of_ble_eq_true rfl) ?_
  intro p e s0 m args below meth c A Q ls hQ hx hb hr hlocks hml hown hin hta hA hX0 hK hNs hP hD hS hl
  have hown : s0.vm.findClass RX8 = some m.cls := hown
  have hl : lv_has ls 3 [(0, .ref (b 0)), (1, .int d)] := hl
  refine lv_iload_n hx hb dX8_leastTrucks_0 rfl (lv_at hl 1 rfl) ?_
  refine lv_iconst (v := 1) hx hb dX8_leastTrucks_1 (by decide) ?_
  refine lv_sipush (v := 300) hx hb dX8_leastTrucks_2 (by decide) ?_
  refine kc_i (krS (As := [.int d, .int 1, .int 300]) (rest := []) (c_X8_in l D Y d 1 300) ⟨hx, hb, hml, hown, hta⟩ (cwX8_32 hta ⟨Nat.le_of_ble_eq_true rfl, Nat.le_of_ble_eq_true rfl⟩) kX0b (fun _ _ _ => trivial) hK hNs hP hD (kJ_nil) rfl hl.1 rfl (Nat.le_of_ble_eq_true rfl) dX8_leastTrucks_5 ⟨Nat.le_of_ble_eq_true rfl, Nat.le_of_ble_eq_true rfl⟩) hP hD hS hA (kJ_nil) (fun _ => rfl) (fun r1 u H locs hw hP hD hS => ?_)
  subst hw
  have hP : va_P D vwCl (wR Y b R) H := hP
  have hD : va_D A (wR Y b R) := hD
  by_cases c2 : pIn d 1 300
  · refine kTop (kb_t c2) ?_
    refine lv_if_ne (tgt := 14) hx hb dX8_leastTrucks_8 (by decide) (fun _ => ?_) (fun h => False.elim (by revert h; decide))
    obtain ⟨j, rfl, hjl, hjh⟩ := pIn_nat c2 (show (1 : Int32) = nI 1 from rfl) (show (300 : Int32) = nI 300 from rfl) (by omega) (by omega)
    refine lv_iconst (v := 0) hx hb dX8_leastTrucks_14 (by decide) ?_
    have hP : va_P D vwCl (wR Y b (sR R 1 (R 1))) H := by rw [sR_id]; exact hP
    have hD : va_D A (wR Y b (sR R 1 (R 1))) := by rw [sR_id]; exact hD
    refine lv_istore_n (lv' := [(2, .int 0), (0, .ref (b 0)), (1, .int (nI j))]) hx hb dX8_leastTrucks_15 rfl hl (by decide) rfl (fun ls hl => ?_)
    have loop16 : ∀ (n : Nat) (v : Nat) (T : kS), 21 - v < n → mLeastFrom (R 0) j 0 21 = mLeastFrom (R 0) j v (21 - v) → v ≤ 21 → ∀ (H : Heap) (locs : List Loc), va_P D vwCl (wR Y b (sR R 1 (T))) H → va_D A (wR Y b (sR R 1 (T))) → va_S A s0.heap H locs → ∀ (ls : Array Slot), lv_has ls 3 [(2, .int (nI v)), (0, .ref (b 0)), (1, .int (nI j))] → W p l e rX8_leastTrucks s0 m args below meth c H locs 0 0 Q (F0 m 16 ls []) := by
      intro n
      induction n with
      | zero => intro v T hmu; exact absurd hmu (Nat.not_lt_zero _)
      | succ n ih =>
        intro v T hmu hL hv H locs hP hD hS ls hl
        refine lv_iload_n hx hb dX8_leastTrucks_16 rfl (lv_at hl 0 rfl) ?_
        refine lv_bipush (v := 20) hx hb dX8_leastTrucks_17 (by decide) ?_
        refine lv_icmp_gt (tgt := 73) hx hb dX8_leastTrucks_19 (by decide) (fun c3 => ?_) (fun c3 => ?_)
        · have c3n : 20 < v := (nI_ltI (a := 20) (b := v) (by omega) (by omega)).mp c3
          refine lv_bipush (v := (-6)) hx hb dX8_leastTrucks_73 (by decide) ?_
          exact kiret (sR R 1 (T)) hQ hx hb hr hlocks hP hS dX8_leastTrucks_75 (by refine ⟨?_, _, rfl⟩; have hv2 : v = 21 := (by omega); subst hv2; unfold mLeastTr; rw [if_pos c2, nI_clamp (n := j) (by omega), hL]; rfl)
        · have c3n : ¬ 20 < v := fun h => c3 ((nI_ltI (a := 20) (b := v) (by omega) (by omega)).mpr h)
          refine lv_aload_n hx hb dX8_leastTrucks_22 rfl (lv_at hl 1 rfl) ?_
          refine gfX8_7 (v := .ref (b 1)) hx hb hta hown hK hP 0 rfl rfl dX8_leastTrucks_23 ?_
          refine lv_iconst (v := 0) hx hb dX8_leastTrucks_26 (by decide) ?_
          refine lv_aload_n hx hb dX8_leastTrucks_27 rfl (lv_at hl 1 rfl) ?_
          refine gfX8_13 (v := .ref (b 2)) hx hb hta hown hK hP 0 rfl rfl dX8_leastTrucks_28 ?_
          refine lv_iconst (v := 0) hx hb dX8_leastTrucks_31 (by decide) ?_
          refine kc_v (krS (As := [.ref (b 1), .int 0, .ref (b 2), .int 0]) (rest := []) (c_X8_lays l D Y (b 1) 1497 (R 0) 0 (b 2) 1497 (T) 0 (by omega) (by omega) (by omega) (by omega)) ⟨hx, hb, hml, hown, hta⟩ (cwX8_40 hta ⟨Nat.le_of_ble_eq_true rfl, Nat.le_of_ble_eq_true rfl⟩) kX0b (fun _ _ _ => trivial) hK hNs hP hD (kJ_sub [1, 2] rfl rfl) rfl hl.1 rfl (Nat.le_of_ble_eq_true rfl) dX8_leastTrucks_32 ⟨Nat.le_of_ble_eq_true rfl, Nat.le_of_ble_eq_true rfl⟩) hP hD hS hA (kJ_sub [1, 2] rfl rfl) (fun _ => rfl) (fun u H locs hw hP hD hS => ?_)
          have hP : va_P D vwCl (wR Y b (sR R 1 (kcy (R 0) (T) 0 0 1497))) H := hP
          have hD : va_D A (wR Y b (sR R 1 (kcy (R 0) (T) 0 0 1497))) := hD
          have hP : va_P D vwCl (wR Y b (sR R 1 (R 0))) H := kRow 2 hP rfl (fun j hj => kcy_full _ _ hj)
          have hD : va_D A (wR Y b (sR R 1 (R 0))) := wR_D hD
          refine lv_aload_n hx hb dX8_leastTrucks_35 rfl (lv_at hl 1 rfl) ?_
          refine gfX8_13 (v := .ref (b 2)) hx hb hta hown hK hP 0 rfl rfl dX8_leastTrucks_36 ?_
          refine lv_iconst (v := 3) hx hb dX8_leastTrucks_39 (by decide) ?_
          refine lv_iload_n hx hb dX8_leastTrucks_40 rfl (lv_at hl 0 rfl) ?_
          refine kiast (f := R 0) hx hb hK hP hD hS 2 rfl 3 rfl (by omega) (by omega) dX8_leastTrucks_41 (wR Y b (sR R 1 (upd (R 0) 3 (nI v)))) rfl (fun H locs hP hD hS => ?_)
          refine lv_aload_n hx hb dX8_leastTrucks_42 rfl (lv_at hl 1 rfl) ?_
          refine lv_iload_n hx hb dX8_leastTrucks_43 rfl (lv_at hl 2 rfl) ?_
          refine lv_iconst (v := 0) hx hb dX8_leastTrucks_44 (by decide) ?_
          refine kc_v (krV (As := [.int (nI j), .int 0]) (rest := []) (c_X8_tries l D Y b R (upd (R 0) 3 (nI v)) j 0 (mX_trucks hZ (by omega)) (mQ_upd hQ0 (by omega) (by omega) (by omega)) (by omega)) ⟨hx, hb, hml, hown, hta⟩ (cwX8_148 hta ⟨Nat.le_of_ble_eq_true rfl, Nat.le_of_ble_eq_true rfl⟩) kX0b (fun _ _ _ => trivial) hK hNs hP hD (kJ_all) (q0 := 0) rfl rfl rfl rfl hl.1 rfl (Nat.le_of_ble_eq_true rfl) dX8_leastTrucks_45 ⟨Nat.le_of_ble_eq_true rfl, Nat.le_of_ble_eq_true rfl⟩) hP hD hS hA (kJ_all) (fun _ => rfl) (fun u H locs hw hP hD hS => ?_)
          subst hw
          have hP : va_P D vwCl (wR Y b (sR R 1 (mDays (upd (R 0) 3 (nI v)) 0 j))) H := hP
          have hD : va_D A (wR Y b (sR R 1 (mDays (upd (R 0) 3 (nI v)) 0 j))) := hD
          refine lv_aload_n hx hb dX8_leastTrucks_48 rfl (lv_at hl 1 rfl) ?_
          refine gfX8_13 (v := .ref (b 2)) hx hb hta hown hK hP 0 rfl rfl dX8_leastTrucks_49 ?_
          refine lv_bipush (v := 28) hx hb dX8_leastTrucks_52 (by decide) ?_
          refine kiald (f := mDays (upd (R 0) 3 (nI v)) 0 j) hx hb hK hP 2 rfl 28 rfl (by omega) (by omega) dX8_leastTrucks_54 ?_
          refine lv_aload_n hx hb dX8_leastTrucks_55 rfl (lv_at hl 1 rfl) ?_
          refine gfX8_7 (v := .ref (b 1)) hx hb hta hown hK hP 0 rfl rfl dX8_leastTrucks_56 ?_
          refine lv_bipush (v := 28) hx hb dX8_leastTrucks_59 (by decide) ?_
          refine kiald (f := R 0) hx hb hK hP 1 rfl 28 rfl (by omega) (by omega) dX8_leastTrucks_61 ?_
          refine lv_icmp_ne (tgt := 67) hx hb dX8_leastTrucks_62 (by decide) (fun c6 => ?_) (fun c6 => ?_)
          · refine lv_iinc (v := nI (v + 1)) (lv' := [(2, .int (nI (v + 1))), (0, .ref (b 0)), (1, .int (nI j))]) hx hb dX8_leastTrucks_67 hl (k := 0) rfl (nI_add v 1) (by decide) rfl (fun ls hl => ?_)
            refine lv_goto (tgt := 16) hx hb dX8_leastTrucks_70 (by decide) ?_
            exact ih (v + 1) (mDays (upd (R 0) 3 (nI v)) 0 j) (by omega) (by rw [hL, show 21 - v = (21 - (v + 1)) + 1 by omega]; exact if_neg c6) (by omega) _ _ hP hD hS ls (lv_sub hl [0, 1, 2] rfl)
          · refine lv_iload_n hx hb dX8_leastTrucks_65 rfl (lv_at hl 0 rfl) ?_
            exact kiret (sR R 1 (mDays (upd (R 0) 3 (nI v)) 0 j)) hQ hx hb hr hlocks hP hS dX8_leastTrucks_66 (by refine ⟨?_, _, rfl⟩; unfold mLeastTr; rw [if_pos c2, nI_clamp (n := j) (by omega), hL, show 21 - v = (20 - v) + 1 by omega]; exact (if_pos c6).symm)
    exact loop16 ((21 - 0) + 1) 0 (R 1) (Nat.lt_succ_self _) rfl (by omega) _ _ hP hD hS ls (lv_sub hl [0, 1, 2] rfl)
  · refine kTop (kb_f c2) ?_
    refine lv_if_ne (tgt := 14) hx hb dX8_leastTrucks_8 (by decide) (fun h => False.elim (by revert h; decide)) (fun _ => ?_)
    refine lv_bipush (v := (-2)) hx hb dX8_leastTrucks_11 (by decide) ?_
    exact kiret (R) hQ hx hb hr hlocks hP hS dX8_leastTrucks_13 (by refine ⟨?_, ⟨R 1, (sR_id R 1).symm⟩⟩; unfold mLeastTr; rw [if_neg c2])
