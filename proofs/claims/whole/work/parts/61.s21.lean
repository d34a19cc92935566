set_option maxHeartbeats 4000000 in
set_option maxRecDepth 100000 in
theorem c_X7_losesNothing (l : Launch) (D : va_G) (Y : Nat → ClassId) (w a b d : Nat → Nat) (M N : kN) (F : kFm) (o z : Nat) (P : Nat → Int32) (n t : Nat) (kd : Int32) (V : Nat → Int32) (vc : Nat) (v dn : Nat) (hI : cI M) (hv20 : v ≤ 20) (hdn : dn ≤ 300) : kM l yX7_losesNothing wX7_losesNothing rX7_losesNothing D Y (wC Y w a b d M N F o z P n t kd V vc) [.ref (w 0), .int (nI v), .int (nI dn)] kX0 (kQi D (fun r (_ : kN) => r = kb (cNl (sM (cCopy M N) 0 0 (nI v)) (sTo (M 4) 6) dn)) (fun u => wC Y w a b d M u F o z P n t kd V vc)) := by
  refine kentry (cc := cX7_losesNothing) (maxL := 5) (ret := (some .boolean)) (by decide +kernel) rfl (Nat.le_of_ble_eq_true rfl) ?_
  intro p e s0 m args below meth c A Q ls hQ hx hb hr hlocks hml hown hin hta hA hX0 hK hNs hP hD hS hl
  have hown : s0.vm.findClass RX7 = some m.cls := hown
  have hl : lv_has ls 5 [(0, .ref (w 0)), (1, .int (nI v)), (2, .int (nI dn))] := hl
  have hP : va_P D vwCl (kw Y [[(w 0, .inr (7, [.ref (a 0), .ref (b 0), .ref (w 1), .ref (w 2), .ref (d 0)]))], [(w 1, .inr (2, [.ref (w 3), .int (nI o), .int (nI z)]))], [(w 2, .inl (Y 3, 2, .inr (.inr (.inr (.inr (kAn F 7 2))))))], [(w 3, .inl (Y 3, 7, .inr (.inr (.inr (.inr (kAn F 0 7))))))], wM Y a M, wM Y b N, wP Y d P n t kd V vc] F) s0.heap := hP
  have hD : va_D A (kw Y [[(w 0, .inr (7, [.ref (a 0), .ref (b 0), .ref (w 1), .ref (w 2), .ref (d 0)]))], [(w 1, .inr (2, [.ref (w 3), .int (nI o), .int (nI z)]))], [(w 2, .inl (Y 3, 2, .inr (.inr (.inr (.inr (kAn F 7 2))))))], [(w 3, .inl (Y 3, 7, .inr (.inr (.inr (.inr (kAn F 0 7))))))], wM Y a M, wM Y b N, wP Y d P n t kd V vc] F) := hD
  refine lv_aload_n hx hb dX7_losesNothing_0 rfl (lv_at hl 0 rfl) ?_
  refine gfX7_16 (v := .ref (b 0)) hx hb hta hown hK hP 0 rfl rfl dX7_losesNothing_1 ?_
  refine lv_aload_n hx hb dX7_losesNothing_4 rfl (lv_at hl 0 rfl) ?_
  refine gfX7_10 (v := .ref (a 0)) hx hb hta hown hK hP 0 rfl rfl dX7_losesNothing_5 ?_
  refine kc_v (krV (As := [.ref (a 0)]) (rest := []) (c_X3_copyFrom l D Y a M b N hI) ⟨hx, hb, hml, hown, hta⟩ (cwX7_147 hta ⟨Nat.le_of_ble_eq_true rfl, Nat.le_of_ble_eq_true rfl⟩) kX0b (fun _ _ _ => trivial) hK hNs hP hD (kJ_w2 4 5 rfl rfl (by decide)) (q0 := 24) rfl rfl rfl rfl hl.1 rfl (Nat.le_of_ble_eq_true rfl) dX7_losesNothing_8 ⟨Nat.le_of_ble_eq_true rfl, Nat.le_of_ble_eq_true rfl⟩) hP hD hS hA (kJ_w2 4 5 rfl rfl (by decide)) (fun _ => rfl) (fun u H locs hw hP hD hS => ?_)
  subst hw
  rw [kw_w2] at hP hD
  generalize hT0 : cCopy M N = T0 at hP hD
  have hP : va_P D vwCl (kw Y [[(w 0, .inr (7, [.ref (a 0), .ref (b 0), .ref (w 1), .ref (w 2), .ref (d 0)]))], [(w 1, .inr (2, [.ref (w 3), .int (nI o), .int (nI z)]))], [(w 2, .inl (Y 3, 2, .inr (.inr (.inr (.inr (kAn F 7 2))))))], [(w 3, .inl (Y 3, 7, .inr (.inr (.inr (.inr (kAn F 0 7))))))], wM Y a M, wM Y b T0, wP Y d P n t kd V vc] F) H := hP
  have hD : va_D A (kw Y [[(w 0, .inr (7, [.ref (a 0), .ref (b 0), .ref (w 1), .ref (w 2), .ref (d 0)]))], [(w 1, .inr (2, [.ref (w 3), .int (nI o), .int (nI z)]))], [(w 2, .inl (Y 3, 2, .inr (.inr (.inr (.inr (kAn F 7 2))))))], [(w 3, .inl (Y 3, 7, .inr (.inr (.inr (.inr (kAn F 0 7))))))], wM Y a M, wM Y b T0, wP Y d P n t kd V vc] F) := hD
  refine lv_aload_n hx hb dX7_losesNothing_11 rfl (lv_at hl 0 rfl) ?_
  refine gfX7_16 (v := .ref (b 0)) hx hb hta hown hK hP 0 rfl rfl dX7_losesNothing_12 ?_
  refine gfX7_154 (v := .ref (b 1)) hx hb hta hown hK hP 28 rfl rfl dX7_losesNothing_15 ?_
  refine lv_iconst (v := 0) hx hb dX7_losesNothing_18 (by decide) ?_
  refine lv_iload_n hx hb dX7_losesNothing_19 rfl (lv_at hl 1 rfl) ?_
  have hset : (kw Y [[(w 0, .inr (7, [.ref (a 0), .ref (b 0), .ref (w 1), .ref (w 2), .ref (d 0)]))], [(w 1, .inr (2, [.ref (w 3), .int (nI o), .int (nI z)]))], [(w 2, .inl (Y 3, 2, .inr (.inr (.inr (.inr (kAn F 7 2))))))], [(w 3, .inl (Y 3, 7, .inr (.inr (.inr (.inr (kAn F 0 7))))))], wM Y a M, wM Y b T0, wP Y d P n t kd V vc] F).set 29 (b 1, .inl (Y 0, 7, .inl (upd (T0 0) 0 (nI v)))) = kw Y [[(w 0, .inr (7, [.ref (a 0), .ref (b 0), .ref (w 1), .ref (w 2), .ref (d 0)]))], [(w 1, .inr (2, [.ref (w 3), .int (nI o), .int (nI z)]))], [(w 2, .inl (Y 3, 2, .inr (.inr (.inr (.inr (kAn F 7 2))))))], [(w 3, .inl (Y 3, 7, .inr (.inr (.inr (.inr (kAn F 0 7))))))], wM Y a M, wM Y b (sM T0 0 0 (nI v)), wP Y d P n t kd V vc] F := kw_set5 _ _ _ _ Y a M b T0 _ F (nI v)
  refine kiast (f := T0 0) hx hb hK hP hD hS 29 rfl 0 rfl (by omega) (by omega) dX7_losesNothing_20 (kw Y [[(w 0, .inr (7, [.ref (a 0), .ref (b 0), .ref (w 1), .ref (w 2), .ref (d 0)]))], [(w 1, .inr (2, [.ref (w 3), .int (nI o), .int (nI z)]))], [(w 2, .inl (Y 3, 2, .inr (.inr (.inr (.inr (kAn F 7 2))))))], [(w 3, .inl (Y 3, 7, .inr (.inr (.inr (.inr (kAn F 0 7))))))], wM Y a M, wM Y b (sM T0 0 0 (nI v)), wP Y d P n t kd V vc] F) hset (fun H locs hP hD hS => ?_)
  refine lv_aload_n hx hb dX7_losesNothing_21 rfl (lv_at hl 0 rfl) ?_
  refine gfX7_10 (v := .ref (a 0)) hx hb hta hown hK hP 0 rfl rfl dX7_losesNothing_22 ?_
  refine gfX7_127 (v := .ref (a 2)) hx hb hta hown hK hP 4 rfl rfl dX7_losesNothing_25 ?_
  refine kc_i (krV (As := []) (rest := []) (c_X1_totalLost l D Y a M) ⟨hx, hb, hml, hown, hta⟩ (cwX7_131 hta ⟨Nat.le_of_ble_eq_true rfl, Nat.le_of_ble_eq_true rfl⟩) kX0b (fun _ _ _ => trivial) hK hNs hP hD (kJ_w 4 rfl) (q0 := 2) rfl rfl rfl rfl hl.1 rfl (Nat.le_of_ble_eq_true rfl) dX7_losesNothing_28 ⟨Nat.le_of_ble_eq_true rfl, Nat.le_of_ble_eq_true rfl⟩) hP hD hS hA (kJ_w 4 rfl) (fun _ => rfl) (fun r2 u H locs hw hP hD hS => ?_)
  subst hw
  have hP : va_P D vwCl (kw Y [[(w 0, .inr (7, [.ref (a 0), .ref (b 0), .ref (w 1), .ref (w 2), .ref (d 0)]))], [(w 1, .inr (2, [.ref (w 3), .int (nI o), .int (nI z)]))], [(w 2, .inl (Y 3, 2, .inr (.inr (.inr (.inr (kAn F 7 2))))))], [(w 3, .inl (Y 3, 7, .inr (.inr (.inr (.inr (kAn F 0 7))))))], wM Y a M, wM Y b (sM T0 0 0 (nI v)), wP Y d P n t kd V vc] F) H := hP
  have hD : va_D A (kw Y [[(w 0, .inr (7, [.ref (a 0), .ref (b 0), .ref (w 1), .ref (w 2), .ref (d 0)]))], [(w 1, .inr (2, [.ref (w 3), .int (nI o), .int (nI z)]))], [(w 2, .inl (Y 3, 2, .inr (.inr (.inr (.inr (kAn F 7 2))))))], [(w 3, .inl (Y 3, 7, .inr (.inr (.inr (.inr (kAn F 0 7))))))], wM Y a M, wM Y b (sM T0 0 0 (nI v)), wP Y d P n t kd V vc] F) := hD
  refine lv_istore_n (lv' := [(3, .int (sTo (M 4) 6)), (0, .ref (w 0)), (1, .int (nI v)), (2, .int (nI dn))]) hx hb dX7_losesNothing_31 rfl hl (by decide) rfl (fun ls hl => ?_)
  refine lv_iconst (v := 0) hx hb dX7_losesNothing_32 (by decide) ?_
  refine lv_istore (lv' := [(4, .int 0), (3, .int (sTo (M 4) 6)), (0, .ref (w 0)), (1, .int (nI v)), (2, .int (nI dn))]) hx hb dX7_losesNothing_33 hl (by decide) rfl (fun ls hl => ?_)
  have loop35 : ∀ (zf : Nat) (i : Nat) (T : kN), dn - i < zf → cDays (sM T0 0 0 (nI v)) 0 i = T → i ≤ dn → (∀ k, k < i → sTo (cDays (sM T0 0 0 (nI v)) 0 (k + 1) 4) 6 = sTo (M 4) 6) → ∀ (H : Heap) (locs : List Loc), va_P D vwCl (kw Y [[(w 0, .inr (7, [.ref (a 0), .ref (b 0), .ref (w 1), .ref (w 2), .ref (d 0)]))], [(w 1, .inr (2, [.ref (w 3), .int (nI o), .int (nI z)]))], [(w 2, .inl (Y 3, 2, .inr (.inr (.inr (.inr (kAn F 7 2))))))], [(w 3, .inl (Y 3, 7, .inr (.inr (.inr (.inr (kAn F 0 7))))))], wM Y a M, wM Y b T, wP Y d P n t kd V vc] F) H → va_D A (kw Y [[(w 0, .inr (7, [.ref (a 0), .ref (b 0), .ref (w 1), .ref (w 2), .ref (d 0)]))], [(w 1, .inr (2, [.ref (w 3), .int (nI o), .int (nI z)]))], [(w 2, .inl (Y 3, 2, .inr (.inr (.inr (.inr (kAn F 7 2))))))], [(w 3, .inl (Y 3, 7, .inr (.inr (.inr (.inr (kAn F 0 7))))))], wM Y a M, wM Y b T, wP Y d P n t kd V vc] F) → va_S A s0.heap H locs → ∀ (ls : Array Slot), lv_has ls 5 [(4, .int (nI i)), (3, .int (sTo (M 4) 6)), (0, .ref (w 0)), (1, .int (nI v)), (2, .int (nI dn))] → W p l e rX7_losesNothing s0 m args below meth c H locs 0 0 Q (F0 m 35 ls []) := by
    intro zf
    induction zf with
    | zero => intro i T hmu; exact absurd hmu (Nat.not_lt_zero _)
    | succ zf ih =>
      intro i T hmu hT hi hl0 H locs hP hD hS ls hl
      have hIT : cI T := hT ▸ cDays_I (cTrk_I (hT0 ▸ cCopy_I hI) hv20) 0 i
      refine lv_iload hx hb dX7_losesNothing_35 (lv_at hl 0 rfl) ?_
      refine lv_iload_n hx hb dX7_losesNothing_37 rfl (lv_at hl 4 rfl) ?_
      refine lv_icmp_ge (tgt := 71) hx hb dX7_losesNothing_38 (by decide) (fun c3 => ?_) (fun c3 => ?_)
      · have c3n : dn ≤ i := (nI_leI (a := dn) (b := i) (by omega) (by omega)).mp c3
        refine lv_iconst (v := 1) hx hb dX7_losesNothing_71 (by decide) ?_
        exact kzret (T) hQ hx hb hr hlocks hP hS dX7_losesNothing_72 (by first | exact Or.inl rfl | exact Or.inr rfl | exact kb_01 _) (by rw [hT0]; exact (kb_t (fun k hk => hl0 k (by omega))).symm)
      · have c3n : ¬ dn ≤ i := fun h => c3 ((nI_leI (a := dn) (b := i) (by omega) (by omega)).mpr h)
        refine lv_aload_n hx hb dX7_losesNothing_41 rfl (lv_at hl 2 rfl) ?_
        refine gfX7_16 (v := .ref (b 0)) hx hb hta hown hK hP 0 rfl rfl dX7_losesNothing_42 ?_
        refine lv_iconst (v := 0) hx hb dX7_losesNothing_45 (by decide) ?_
        refine kTop (y := kb (nI i < 0)) (kb_f (nI_pos (by omega))).symm ?_
        refine kc_v (krV (As := [.int (kb (nI i < 0))]) (rest := []) (c_X3_passDay l D Y b T (nI i < 0) hIT) ⟨hx, hb, hml, hown, hta⟩ (cwX7_150 hta ⟨Nat.le_of_ble_eq_true rfl, Nat.le_of_ble_eq_true rfl⟩) kX0b (fun _ _ _ => trivial) hK hNs hP hD (kJ_w 5 rfl) (q0 := 0) rfl rfl rfl rfl hl.1 rfl (Nat.le_of_ble_eq_true rfl) dX7_losesNothing_46 ⟨Nat.le_of_ble_eq_true rfl, Nat.le_of_ble_eq_true rfl⟩) hP hD hS hA (kJ_w 5 rfl) (fun _ => rfl) (fun u H locs hw hP hD hS => ?_)
        subst hw
        have hP : va_P D vwCl (kw Y [[(w 0, .inr (7, [.ref (a 0), .ref (b 0), .ref (w 1), .ref (w 2), .ref (d 0)]))], [(w 1, .inr (2, [.ref (w 3), .int (nI o), .int (nI z)]))], [(w 2, .inl (Y 3, 2, .inr (.inr (.inr (.inr (kAn F 7 2))))))], [(w 3, .inl (Y 3, 7, .inr (.inr (.inr (.inr (kAn F 0 7))))))], wM Y a M, wM Y b (cDay T (nI i < 0)), wP Y d P n t kd V vc] F) H := hP
        have hD : va_D A (kw Y [[(w 0, .inr (7, [.ref (a 0), .ref (b 0), .ref (w 1), .ref (w 2), .ref (d 0)]))], [(w 1, .inr (2, [.ref (w 3), .int (nI o), .int (nI z)]))], [(w 2, .inl (Y 3, 2, .inr (.inr (.inr (.inr (kAn F 7 2))))))], [(w 3, .inl (Y 3, 7, .inr (.inr (.inr (.inr (kAn F 0 7))))))], wM Y a M, wM Y b (cDay T (nI i < 0)), wP Y d P n t kd V vc] F) := hD
        refine lv_aload_n hx hb dX7_losesNothing_49 rfl (lv_at hl 2 rfl) ?_
        refine gfX7_16 (v := .ref (b 0)) hx hb hta hown hK hP 0 rfl rfl dX7_losesNothing_50 ?_
        refine gfX7_127 (v := .ref (b 2)) hx hb hta hown hK hP 28 rfl rfl dX7_losesNothing_53 ?_
        refine kc_i (krV (As := []) (rest := []) (c_X1_totalLost l D Y b (cDay T (nI i < 0))) ⟨hx, hb, hml, hown, hta⟩ (cwX7_131 hta ⟨Nat.le_of_ble_eq_true rfl, Nat.le_of_ble_eq_true rfl⟩) kX0b (fun _ _ _ => trivial) hK hNs hP hD (kJ_w 5 rfl) (q0 := 2) rfl rfl rfl rfl hl.1 rfl (Nat.le_of_ble_eq_true rfl) dX7_losesNothing_56 ⟨Nat.le_of_ble_eq_true rfl, Nat.le_of_ble_eq_true rfl⟩) hP hD hS hA (kJ_w 5 rfl) (fun _ => rfl) (fun r5 u H locs hw hP hD hS => ?_)
        subst hw
        have hP : va_P D vwCl (kw Y [[(w 0, .inr (7, [.ref (a 0), .ref (b 0), .ref (w 1), .ref (w 2), .ref (d 0)]))], [(w 1, .inr (2, [.ref (w 3), .int (nI o), .int (nI z)]))], [(w 2, .inl (Y 3, 2, .inr (.inr (.inr (.inr (kAn F 7 2))))))], [(w 3, .inl (Y 3, 7, .inr (.inr (.inr (.inr (kAn F 0 7))))))], wM Y a M, wM Y b (cDay T (nI i < 0)), wP Y d P n t kd V vc] F) H := hP
        have hD : va_D A (kw Y [[(w 0, .inr (7, [.ref (a 0), .ref (b 0), .ref (w 1), .ref (w 2), .ref (d 0)]))], [(w 1, .inr (2, [.ref (w 3), .int (nI o), .int (nI z)]))], [(w 2, .inl (Y 3, 2, .inr (.inr (.inr (.inr (kAn F 7 2))))))], [(w 3, .inl (Y 3, 7, .inr (.inr (.inr (.inr (kAn F 0 7))))))], wM Y a M, wM Y b (cDay T (nI i < 0)), wP Y d P n t kd V vc] F) := hD
        refine lv_iload_n hx hb dX7_losesNothing_59 rfl (lv_at hl 1 rfl) ?_
        refine lv_icmp_eq (tgt := 65) hx hb dX7_losesNothing_60 (by decide) (fun c6 => ?_) (fun c6 => ?_)
        · refine lv_iinc (v := nI (i + 1)) (lv' := [(4, .int (nI (i + 1))), (3, .int (sTo (M 4) 6)), (0, .ref (w 0)), (1, .int (nI v)), (2, .int (nI dn))]) hx hb dX7_losesNothing_65 hl (k := 0) rfl (nI_add i 1) (by decide) rfl (fun ls hl => ?_)
          refine lv_goto (tgt := 35) hx hb dX7_losesNothing_68 (by decide) ?_
          exact ih (i + 1) (cDay T (nI i < 0)) (by omega) (by rw [cDays_S, hT]) (by omega) (fun k hk => by
              by_cases hki : k = i
              · rw [hki, cDays_S, hT]; exact c6
              · exact hl0 k (by omega)) _ _ hP hD hS ls (lv_sub hl [0, 1, 2, 3, 4] rfl)
        · refine lv_iconst (v := 0) hx hb dX7_losesNothing_63 (by decide) ?_
          exact kzret (cDay T (nI i < 0)) hQ hx hb hr hlocks hP hS dX7_losesNothing_64 (by first | exact Or.inl rfl | exact Or.inr rfl | exact kb_01 _) (by rw [hT0]; exact (kb_f (fun h => c6 (by have := h i (by omega); rw [cDays_S, hT] at this; exact this))).symm)
  exact loop35 ((dn - 0) + 1) 0 (sM T0 0 0 (nI v)) (Nat.lt_succ_self _) rfl (by omega) (fun k hk => absurd hk (Nat.not_lt_zero _)) _ _ hP hD hS ls (lv_sub hl [0, 1, 2, 3, 4] rfl)
