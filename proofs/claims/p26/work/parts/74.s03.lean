set_option maxHeartbeats 4000000 in
set_option maxRecDepth 100000 in
theorem c_L_tonnes (l : Launch) (D : va_G) (Y : Nat → ClassId) (w a b d : Nat → Nat) (M N : kN) (F : kFm) (o z : Nat) (P : Nat → Int32) (n t : Nat) (kd : Int32) (V : Nat → Int32) (vc : Nat) (hok : pOK M) : kM l yL_tonnes wL_tonnes rL_tonnes D Y (wC Y w a b d M N F o z P n t kd V vc) [.ref (w 0)] kX0 (kQi D (fun r (_ : Unit) => r = 1) (fun _ => wC Y w a b d M N F o z P n t kd V vc)) := by
  refine kentry (cc := cL_tonnes) (maxL := 12) (ret := (some .boolean)) (by decide +kernel) rfl (Nat.le_of_ble_eq_true rfl) ?_
  intro p e s0 m args below meth c A Q ls hQ hx hb hr hlocks hml hown hin hta hA hX0 hK hNs hP hD hS hl
  have hown : s0.vm.findClass RL = some m.cls := hown
  have hl : lv_has ls 12 [(0, .ref (w 0))] := hl
  have hI := hok.I
  have h30 := hI.f30
  have h400 := hI.y400
  refine lv_iconst (v := 0) hx hb dL_tonnes_0 (by decide) ?_
  refine lv_istore_n (lv' := [(1, .int 0), (0, .ref (w 0))]) hx hb dL_tonnes_1 rfl hl (by decide) rfl (fun ls hl => ?_)
  refine lv_iconst (v := 0) hx hb dL_tonnes_2 (by decide) ?_
  refine lv_istore_n (lv' := [(2, .int 0), (1, .int 0), (0, .ref (w 0))]) hx hb dL_tonnes_3 rfl hl (by decide) rfl (fun ls hl => ?_)
  refine lv_iconst (v := 0) hx hb dL_tonnes_4 (by decide) ?_
  refine lv_istore_n (lv' := [(3, .int 0), (2, .int 0), (1, .int 0), (0, .ref (w 0))]) hx hb dL_tonnes_5 rfl hl (by decide) rfl (fun ls hl => ?_)
  refine lv_aload_n hx hb dL_tonnes_6 rfl (lv_at hl 3 rfl) ?_
  refine lv_iconst (v := 1) hx hb dL_tonnes_7 (by decide) ?_
  refine kc_i (krV (As := [.int 1]) (rest := []) (c_X7_count l D Y w a b d M N F o z P n t kd V vc 1 hI) ⟨hx, hb, hml, hown, hta⟩ (cwL_9 hta ⟨Nat.le_of_ble_eq_true rfl, Nat.le_of_ble_eq_true rfl⟩) kX0b (fun _ _ _ => trivial) hK hNs hP hD (kJ_all) (q0 := 0) rfl rfl rfl rfl hl.1 rfl (Nat.le_of_ble_eq_true rfl) dL_tonnes_8 ⟨Nat.le_of_ble_eq_true rfl, Nat.le_of_ble_eq_true rfl⟩) hP hD hS hA (kJ_all) (fun _ => rfl) (fun r1 u H locs hw hP hD hS => ?_)
  have hw := hw.trans (ct_1 hI n z)
  subst hw
  have hP : va_P D vwCl (wC Y w a b d M N F o z P n t kd V vc) H := hP
  have hD : va_D A (wC Y w a b d M N F o z P n t kd V vc) := hD
  refine lv_bipush (v := 30) hx hb dL_tonnes_11 (by decide) ?_
  refine lv_icmp_gt (tgt := 31) hx hb dL_tonnes_13 (by decide) (fun h => absurd h (Nat.not_lt.mpr hI.f30 ∘ (nI_ltI (a := 30) (b := nF M) (by omega) (by omega)).mp)) (fun _ => ?_)
  refine lv_aload_n hx hb dL_tonnes_16 rfl (lv_at hl 3 rfl) ?_
  refine lv_iconst (v := 0) hx hb dL_tonnes_17 (by decide) ?_
  refine kc_i (krV (As := [.int 0]) (rest := []) (c_X7_count l D Y w a b d M N F o z P n t kd V vc 0 hI) ⟨hx, hb, hml, hown, hta⟩ (cwL_9 hta ⟨Nat.le_of_ble_eq_true rfl, Nat.le_of_ble_eq_true rfl⟩) kX0b (fun _ _ _ => trivial) hK hNs hP hD (kJ_all) (q0 := 0) rfl rfl rfl rfl hl.1 rfl (Nat.le_of_ble_eq_true rfl) dL_tonnes_18 ⟨Nat.le_of_ble_eq_true rfl, Nat.le_of_ble_eq_true rfl⟩) hP hD hS hA (kJ_all) (fun _ => rfl) (fun r3 u H locs hw hP hD hS => ?_)
  have hw := hw.trans (ct_0 M n z)
  subst hw
  have hP : va_P D vwCl (wC Y w a b d M N F o z P n t kd V vc) H := hP
  have hD : va_D A (wC Y w a b d M N F o z P n t kd V vc) := hD
  refine lv_sipush (v := 1000) hx hb dL_tonnes_21 (by decide) ?_
  refine lv_icmp_gt (tgt := 31) hx hb dL_tonnes_24 (by decide) (fun h => absurd h (pt_now hok)) (fun _ => ?_)
  refine lv_iconst (v := 1) hx hb dL_tonnes_27 (by decide) ?_
  refine lv_goto (tgt := 32) hx hb dL_tonnes_28 (by decide) ?_
  refine lv_istore (lv' := [(4, .int 1), (3, .int 0), (2, .int 0), (1, .int 0), (0, .ref (w 0))]) hx hb dL_tonnes_32 hl (by decide) rfl (fun ls hl => ?_)
  refine lv_iconst (v := 0) hx hb dL_tonnes_34 (by decide) ?_
  refine lv_istore (lv' := [(5, .int 0), (4, .int 1), (3, .int 0), (2, .int 0), (1, .int 0), (0, .ref (w 0))]) hx hb dL_tonnes_35 hl (by decide) rfl (fun ls hl => ?_)
  have loop37 : ∀ (zf : Nat) (f : Nat), nF M - f < zf → f ≤ nF M → ∀ (H : Heap) (locs : List Loc), va_P D vwCl (wC Y w a b d M N F o z P n t kd V vc) H → va_D A (wC Y w a b d M N F o z P n t kd V vc) → va_S A s0.heap H locs → ∀ (ls : Array Slot), lv_has ls 12 [(0, .ref (w 0)), (1, .int (sTo (M 11) f)), (2, .int (sTo (M 12) f)), (3, .int (sTo (M 13) f)), (4, .int 1), (5, .int (nI f))] → W p l e rL_tonnes s0 m args below meth c H locs 0 0 Q (F0 m 37 ls []) := by
    intro zf
    induction zf with
    | zero => intro f hmu; exact absurd hmu (Nat.not_lt_zero _)
    | succ zf ih37 =>
      intro f hmu hf H locs hP hD hS ls hl
      refine lv_iload hx hb dL_tonnes_37 (lv_at hl 5 rfl) ?_
      refine lv_aload_n hx hb dL_tonnes_39 rfl (lv_at hl 0 rfl) ?_
      refine lv_iconst (v := 1) hx hb dL_tonnes_40 (by decide) ?_
      refine kc_i (krV (As := [.int 1]) (rest := [.int (nI f)]) (c_X7_count l D Y w a b d M N F o z P n t kd V vc 1 hI) ⟨hx, hb, hml, hown, hta⟩ (cwL_9 hta ⟨Nat.le_of_ble_eq_true rfl, Nat.le_of_ble_eq_true rfl⟩) kX0b (fun _ _ _ => trivial) hK hNs hP hD (kJ_all) (q0 := 0) rfl rfl rfl rfl hl.1 rfl (Nat.le_of_ble_eq_true rfl) dL_tonnes_41 ⟨Nat.le_of_ble_eq_true rfl, Nat.le_of_ble_eq_true rfl⟩) hP hD hS hA (kJ_all) (fun _ => rfl) (fun r5 u H locs hw hP hD hS => ?_)
      have hw := hw.trans (ct_1 hI n z)
      subst hw
      have hP : va_P D vwCl (wC Y w a b d M N F o z P n t kd V vc) H := hP
      have hD : va_D A (wC Y w a b d M N F o z P n t kd V vc) := hD
      refine lv_icmp_ge (tgt := 276) hx hb dL_tonnes_44 (by decide) (fun c6 => ?_) (fun c6 => ?_)
      · have c6n : (nF M) ≤ f := (nI_leI (a := nF M) (b := f) (by omega) (by omega)).mp c6
        obtain rfl : f = nF M := by omega
        refine lv_iconst (v := 0) hx hb dL_tonnes_276 (by decide) ?_
        refine lv_istore (lv' := [(5, .int 0), (0, .ref (w 0)), (1, .int (sTo (M 11) (nF M))), (2, .int (sTo (M 12) (nF M))), (3, .int (sTo (M 13) (nF M))), (4, .int 1)]) hx hb dL_tonnes_277 hl (by decide) rfl (fun ls hl => ?_)
        refine lv_iconst (v := 0) hx hb dL_tonnes_279 (by decide) ?_
        refine lv_istore (lv' := [(6, .int 0), (5, .int 0), (0, .ref (w 0)), (1, .int (sTo (M 11) (nF M))), (2, .int (sTo (M 12) (nF M))), (3, .int (sTo (M 13) (nF M))), (4, .int 1)]) hx hb dL_tonnes_280 hl (by decide) rfl (fun ls hl => ?_)
        have loop282 : ∀ (zf : Nat) (k : Nat), nY M - k < zf → k ≤ nY M → ∀ (H : Heap) (locs : List Loc), va_P D vwCl (wC Y w a b d M N F o z P n t kd V vc) H → va_D A (wC Y w a b d M N F o z P n t kd V vc) → va_S A s0.heap H locs → ∀ (ls : Array Slot), lv_has ls 12 [(0, .ref (w 0)), (1, .int (sTo (M 11) (nF M))), (2, .int (sTo (M 12) (nF M))), (3, .int (sTo (M 13) (nF M))), (4, .int 1), (5, .int (sTo (M 17) k)), (6, .int (nI k))] → W p l e rL_tonnes s0 m args below meth c H locs 0 0 Q (F0 m 282 ls []) := by
          intro zf
          induction zf with
          | zero => intro k hmu; exact absurd hmu (Nat.not_lt_zero _)
          | succ zf ih282 =>
            intro k hmu hk H locs hP hD hS ls hl
            refine lv_iload hx hb dL_tonnes_282 (lv_at hl 6 rfl) ?_
            refine lv_aload_n hx hb dL_tonnes_284 rfl (lv_at hl 0 rfl) ?_
            refine lv_iconst (v := 4) hx hb dL_tonnes_285 (by decide) ?_
            refine kc_i (krV (As := [.int 4]) (rest := [.int (nI k)]) (c_X7_count l D Y w a b d M N F o z P n t kd V vc 4 hI) ⟨hx, hb, hml, hown, hta⟩ (cwL_9 hta ⟨Nat.le_of_ble_eq_true rfl, Nat.le_of_ble_eq_true rfl⟩) kX0b (fun _ _ _ => trivial) hK hNs hP hD (kJ_all) (q0 := 0) rfl rfl rfl rfl hl.1 rfl (Nat.le_of_ble_eq_true rfl) dL_tonnes_286 ⟨Nat.le_of_ble_eq_true rfl, Nat.le_of_ble_eq_true rfl⟩) hP hD hS hA (kJ_all) (fun _ => rfl) (fun r7 u H locs hw hP hD hS => ?_)
            have hw := hw.trans (ct_4 hI n z)
            subst hw
            have hP : va_P D vwCl (wC Y w a b d M N F o z P n t kd V vc) H := hP
            have hD : va_D A (wC Y w a b d M N F o z P n t kd V vc) := hD
            refine lv_icmp_ge (tgt := 398) hx hb dL_tonnes_289 (by decide) (fun c8 => ?_) (fun c8 => ?_)
            · have c8n : (nY M) ≤ k := (nI_leI (a := nY M) (b := k) (by omega) (by omega)).mp c8
              obtain rfl : k = nY M := by omega
              refine lv_iload hx hb dL_tonnes_398 (lv_at hl 4 rfl) ?_
              refine lv_if_eq (tgt := 462) hx hb dL_tonnes_400 (by decide) (fun h => False.elim (by revert h; decide)) (fun _ => ?_)
              refine lv_iload_n hx hb dL_tonnes_403 rfl (lv_at hl 1 rfl) ?_
              refine lv_aload_n hx hb dL_tonnes_404 rfl (lv_at hl 0 rfl) ?_
              refine lv_iconst (v := 3) hx hb dL_tonnes_405 (by decide) ?_
              refine kc_i (krV (As := [.int 3]) (rest := [.int (sTo (M 11) (nF M))]) (c_X7_count l D Y w a b d M N F o z P n t kd V vc 3 hI) ⟨hx, hb, hml, hown, hta⟩ (cwL_9 hta ⟨Nat.le_of_ble_eq_true rfl, Nat.le_of_ble_eq_true rfl⟩) kX0b (fun _ _ _ => trivial) hK hNs hP hD (kJ_all) (q0 := 0) rfl rfl rfl rfl hl.1 rfl (Nat.le_of_ble_eq_true rfl) dL_tonnes_406 ⟨Nat.le_of_ble_eq_true rfl, Nat.le_of_ble_eq_true rfl⟩) hP hD hS hA (kJ_all) (fun _ => rfl) (fun r9 u H locs hw hP hD hS => ?_)
              have hw := hw.trans (ct_3 M n z)
              subst hw
              have hP : va_P D vwCl (wC Y w a b d M N F o z P n t kd V vc) H := hP
              have hD : va_D A (wC Y w a b d M N F o z P n t kd V vc) := hD
              refine lv_icmp_ne (tgt := 462) hx hb dL_tonnes_409 (by decide) (fun h => absurd (pt_yard hok) h) (fun _ => ?_)
              refine lv_iload hx hb dL_tonnes_412 (lv_at hl 5 rfl) ?_
              refine lv_iload_n hx hb dL_tonnes_414 rfl (lv_at hl 1 rfl) ?_
              refine lv_icmp_ne (tgt := 462) hx hb dL_tonnes_415 (by decide) (fun h => absurd (pt_loads hok) h) (fun _ => ?_)
              refine lv_iload_n hx hb dL_tonnes_418 rfl (lv_at hl 2 rfl) ?_
              refine lv_aload_n hx hb dL_tonnes_419 rfl (lv_at hl 0 rfl) ?_
              refine lv_iconst (v := 5) hx hb dL_tonnes_420 (by decide) ?_
              refine kc_i (krV (As := [.int 5]) (rest := [.int (sTo (M 12) (nF M))]) (c_X7_count l D Y w a b d M N F o z P n t kd V vc 5 hI) ⟨hx, hb, hml, hown, hta⟩ (cwL_9 hta ⟨Nat.le_of_ble_eq_true rfl, Nat.le_of_ble_eq_true rfl⟩) kX0b (fun _ _ _ => trivial) hK hNs hP hD (kJ_all) (q0 := 0) rfl rfl rfl rfl hl.1 rfl (Nat.le_of_ble_eq_true rfl) dL_tonnes_421 ⟨Nat.le_of_ble_eq_true rfl, Nat.le_of_ble_eq_true rfl⟩) hP hD hS hA (kJ_all) (fun _ => rfl) (fun r12 u H locs hw hP hD hS => ?_)
              have hw := hw.trans (ct_5 M n z)
              subst hw
              have hP : va_P D vwCl (wC Y w a b d M N F o z P n t kd V vc) H := hP
              have hD : va_D A (wC Y w a b d M N F o z P n t kd V vc) := hD
              refine lv_icmp_ne (tgt := 462) hx hb dL_tonnes_424 (by decide) (fun h => absurd (pt_crushed hok) h) (fun _ => ?_)
              refine lv_iload_n hx hb dL_tonnes_427 rfl (lv_at hl 3 rfl) ?_
              refine lv_aload_n hx hb dL_tonnes_428 rfl (lv_at hl 0 rfl) ?_
              refine lv_bipush (v := 7) hx hb dL_tonnes_429 (by decide) ?_
              refine kc_i (krV (As := [.int 7]) (rest := [.int (sTo (M 13) (nF M))]) (c_X7_count l D Y w a b d M N F o z P n t kd V vc 7 hI) ⟨hx, hb, hml, hown, hta⟩ (cwL_9 hta ⟨Nat.le_of_ble_eq_true rfl, Nat.le_of_ble_eq_true rfl⟩) kX0b (fun _ _ _ => trivial) hK hNs hP hD (kJ_all) (q0 := 0) rfl rfl rfl rfl hl.1 rfl (Nat.le_of_ble_eq_true rfl) dL_tonnes_431 ⟨Nat.le_of_ble_eq_true rfl, Nat.le_of_ble_eq_true rfl⟩) hP hD hS hA (kJ_all) (fun _ => rfl) (fun r14 u H locs hw hP hD hS => ?_)
              have hw := hw.trans (ct_7 M n z)
              subst hw
              have hP : va_P D vwCl (wC Y w a b d M N F o z P n t kd V vc) H := hP
              have hD : va_D A (wC Y w a b d M N F o z P n t kd V vc) := hD
              refine lv_icmp_ne (tgt := 462) hx hb dL_tonnes_434 (by decide) (fun h => absurd (pt_gone hok) h) (fun _ => ?_)
              refine lv_aload_n hx hb dL_tonnes_437 rfl (lv_at hl 0 rfl) ?_
              refine lv_aload_n hx hb dL_tonnes_438 rfl (lv_at hl 0 rfl) ?_
              refine lv_iconst (v := 4) hx hb dL_tonnes_439 (by decide) ?_
              refine kc_i (krV (As := [.int 4]) (rest := [.ref (w 0)]) (c_X7_count l D Y w a b d M N F o z P n t kd V vc 4 hI) ⟨hx, hb, hml, hown, hta⟩ (cwL_9 hta ⟨Nat.le_of_ble_eq_true rfl, Nat.le_of_ble_eq_true rfl⟩) kX0b (fun _ _ _ => trivial) hK hNs hP hD (kJ_all) (q0 := 0) rfl rfl rfl rfl hl.1 rfl (Nat.le_of_ble_eq_true rfl) dL_tonnes_440 ⟨Nat.le_of_ble_eq_true rfl, Nat.le_of_ble_eq_true rfl⟩) hP hD hS hA (kJ_all) (fun _ => rfl) (fun r16 u H locs hw hP hD hS => ?_)
              have hw := hw.trans (ct_4 hI n z)
              subst hw
              have hP : va_P D vwCl (wC Y w a b d M N F o z P n t kd V vc) H := hP
              have hD : va_D A (wC Y w a b d M N F o z P n t kd V vc) := hD
              refine lv_iconst (v := 0) hx hb dL_tonnes_443 (by decide) ?_
              refine kc_i (krV (As := [.int (nI (nY M)), .int 0]) (rest := []) (c_X7_load l D Y w a b d M N F o z P n t kd V vc (nI (nY M)) 0 hI) ⟨hx, hb, hml, hown, hta⟩ (cwL_19 hta ⟨Nat.le_of_ble_eq_true rfl, Nat.le_of_ble_eq_true rfl⟩) kX0b (fun _ _ _ => trivial) hK hNs hP hD (kJ_all) (q0 := 0) rfl rfl rfl rfl hl.1 rfl (Nat.le_of_ble_eq_true rfl) dL_tonnes_444 ⟨Nat.le_of_ble_eq_true rfl, Nat.le_of_ble_eq_true rfl⟩) hP hD hS hA (kJ_all) (fun _ => rfl) (fun r17 u H locs hw hP hD hS => ?_)
              have hw := hw.trans (lo_no hI 0)
              subst hw
              have hP : va_P D vwCl (wC Y w a b d M N F o z P n t kd V vc) H := hP
              have hD : va_D A (wC Y w a b d M N F o z P n t kd V vc) := hD
              refine lv_iconst (v := (-1)) hx hb dL_tonnes_447 (by decide) ?_
              refine lv_icmp_ne (tgt := 462) hx hb dL_tonnes_448 (by decide) (fun h => absurd rfl h) (fun _ => ?_)
              refine lv_iload_n hx hb dL_tonnes_451 rfl (lv_at hl 1 rfl) ?_
              refine lv_sipush (v := 400) hx hb dL_tonnes_452 (by decide) ?_
              refine lv_icmp_gt (tgt := 462) hx hb dL_tonnes_455 (by decide) (fun h => absurd h (pt_400 hok)) (fun _ => ?_)
              refine lv_iconst (v := 1) hx hb dL_tonnes_458 (by decide) ?_
              refine lv_goto (tgt := 463) hx hb dL_tonnes_459 (by decide) ?_
              refine lv_istore (lv' := [(4, .int 1), (0, .ref (w 0)), (1, .int (sTo (M 11) (nF M))), (2, .int (sTo (M 12) (nF M))), (3, .int (sTo (M 13) (nF M))), (5, .int (sTo (M 17) (nY M))), (6, .int (nI (nY M)))]) hx hb dL_tonnes_463 hl (by decide) rfl (fun ls hl => ?_)
              refine lv_iconst (v := 0) hx hb dL_tonnes_465 (by decide) ?_
              refine lv_istore (lv' := [(6, .int 0), (4, .int 1), (0, .ref (w 0)), (1, .int (sTo (M 11) (nF M))), (2, .int (sTo (M 12) (nF M))), (3, .int (sTo (M 13) (nF M))), (5, .int (sTo (M 17) (nY M)))]) hx hb dL_tonnes_466 hl (by decide) rfl (fun ls hl => ?_)
              refine lv_iconst (v := 0) hx hb dL_tonnes_468 (by decide) ?_
              refine lv_istore (lv' := [(7, .int 0), (6, .int 0), (4, .int 1), (0, .ref (w 0)), (1, .int (sTo (M 11) (nF M))), (2, .int (sTo (M 12) (nF M))), (3, .int (sTo (M 13) (nF M))), (5, .int (sTo (M 17) (nY M)))]) hx hb dL_tonnes_469 hl (by decide) rfl (fun ls hl => ?_)
              have loop471 : ∀ (zf : Nat) (g : Nat) (x2 : Int32) (x3 : Int32), 6 - g < zf → g ≤ 6 → x2 = sTo (M 12) (nF M) - sTo (M 3) g → x3 = sTo (M 13) (nF M) - sTo (M 4) g → ∀ (H : Heap) (locs : List Loc), va_P D vwCl (wC Y w a b d M N F o z P n t kd V vc) H → va_D A (wC Y w a b d M N F o z P n t kd V vc) → va_S A s0.heap H locs → ∀ (ls : Array Slot), lv_has ls 12 [(0, .ref (w 0)), (2, .int x2), (3, .int x3), (4, .int 1), (6, .int (sTo (M 5) g)), (7, .int (nI g))] → W p l e rL_tonnes s0 m args below meth c H locs 0 0 Q (F0 m 471 ls []) := by
                intro zf
                induction zf with
                | zero => intro g x2 x3 hmu; exact absurd hmu (Nat.not_lt_zero _)
                | succ zf ih471 =>
                  intro g x2 x3 hmu hg hx2 hx3 H locs hP hD hS ls hl
                  refine lv_iload hx hb dL_tonnes_471 (lv_at hl 5 rfl) ?_
                  refine lv_bipush (v := 6) hx hb dL_tonnes_473 (by decide) ?_
                  refine lv_icmp_ge (tgt := 681) hx hb dL_tonnes_475 (by decide) (fun c20 => ?_) (fun c20 => ?_)
                  · have c20n : 6 ≤ g := (nI_leI (a := 6) (b := g) (by omega) (by omega)).mp c20
                    obtain rfl : g = 6 := by omega
                    refine lv_iload hx hb dL_tonnes_681 (lv_at hl 3 rfl) ?_
                    refine lv_if_eq (tgt := 723) hx hb dL_tonnes_683 (by decide) (fun h => False.elim (by revert h; decide)) (fun _ => ?_)
                    refine lv_iload hx hb dL_tonnes_686 (lv_at hl 4 rfl) ?_
                    refine lv_aload_n hx hb dL_tonnes_688 rfl (lv_at hl 0 rfl) ?_
                    refine lv_bipush (v := 8) hx hb dL_tonnes_689 (by decide) ?_
                    refine kc_i (krV (As := [.int 8]) (rest := [.int (sTo (M 5) 6)]) (c_X7_count l D Y w a b d M N F o z P n t kd V vc 8 hI) ⟨hx, hb, hml, hown, hta⟩ (cwL_9 hta ⟨Nat.le_of_ble_eq_true rfl, Nat.le_of_ble_eq_true rfl⟩) kX0b (fun _ _ _ => trivial) hK hNs hP hD (kJ_all) (q0 := 0) rfl rfl rfl rfl hl.1 rfl (Nat.le_of_ble_eq_true rfl) dL_tonnes_691 ⟨Nat.le_of_ble_eq_true rfl, Nat.le_of_ble_eq_true rfl⟩) hP hD hS hA (kJ_all) (fun _ => rfl) (fun r21 u H locs hw hP hD hS => ?_)
                    have hw := hw.trans (ct_8 M n z)
                    subst hw
                    have hP : va_P D vwCl (wC Y w a b d M N F o z P n t kd V vc) H := hP
                    have hD : va_D A (wC Y w a b d M N F o z P n t kd V vc) := hD
                    refine lv_icmp_ne (tgt := 723) hx hb dL_tonnes_694 (by decide) (fun h => absurd rfl h) (fun _ => ?_)
                    refine lv_iload_n hx hb dL_tonnes_697 rfl (lv_at hl 1 rfl) ?_
                    refine lv_if_ne (tgt := 723) hx hb dL_tonnes_698 (by decide) (fun h => absurd (by rw [hx2]; exact i_sub0.mpr (pt_crushed hok)) h) (fun _ => ?_)
                    refine lv_iload_n hx hb dL_tonnes_701 rfl (lv_at hl 2 rfl) ?_
                    refine lv_if_ne (tgt := 723) hx hb dL_tonnes_702 (by decide) (fun h => absurd (by rw [hx3]; exact i_sub0.mpr (pt_gone hok)) h) (fun _ => ?_)
                    refine lv_aload_n hx hb dL_tonnes_705 rfl (lv_at hl 0 rfl) ?_
                    refine lv_bipush (v := 6) hx hb dL_tonnes_706 (by decide) ?_
                    refine kc_i (krV (As := [.int 6]) (rest := []) (c_X7_count l D Y w a b d M N F o z P n t kd V vc 6 hI) ⟨hx, hb, hml, hown, hta⟩ (cwL_9 hta ⟨Nat.le_of_ble_eq_true rfl, Nat.le_of_ble_eq_true rfl⟩) kX0b (fun _ _ _ => trivial) hK hNs hP hD (kJ_all) (q0 := 0) rfl rfl rfl rfl hl.1 rfl (Nat.le_of_ble_eq_true rfl) dL_tonnes_708 ⟨Nat.le_of_ble_eq_true rfl, Nat.le_of_ble_eq_true rfl⟩) hP hD hS hA (kJ_all) (fun _ => rfl) (fun r25 u H locs hw hP hD hS => ?_)
                    have hw := hw.trans (ct_6 M n z)
                    subst hw
                    have hP : va_P D vwCl (wC Y w a b d M N F o z P n t kd V vc) H := hP
                    have hD : va_D A (wC Y w a b d M N F o z P n t kd V vc) := hD
                    refine lv_aload_n hx hb dL_tonnes_711 rfl (lv_at hl 0 rfl) ?_
                    refine lv_iconst (v := 5) hx hb dL_tonnes_712 (by decide) ?_
                    refine kc_i (krV (As := [.int 5]) (rest := [.int (M 19 1)]) (c_X7_count l D Y w a b d M N F o z P n t kd V vc 5 hI) ⟨hx, hb, hml, hown, hta⟩ (cwL_9 hta ⟨Nat.le_of_ble_eq_true rfl, Nat.le_of_ble_eq_true rfl⟩) kX0b (fun _ _ _ => trivial) hK hNs hP hD (kJ_all) (q0 := 0) rfl rfl rfl rfl hl.1 rfl (Nat.le_of_ble_eq_true rfl) dL_tonnes_713 ⟨Nat.le_of_ble_eq_true rfl, Nat.le_of_ble_eq_true rfl⟩) hP hD hS hA (kJ_all) (fun _ => rfl) (fun r26 u H locs hw hP hD hS => ?_)
                    have hw := hw.trans (ct_5 M n z)
                    subst hw
                    have hP : va_P D vwCl (wC Y w a b d M N F o z P n t kd V vc) H := hP
                    have hD : va_D A (wC Y w a b d M N F o z P n t kd V vc) := hD
                    refine lv_icmp_gt (tgt := 723) hx hb dL_tonnes_716 (by decide) (fun h => absurd h (pt_sug hok)) (fun _ => ?_)
                    refine lv_iconst (v := 1) hx hb dL_tonnes_719 (by decide) ?_
                    refine lv_goto (tgt := 724) hx hb dL_tonnes_720 (by decide) ?_
                    exact kzret (()) hQ hx hb hr hlocks hP hS dL_tonnes_724 (by first | exact Or.inl rfl | exact Or.inr rfl | exact kb_01 _) rfl
                  · have c20n : ¬ 6 ≤ g := fun h => c20 ((nI_leI (a := 6) (b := g) (by omega) (by omega)).mpr h)
                    refine lv_iload hx hb dL_tonnes_478 (lv_at hl 3 rfl) ?_
                    refine lv_if_eq (tgt := 681) hx hb dL_tonnes_480 (by decide) (fun h => False.elim (by revert h; decide)) (fun _ => ?_)
                    refine lv_iconst (v := 0) hx hb dL_tonnes_483 (by decide) ?_
                    refine lv_istore (lv' := [(8, .int 0), (0, .ref (w 0)), (2, .int x2), (3, .int x3), (4, .int 1), (6, .int (sTo (M 5) g)), (7, .int (nI g))]) hx hb dL_tonnes_484 hl (by decide) rfl (fun ls hl => ?_)
                    refine lv_iconst (v := 0) hx hb dL_tonnes_486 (by decide) ?_
                    refine lv_istore (lv' := [(9, .int 0), (8, .int 0), (0, .ref (w 0)), (2, .int x2), (3, .int x3), (4, .int 1), (6, .int (sTo (M 5) g)), (7, .int (nI g))]) hx hb dL_tonnes_487 hl (by decide) rfl (fun ls hl => ?_)
                    refine lv_iconst (v := 0) hx hb dL_tonnes_489 (by decide) ?_
                    refine lv_istore (lv' := [(10, .int 0), (9, .int 0), (8, .int 0), (0, .ref (w 0)), (2, .int x2), (3, .int x3), (4, .int 1), (6, .int (sTo (M 5) g)), (7, .int (nI g))]) hx hb dL_tonnes_490 hl (by decide) rfl (fun ls hl => ?_)
                    have loop492 : ∀ (zf : Nat) (f : Nat), nF M - f < zf → f ≤ nF M → ∀ (H : Heap) (locs : List Loc), va_P D vwCl (wC Y w a b d M N F o z P n t kd V vc) H → va_D A (wC Y w a b d M N F o z P n t kd V vc) → va_S A s0.heap H locs → ∀ (ls : Array Slot), lv_has ls 12 [(0, .ref (w 0)), (2, .int x2), (3, .int x3), (4, .int 1), (6, .int (sTo (M 5) g)), (7, .int (nI g)), (8, .int (cBurntTo M (nI g) (M 19 0) f)), (9, .int (cItsTo M (nI g) f)), (10, .int (nI f))] → W p l e rL_tonnes s0 m args below meth c H locs 0 0 Q (F0 m 492 ls []) := by
                      intro zf
                      induction zf with
                      | zero => intro f hmu; exact absurd hmu (Nat.not_lt_zero _)
                      | succ zf ih492 =>
                        intro f hmu hf H locs hP hD hS ls hl
                        refine lv_iload hx hb dL_tonnes_492 (lv_at hl 8 rfl) ?_
                        refine lv_aload_n hx hb dL_tonnes_494 rfl (lv_at hl 0 rfl) ?_
                        refine lv_iconst (v := 1) hx hb dL_tonnes_495 (by decide) ?_
                        refine kc_i (krV (As := [.int 1]) (rest := [.int (nI f)]) (c_X7_count l D Y w a b d M N F o z P n t kd V vc 1 hI) ⟨hx, hb, hml, hown, hta⟩ (cwL_9 hta ⟨Nat.le_of_ble_eq_true rfl, Nat.le_of_ble_eq_true rfl⟩) kX0b (fun _ _ _ => trivial) hK hNs hP hD (kJ_all) (q0 := 0) rfl rfl rfl rfl hl.1 rfl (Nat.le_of_ble_eq_true rfl) dL_tonnes_496 ⟨Nat.le_of_ble_eq_true rfl, Nat.le_of_ble_eq_true rfl⟩) hP hD hS hA (kJ_all) (fun _ => rfl) (fun r28 u H locs hw hP hD hS => ?_)
                        have hw := hw.trans (ct_1 hI n z)
                        subst hw
                        have hP : va_P D vwCl (wC Y w a b d M N F o z P n t kd V vc) H := hP
                        have hD : va_D A (wC Y w a b d M N F o z P n t kd V vc) := hD
                        refine lv_icmp_ge (tgt := 581) hx hb dL_tonnes_499 (by decide) (fun c29 => ?_) (fun c29 => ?_)
                        · have c29n : (nF M) ≤ f := (nI_leI (a := nF M) (b := f) (by omega) (by omega)).mp c29
                          obtain rfl : f = nF M := by omega
                          refine lv_aload_n hx hb dL_tonnes_581 rfl (lv_at hl 0 rfl) ?_
                          refine lv_iload hx hb dL_tonnes_582 (lv_at hl 5 rfl) ?_
                          refine lv_iconst (v := 5) hx hb dL_tonnes_584 (by decide) ?_
                          refine kc_i (krV (As := [.int (nI g), .int 5]) (rest := []) (c_X7_ofGrower l D Y w a b d M N F o z P n t kd V vc (nI g) 5 hI) ⟨hx, hb, hml, hown, hta⟩ (cwL_22 hta ⟨Nat.le_of_ble_eq_true rfl, Nat.le_of_ble_eq_true rfl⟩) kX0b (fun _ _ _ => trivial) hK hNs hP hD (kJ_all) (q0 := 0) rfl rfl rfl rfl hl.1 rfl (Nat.le_of_ble_eq_true rfl) dL_tonnes_585 ⟨Nat.le_of_ble_eq_true rfl, Nat.le_of_ble_eq_true rfl⟩) hP hD hS hA (kJ_all) (fun _ => rfl) (fun r30 u H locs hw hP hD hS => ?_)
                          have hw := hw.trans (og_5 (g := g) (by omega))
                          subst hw
                          have hP : va_P D vwCl (wC Y w a b d M N F o z P n t kd V vc) H := hP
                          have hD : va_D A (wC Y w a b d M N F o z P n t kd V vc) := hD
                          refine lv_iload hx hb dL_tonnes_588 (lv_at hl 6 rfl) ?_
                          refine lv_icmp_ne (tgt := 640) hx hb dL_tonnes_590 (by decide) (fun h => absurd rfl h) (fun _ => ?_)
                          refine lv_aload_n hx hb dL_tonnes_593 rfl (lv_at hl 0 rfl) ?_
                          refine lv_iload hx hb dL_tonnes_594 (lv_at hl 5 rfl) ?_
                          refine lv_iconst (v := 1) hx hb dL_tonnes_596 (by decide) ?_
                          refine kc_i (krV (As := [.int (nI g), .int 1]) (rest := []) (c_X7_ofGrower l D Y w a b d M N F o z P n t kd V vc (nI g) 1 hI) ⟨hx, hb, hml, hown, hta⟩ (cwL_22 hta ⟨Nat.le_of_ble_eq_true rfl, Nat.le_of_ble_eq_true rfl⟩) kX0b (fun _ _ _ => trivial) hK hNs hP hD (kJ_all) (q0 := 0) rfl rfl rfl rfl hl.1 rfl (Nat.le_of_ble_eq_true rfl) dL_tonnes_597 ⟨Nat.le_of_ble_eq_true rfl, Nat.le_of_ble_eq_true rfl⟩) hP hD hS hA (kJ_all) (fun _ => rfl) (fun r32 u H locs hw hP hD hS => ?_)
                          have hw := hw.trans (og_1 (g := g) (by omega))
                          subst hw
                          have hP : va_P D vwCl (wC Y w a b d M N F o z P n t kd V vc) H := hP
                          have hD : va_D A (wC Y w a b d M N F o z P n t kd V vc) := hD
                          refine lv_aload_n hx hb dL_tonnes_600 rfl (lv_at hl 0 rfl) ?_
                          refine lv_iload hx hb dL_tonnes_601 (lv_at hl 5 rfl) ?_
                          refine lv_iconst (v := 2) hx hb dL_tonnes_603 (by decide) ?_
                          refine kc_i (krV (As := [.int (nI g), .int 2]) (rest := [.int (M 2 g)]) (c_X7_ofGrower l D Y w a b d M N F o z P n t kd V vc (nI g) 2 hI) ⟨hx, hb, hml, hown, hta⟩ (cwL_22 hta ⟨Nat.le_of_ble_eq_true rfl, Nat.le_of_ble_eq_true rfl⟩) kX0b (fun _ _ _ => trivial) hK hNs hP hD (kJ_all) (q0 := 0) rfl rfl rfl rfl hl.1 rfl (Nat.le_of_ble_eq_true rfl) dL_tonnes_604 ⟨Nat.le_of_ble_eq_true rfl, Nat.le_of_ble_eq_true rfl⟩) hP hD hS hA (kJ_all) (fun _ => rfl) (fun r33 u H locs hw hP hD hS => ?_)
                          have hw := hw.trans (og_2 (g := g) (by omega))
                          subst hw
                          have hP : va_P D vwCl (wC Y w a b d M N F o z P n t kd V vc) H := hP
                          have hD : va_D A (wC Y w a b d M N F o z P n t kd V vc) := hD
                          refine lv_iload hx hb dL_tonnes_607 (lv_at hl 7 rfl) ?_
                          refine lv_iadd hx hb dL_tonnes_609 ?_
                          refine lv_icmp_ne (tgt := 640) hx hb dL_tonnes_610 (by decide) (fun h => absurd (pt_g1 hok (g := g) (by omega)) h) (fun _ => ?_)
                          refine lv_aload_n hx hb dL_tonnes_613 rfl (lv_at hl 0 rfl) ?_
                          refine lv_iload hx hb dL_tonnes_614 (lv_at hl 5 rfl) ?_
                          refine lv_iconst (v := 0) hx hb dL_tonnes_616 (by decide) ?_
                          refine kc_i (krV (As := [.int (nI g), .int 0]) (rest := []) (c_X7_ofGrower l D Y w a b d M N F o z P n t kd V vc (nI g) 0 hI) ⟨hx, hb, hml, hown, hta⟩ (cwL_22 hta ⟨Nat.le_of_ble_eq_true rfl, Nat.le_of_ble_eq_true rfl⟩) kX0b (fun _ _ _ => trivial) hK hNs hP hD (kJ_all) (q0 := 0) rfl rfl rfl rfl hl.1 rfl (Nat.le_of_ble_eq_true rfl) dL_tonnes_617 ⟨Nat.le_of_ble_eq_true rfl, Nat.le_of_ble_eq_true rfl⟩) hP hD hS hA (kJ_all) (fun _ => rfl) (fun r35 u H locs hw hP hD hS => ?_)
                          have hw := hw.trans (og_0 (g := g) (by omega))
                          subst hw
                          have hP : va_P D vwCl (wC Y w a b d M N F o z P n t kd V vc) H := hP
                          have hD : va_D A (wC Y w a b d M N F o z P n t kd V vc) := hD
                          refine lv_if_lt (tgt := 640) hx hb dL_tonnes_620 (by decide) (fun h => absurd h (pt_q0 hok (g := g) (by omega))) (fun _ => ?_)
                          refine lv_aload_n hx hb dL_tonnes_623 rfl (lv_at hl 0 rfl) ?_
                          refine lv_iload hx hb dL_tonnes_624 (lv_at hl 5 rfl) ?_
                          refine lv_iconst (v := 0) hx hb dL_tonnes_626 (by decide) ?_
                          refine kc_i (krV (As := [.int (nI g), .int 0]) (rest := []) (c_X7_ofGrower l D Y w a b d M N F o z P n t kd V vc (nI g) 0 hI) ⟨hx, hb, hml, hown, hta⟩ (cwL_22 hta ⟨Nat.le_of_ble_eq_true rfl, Nat.le_of_ble_eq_true rfl⟩) kX0b (fun _ _ _ => trivial) hK hNs hP hD (kJ_all) (q0 := 0) rfl rfl rfl rfl hl.1 rfl (Nat.le_of_ble_eq_true rfl) dL_tonnes_627 ⟨Nat.le_of_ble_eq_true rfl, Nat.le_of_ble_eq_true rfl⟩) hP hD hS hA (kJ_all) (fun _ => rfl) (fun r37 u H locs hw hP hD hS => ?_)
                          have hw := hw.trans (og_0 (g := g) (by omega))
                          subst hw
                          have hP : va_P D vwCl (wC Y w a b d M N F o z P n t kd V vc) H := hP
                          have hD : va_D A (wC Y w a b d M N F o z P n t kd V vc) := hD
                          refine lv_sipush (v := 9999) hx hb dL_tonnes_630 (by decide) ?_
                          refine lv_icmp_gt (tgt := 640) hx hb dL_tonnes_633 (by decide) (fun h => absurd h (pt_q1 hok (g := g) (by omega))) (fun _ => ?_)
                          refine lv_iconst (v := 1) hx hb dL_tonnes_636 (by decide) ?_
                          refine lv_goto (tgt := 641) hx hb dL_tonnes_637 (by decide) ?_
                          refine lv_istore (lv' := [(4, .int 1), (0, .ref (w 0)), (2, .int x2), (3, .int x3), (6, .int (sTo (M 5) g)), (7, .int (nI g)), (8, .int (cBurntTo M (nI g) (M 19 0) (nF M))), (9, .int (cItsTo M (nI g) (nF M))), (10, .int (nI (nF M)))]) hx hb dL_tonnes_641 hl (by decide) rfl (fun ls hl => ?_)
                          refine lv_iload hx hb dL_tonnes_643 (lv_at hl 4 rfl) ?_
                          refine lv_aload_n hx hb dL_tonnes_645 rfl (lv_at hl 1 rfl) ?_
                          refine lv_iload hx hb dL_tonnes_646 (lv_at hl 5 rfl) ?_
                          refine lv_iconst (v := 4) hx hb dL_tonnes_648 (by decide) ?_
                          refine kc_i (krV (As := [.int (nI g), .int 4]) (rest := [.int (sTo (M 5) g)]) (c_X7_ofGrower l D Y w a b d M N F o z P n t kd V vc (nI g) 4 hI) ⟨hx, hb, hml, hown, hta⟩ (cwL_22 hta ⟨Nat.le_of_ble_eq_true rfl, Nat.le_of_ble_eq_true rfl⟩) kX0b (fun _ _ _ => trivial) hK hNs hP hD (kJ_all) (q0 := 0) rfl rfl rfl rfl hl.1 rfl (Nat.le_of_ble_eq_true rfl) dL_tonnes_649 ⟨Nat.le_of_ble_eq_true rfl, Nat.le_of_ble_eq_true rfl⟩) hP hD hS hA (kJ_all) (fun _ => rfl) (fun r39 u H locs hw hP hD hS => ?_)
                          have hw := hw.trans (og_4 (g := g) (by omega))
                          subst hw
                          have hP : va_P D vwCl (wC Y w a b d M N F o z P n t kd V vc) H := hP
                          have hD : va_D A (wC Y w a b d M N F o z P n t kd V vc) := hD
                          refine lv_iadd hx hb dL_tonnes_652 ?_
                          refine kTop (y := sTo (M 5) (g + 1)) rfl ?_
                          refine lv_istore (lv' := [(6, .int (sTo (M 5) (g + 1))), (4, .int 1), (0, .ref (w 0)), (2, .int x2), (3, .int x3), (7, .int (nI g)), (8, .int (cBurntTo M (nI g) (M 19 0) (nF M))), (9, .int (cItsTo M (nI g) (nF M))), (10, .int (nI (nF M)))]) hx hb dL_tonnes_653 hl (by decide) rfl (fun ls hl => ?_)
                          refine lv_iload_n hx hb dL_tonnes_655 rfl (lv_at hl 3 rfl) ?_
                          refine lv_aload_n hx hb dL_tonnes_656 rfl (lv_at hl 2 rfl) ?_
                          refine lv_iload hx hb dL_tonnes_657 (lv_at hl 5 rfl) ?_
                          refine lv_iconst (v := 2) hx hb dL_tonnes_659 (by decide) ?_
                          refine kc_i (krV (As := [.int (nI g), .int 2]) (rest := [.int x2]) (c_X7_ofGrower l D Y w a b d M N F o z P n t kd V vc (nI g) 2 hI) ⟨hx, hb, hml, hown, hta⟩ (cwL_22 hta ⟨Nat.le_of_ble_eq_true rfl, Nat.le_of_ble_eq_true rfl⟩) kX0b (fun _ _ _ => trivial) hK hNs hP hD (kJ_all) (q0 := 0) rfl rfl rfl rfl hl.1 rfl (Nat.le_of_ble_eq_true rfl) dL_tonnes_660 ⟨Nat.le_of_ble_eq_true rfl, Nat.le_of_ble_eq_true rfl⟩) hP hD hS hA (kJ_all) (fun _ => rfl) (fun r40 u H locs hw hP hD hS => ?_)
                          have hw := hw.trans (og_2 (g := g) (by omega))
                          subst hw
                          have hP : va_P D vwCl (wC Y w a b d M N F o z P n t kd V vc) H := hP
                          have hD : va_D A (wC Y w a b d M N F o z P n t kd V vc) := hD
                          refine lv_isub hx hb dL_tonnes_663 ?_
                          refine lv_istore_n (lv' := [(2, .int (x2 - (M 3 g))), (6, .int (sTo (M 5) (g + 1))), (4, .int 1), (0, .ref (w 0)), (3, .int x3), (7, .int (nI g)), (8, .int (cBurntTo M (nI g) (M 19 0) (nF M))), (9, .int (cItsTo M (nI g) (nF M))), (10, .int (nI (nF M)))]) hx hb dL_tonnes_664 rfl hl (by decide) rfl (fun ls hl => ?_)
                          refine lv_iload_n hx hb dL_tonnes_665 rfl (lv_at hl 4 rfl) ?_
                          refine lv_aload_n hx hb dL_tonnes_666 rfl (lv_at hl 3 rfl) ?_
                          refine lv_iload hx hb dL_tonnes_667 (lv_at hl 5 rfl) ?_
                          refine lv_iconst (v := 3) hx hb dL_tonnes_669 (by decide) ?_
                          refine kc_i (krV (As := [.int (nI g), .int 3]) (rest := [.int x3]) (c_X7_ofGrower l D Y w a b d M N F o z P n t kd V vc (nI g) 3 hI) ⟨hx, hb, hml, hown, hta⟩ (cwL_22 hta ⟨Nat.le_of_ble_eq_true rfl, Nat.le_of_ble_eq_true rfl⟩) kX0b (fun _ _ _ => trivial) hK hNs hP hD (kJ_all) (q0 := 0) rfl rfl rfl rfl hl.1 rfl (Nat.le_of_ble_eq_true rfl) dL_tonnes_670 ⟨Nat.le_of_ble_eq_true rfl, Nat.le_of_ble_eq_true rfl⟩) hP hD hS hA (kJ_all) (fun _ => rfl) (fun r41 u H locs hw hP hD hS => ?_)
                          have hw := hw.trans (og_3 (g := g) (by omega))
                          subst hw
                          have hP : va_P D vwCl (wC Y w a b d M N F o z P n t kd V vc) H := hP
                          have hD : va_D A (wC Y w a b d M N F o z P n t kd V vc) := hD
                          refine lv_isub hx hb dL_tonnes_673 ?_
                          refine lv_istore_n (lv' := [(3, .int (x3 - (M 4 g))), (2, .int (x2 - (M 3 g))), (6, .int (sTo (M 5) (g + 1))), (4, .int 1), (0, .ref (w 0)), (7, .int (nI g)), (8, .int (cBurntTo M (nI g) (M 19 0) (nF M))), (9, .int (cItsTo M (nI g) (nF M))), (10, .int (nI (nF M)))]) hx hb dL_tonnes_674 rfl hl (by decide) rfl (fun ls hl => ?_)
                          refine lv_iinc (v := nI (g + 1)) (lv' := [(7, .int (nI (g + 1))), (3, .int (x3 - (M 4 g))), (2, .int (x2 - (M 3 g))), (6, .int (sTo (M 5) (g + 1))), (4, .int 1), (0, .ref (w 0)), (8, .int (cBurntTo M (nI g) (M 19 0) (nF M))), (9, .int (cItsTo M (nI g) (nF M))), (10, .int (nI (nF M)))]) hx hb dL_tonnes_675 hl (k := 5) rfl (nI_add g 1) (by decide) rfl (fun ls hl => ?_)
                          refine lv_goto (tgt := 471) hx hb dL_tonnes_678 (by decide) ?_
                          exact ih471 (g + 1) (x2 - (M 3 g)) (x3 - (M 4 g)) (by omega) (by omega) (by rw [hx2, i_subs]; rfl) (by rw [hx3, i_subs]; rfl) _ _ hP hD hS ls (lv_sub hl [5, 2, 1, 4, 3, 0] rfl)
                        · have c29n : ¬ (nF M) ≤ f := fun h => c29 ((nI_leI (a := nF M) (b := f) (by omega) (by omega)).mpr h)
                          refine lv_aload_n hx hb dL_tonnes_502 rfl (lv_at hl 0 rfl) ?_
                          refine lv_iload hx hb dL_tonnes_503 (lv_at hl 8 rfl) ?_
                          refine lv_iconst (v := 0) hx hb dL_tonnes_505 (by decide) ?_
                          refine kc_i (krV (As := [.int (nI f), .int 0]) (rest := []) (c_X7_ofField l D Y w a b d M N F o z P n t kd V vc (nI f) 0 hI) ⟨hx, hb, hml, hown, hta⟩ (cwL_15 hta ⟨Nat.le_of_ble_eq_true rfl, Nat.le_of_ble_eq_true rfl⟩) kX0b (fun _ _ _ => trivial) hK hNs hP hD (kJ_all) (q0 := 0) rfl rfl rfl rfl hl.1 rfl (Nat.le_of_ble_eq_true rfl) dL_tonnes_506 ⟨Nat.le_of_ble_eq_true rfl, Nat.le_of_ble_eq_true rfl⟩) hP hD hS hA (kJ_all) (fun _ => rfl) (fun r42 u H locs hw hP hD hS => ?_)
                          have hw := hw.trans (of_0 hI (f := f) (by omega))
                          subst hw
                          have hP : va_P D vwCl (wC Y w a b d M N F o z P n t kd V vc) H := hP
                          have hD : va_D A (wC Y w a b d M N F o z P n t kd V vc) := hD
                          refine lv_iload hx hb dL_tonnes_509 (lv_at hl 5 rfl) ?_
                          refine lv_icmp_ne (tgt := 518) hx hb dL_tonnes_511 (by decide) (fun c43 => ?_) (fun c43 => ?_)
                          · refine lv_iconst (v := 0) hx hb dL_tonnes_518 (by decide) ?_
                            refine lv_istore (lv' := [(11, .int 0), (0, .ref (w 0)), (2, .int x2), (3, .int x3), (4, .int 1), (6, .int (sTo (M 5) g)), (7, .int (nI g)), (8, .int (cBurntTo M (nI g) (M 19 0) f)), (9, .int (cItsTo M (nI g) f)), (10, .int (nI f))]) hx hb dL_tonnes_519 hl (by decide) rfl (fun ls hl => ?_)
                            refine lv_iload hx hb dL_tonnes_521 (lv_at hl 7 rfl) ?_
                            refine lv_iload hx hb dL_tonnes_523 (lv_at hl 0 rfl) ?_
                            refine lv_if_eq (tgt := 549) hx hb dL_tonnes_525 (by decide) (fun _ => ?_) (fun h => False.elim (by revert h; decide))
                            refine lv_iconst (v := 0) hx hb dL_tonnes_549 (by decide) ?_
                            refine lv_iadd hx hb dL_tonnes_550 ?_
                            have eb : (cBurntTo M (nI g) (M 19 0) f) + 0 = cBurntTo M (nI g) (M 19 0) (f + 1) := by show _ = (if M 6 f = nI g ∧ cHow M f (M 19 0) = 1 then _ else _); rw [if_neg (fun q => c43 q.1), Int32.add_zero]
                            refine kTop eb ?_
                            refine lv_istore (lv' := [(8, .int (cBurntTo M (nI g) (M 19 0) (f + 1))), (11, .int 0), (0, .ref (w 0)), (2, .int x2), (3, .int x3), (4, .int 1), (6, .int (sTo (M 5) g)), (7, .int (nI g)), (9, .int (cItsTo M (nI g) f)), (10, .int (nI f))]) hx hb dL_tonnes_551 hl (by decide) rfl (fun ls hl => ?_)
                            refine lv_iload hx hb dL_tonnes_553 (lv_at hl 8 rfl) ?_
                            refine lv_iload hx hb dL_tonnes_555 (lv_at hl 1 rfl) ?_
                            refine lv_if_eq (tgt := 571) hx hb dL_tonnes_557 (by decide) (fun _ => ?_) (fun h => False.elim (by revert h; decide))
                            refine lv_iconst (v := 0) hx hb dL_tonnes_571 (by decide) ?_
                            refine lv_iadd hx hb dL_tonnes_572 ?_
                            have ei : (cItsTo M (nI g) f) + 0 = cItsTo M (nI g) (f + 1) := by show _ = (if M 6 f = nI g then _ else _); rw [if_neg c43, Int32.add_zero]
                            refine kTop ei ?_
                            refine lv_istore (lv' := [(9, .int (cItsTo M (nI g) (f + 1))), (8, .int (cBurntTo M (nI g) (M 19 0) (f + 1))), (11, .int 0), (0, .ref (w 0)), (2, .int x2), (3, .int x3), (4, .int 1), (6, .int (sTo (M 5) g)), (7, .int (nI g)), (10, .int (nI f))]) hx hb dL_tonnes_573 hl (by decide) rfl (fun ls hl => ?_)
                            refine lv_iinc (v := nI (f + 1)) (lv' := [(10, .int (nI (f + 1))), (9, .int (cItsTo M (nI g) (f + 1))), (8, .int (cBurntTo M (nI g) (M 19 0) (f + 1))), (11, .int 0), (0, .ref (w 0)), (2, .int x2), (3, .int x3), (4, .int 1), (6, .int (sTo (M 5) g)), (7, .int (nI g))]) hx hb dL_tonnes_575 hl (k := 9) rfl (nI_add f 1) (by decide) rfl (fun ls hl => ?_)
                            refine lv_goto (tgt := 492) hx hb dL_tonnes_578 (by decide) ?_
                            exact ih492 (f + 1) (by omega) (by omega) _ _ hP hD hS ls (lv_sub hl [4, 5, 6, 7, 8, 9, 2, 1, 0] rfl)
                          · refine lv_iconst (v := 1) hx hb dL_tonnes_514 (by decide) ?_
                            refine lv_goto (tgt := 519) hx hb dL_tonnes_515 (by decide) ?_
                            refine lv_istore (lv' := [(11, .int 1), (0, .ref (w 0)), (2, .int x2), (3, .int x3), (4, .int 1), (6, .int (sTo (M 5) g)), (7, .int (nI g)), (8, .int (cBurntTo M (nI g) (M 19 0) f)), (9, .int (cItsTo M (nI g) f)), (10, .int (nI f))]) hx hb dL_tonnes_519 hl (by decide) rfl (fun ls hl => ?_)
                            refine lv_iload hx hb dL_tonnes_521 (lv_at hl 7 rfl) ?_
                            refine lv_iload hx hb dL_tonnes_523 (lv_at hl 0 rfl) ?_
                            refine lv_if_eq (tgt := 549) hx hb dL_tonnes_525 (by decide) (fun h => False.elim (by revert h; decide)) (fun _ => ?_)
                            refine lv_aload_n hx hb dL_tonnes_528 rfl (lv_at hl 1 rfl) ?_
                            refine lv_iload hx hb dL_tonnes_529 (lv_at hl 9 rfl) ?_
                            refine lv_iconst (v := 4) hx hb dL_tonnes_531 (by decide) ?_
                            refine kc_i (krV (As := [.int (nI f), .int 4]) (rest := [.int (cBurntTo M (nI g) (M 19 0) f)]) (c_X7_ofField l D Y w a b d M N F o z P n t kd V vc (nI f) 4 hI) ⟨hx, hb, hml, hown, hta⟩ (cwL_15 hta ⟨Nat.le_of_ble_eq_true rfl, Nat.le_of_ble_eq_true rfl⟩) kX0b (fun _ _ _ => trivial) hK hNs hP hD (kJ_all) (q0 := 0) rfl rfl rfl rfl hl.1 rfl (Nat.le_of_ble_eq_true rfl) dL_tonnes_532 ⟨Nat.le_of_ble_eq_true rfl, Nat.le_of_ble_eq_true rfl⟩) hP hD hS hA (kJ_all) (fun _ => rfl) (fun r44 u H locs hw hP hD hS => ?_)
                            have hw := hw.trans (of_4 hI (f := f) (by omega))
                            subst hw
                            have hP : va_P D vwCl (wC Y w a b d M N F o z P n t kd V vc) H := hP
                            have hD : va_D A (wC Y w a b d M N F o z P n t kd V vc) := hD
                            refine lv_iconst (v := 1) hx hb dL_tonnes_535 (by decide) ?_
                            refine lv_icmp_ne (tgt := 549) hx hb dL_tonnes_536 (by decide) (fun c45 => ?_) (fun c45 => ?_)
                            · refine lv_iconst (v := 0) hx hb dL_tonnes_549 (by decide) ?_
                              refine lv_iadd hx hb dL_tonnes_550 ?_
                              have eb : (cBurntTo M (nI g) (M 19 0) f) + 0 = cBurntTo M (nI g) (M 19 0) (f + 1) := by show _ = (if M 6 f = nI g ∧ cHow M f (M 19 0) = 1 then _ else _); rw [if_neg (fun q => c45 q.2), Int32.add_zero]
                              refine kTop eb ?_
                              refine lv_istore (lv' := [(8, .int (cBurntTo M (nI g) (M 19 0) (f + 1))), (11, .int 1), (0, .ref (w 0)), (2, .int x2), (3, .int x3), (4, .int 1), (6, .int (sTo (M 5) g)), (7, .int (nI g)), (9, .int (cItsTo M (nI g) f)), (10, .int (nI f))]) hx hb dL_tonnes_551 hl (by decide) rfl (fun ls hl => ?_)
                              refine lv_iload hx hb dL_tonnes_553 (lv_at hl 8 rfl) ?_
                              refine lv_iload hx hb dL_tonnes_555 (lv_at hl 1 rfl) ?_
                              refine lv_if_eq (tgt := 571) hx hb dL_tonnes_557 (by decide) (fun h => False.elim (by revert h; decide)) (fun _ => ?_)
                              refine lv_aload_n hx hb dL_tonnes_560 rfl (lv_at hl 2 rfl) ?_
                              refine lv_iload hx hb dL_tonnes_561 (lv_at hl 9 rfl) ?_
                              refine lv_bipush (v := 6) hx hb dL_tonnes_563 (by decide) ?_
                              refine kc_i (krV (As := [.int (nI f), .int 6]) (rest := [.int (cItsTo M (nI g) f)]) (c_X7_ofField l D Y w a b d M N F o z P n t kd V vc (nI f) 6 hI) ⟨hx, hb, hml, hown, hta⟩ (cwL_15 hta ⟨Nat.le_of_ble_eq_true rfl, Nat.le_of_ble_eq_true rfl⟩) kX0b (fun _ _ _ => trivial) hK hNs hP hD (kJ_all) (q0 := 0) rfl rfl rfl rfl hl.1 rfl (Nat.le_of_ble_eq_true rfl) dL_tonnes_565 ⟨Nat.le_of_ble_eq_true rfl, Nat.le_of_ble_eq_true rfl⟩) hP hD hS hA (kJ_all) (fun _ => rfl) (fun r46 u H locs hw hP hD hS => ?_)
                              have hw := hw.trans (of_6 hI (f := f) (by omega))
                              subst hw
                              have hP : va_P D vwCl (wC Y w a b d M N F o z P n t kd V vc) H := hP
                              have hD : va_D A (wC Y w a b d M N F o z P n t kd V vc) := hD
                              refine lv_goto (tgt := 572) hx hb dL_tonnes_568 (by decide) ?_
                              refine lv_iadd hx hb dL_tonnes_572 ?_
                              have ei : (cItsTo M (nI g) f) + (M 11 f) = cItsTo M (nI g) (f + 1) := by show _ = (if M 6 f = nI g then _ else _); rw [if_pos c43]
                              refine kTop ei ?_
                              refine lv_istore (lv' := [(9, .int (cItsTo M (nI g) (f + 1))), (8, .int (cBurntTo M (nI g) (M 19 0) (f + 1))), (11, .int 1), (0, .ref (w 0)), (2, .int x2), (3, .int x3), (4, .int 1), (6, .int (sTo (M 5) g)), (7, .int (nI g)), (10, .int (nI f))]) hx hb dL_tonnes_573 hl (by decide) rfl (fun ls hl => ?_)
                              refine lv_iinc (v := nI (f + 1)) (lv' := [(10, .int (nI (f + 1))), (9, .int (cItsTo M (nI g) (f + 1))), (8, .int (cBurntTo M (nI g) (M 19 0) (f + 1))), (11, .int 1), (0, .ref (w 0)), (2, .int x2), (3, .int x3), (4, .int 1), (6, .int (sTo (M 5) g)), (7, .int (nI g))]) hx hb dL_tonnes_575 hl (k := 9) rfl (nI_add f 1) (by decide) rfl (fun ls hl => ?_)
                              refine lv_goto (tgt := 492) hx hb dL_tonnes_578 (by decide) ?_
                              exact ih492 (f + 1) (by omega) (by omega) _ _ hP hD hS ls (lv_sub hl [4, 5, 6, 7, 8, 9, 2, 1, 0] rfl)
                            · refine lv_aload_n hx hb dL_tonnes_539 rfl (lv_at hl 1 rfl) ?_
                              refine lv_iload hx hb dL_tonnes_540 (lv_at hl 9 rfl) ?_
                              refine lv_iconst (v := 5) hx hb dL_tonnes_542 (by decide) ?_
                              refine kc_i (krV (As := [.int (nI f), .int 5]) (rest := [.int (cBurntTo M (nI g) (M 19 0) f)]) (c_X7_ofField l D Y w a b d M N F o z P n t kd V vc (nI f) 5 hI) ⟨hx, hb, hml, hown, hta⟩ (cwL_15 hta ⟨Nat.le_of_ble_eq_true rfl, Nat.le_of_ble_eq_true rfl⟩) kX0b (fun _ _ _ => trivial) hK hNs hP hD (kJ_all) (q0 := 0) rfl rfl rfl rfl hl.1 rfl (Nat.le_of_ble_eq_true rfl) dL_tonnes_543 ⟨Nat.le_of_ble_eq_true rfl, Nat.le_of_ble_eq_true rfl⟩) hP hD hS hA (kJ_all) (fun _ => rfl) (fun r47 u H locs hw hP hD hS => ?_)
                              have hw := hw.trans (of_5 hI (f := f) (by omega))
                              subst hw
                              have hP : va_P D vwCl (wC Y w a b d M N F o z P n t kd V vc) H := hP
                              have hD : va_D A (wC Y w a b d M N F o z P n t kd V vc) := hD
                              refine lv_goto (tgt := 550) hx hb dL_tonnes_546 (by decide) ?_
                              refine lv_iadd hx hb dL_tonnes_550 ?_
                              have eb : (cBurntTo M (nI g) (M 19 0) f) + (M 10 f) = cBurntTo M (nI g) (M 19 0) (f + 1) := by show _ = (if M 6 f = nI g ∧ cHow M f (M 19 0) = 1 then _ else _); rw [if_pos ⟨c43, c45⟩]
                              refine kTop eb ?_
                              refine lv_istore (lv' := [(8, .int (cBurntTo M (nI g) (M 19 0) (f + 1))), (11, .int 1), (0, .ref (w 0)), (2, .int x2), (3, .int x3), (4, .int 1), (6, .int (sTo (M 5) g)), (7, .int (nI g)), (9, .int (cItsTo M (nI g) f)), (10, .int (nI f))]) hx hb dL_tonnes_551 hl (by decide) rfl (fun ls hl => ?_)
                              refine lv_iload hx hb dL_tonnes_553 (lv_at hl 8 rfl) ?_
                              refine lv_iload hx hb dL_tonnes_555 (lv_at hl 1 rfl) ?_
                              refine lv_if_eq (tgt := 571) hx hb dL_tonnes_557 (by decide) (fun h => False.elim (by revert h; decide)) (fun _ => ?_)
                              refine lv_aload_n hx hb dL_tonnes_560 rfl (lv_at hl 2 rfl) ?_
                              refine lv_iload hx hb dL_tonnes_561 (lv_at hl 9 rfl) ?_
                              refine lv_bipush (v := 6) hx hb dL_tonnes_563 (by decide) ?_
                              refine kc_i (krV (As := [.int (nI f), .int 6]) (rest := [.int (cItsTo M (nI g) f)]) (c_X7_ofField l D Y w a b d M N F o z P n t kd V vc (nI f) 6 hI) ⟨hx, hb, hml, hown, hta⟩ (cwL_15 hta ⟨Nat.le_of_ble_eq_true rfl, Nat.le_of_ble_eq_true rfl⟩) kX0b (fun _ _ _ => trivial) hK hNs hP hD (kJ_all) (q0 := 0) rfl rfl rfl rfl hl.1 rfl (Nat.le_of_ble_eq_true rfl) dL_tonnes_565 ⟨Nat.le_of_ble_eq_true rfl, Nat.le_of_ble_eq_true rfl⟩) hP hD hS hA (kJ_all) (fun _ => rfl) (fun r48 u H locs hw hP hD hS => ?_)
                              have hw := hw.trans (of_6 hI (f := f) (by omega))
                              subst hw
                              have hP : va_P D vwCl (wC Y w a b d M N F o z P n t kd V vc) H := hP
                              have hD : va_D A (wC Y w a b d M N F o z P n t kd V vc) := hD
                              refine lv_goto (tgt := 572) hx hb dL_tonnes_568 (by decide) ?_
                              refine lv_iadd hx hb dL_tonnes_572 ?_
                              have ei : (cItsTo M (nI g) f) + (M 11 f) = cItsTo M (nI g) (f + 1) := by show _ = (if M 6 f = nI g then _ else _); rw [if_pos c43]
                              refine kTop ei ?_
                              refine lv_istore (lv' := [(9, .int (cItsTo M (nI g) (f + 1))), (8, .int (cBurntTo M (nI g) (M 19 0) (f + 1))), (11, .int 1), (0, .ref (w 0)), (2, .int x2), (3, .int x3), (4, .int 1), (6, .int (sTo (M 5) g)), (7, .int (nI g)), (10, .int (nI f))]) hx hb dL_tonnes_573 hl (by decide) rfl (fun ls hl => ?_)
                              refine lv_iinc (v := nI (f + 1)) (lv' := [(10, .int (nI (f + 1))), (9, .int (cItsTo M (nI g) (f + 1))), (8, .int (cBurntTo M (nI g) (M 19 0) (f + 1))), (11, .int 1), (0, .ref (w 0)), (2, .int x2), (3, .int x3), (4, .int 1), (6, .int (sTo (M 5) g)), (7, .int (nI g))]) hx hb dL_tonnes_575 hl (k := 9) rfl (nI_add f 1) (by decide) rfl (fun ls hl => ?_)
                              refine lv_goto (tgt := 492) hx hb dL_tonnes_578 (by decide) ?_
                              exact ih492 (f + 1) (by omega) (by omega) _ _ hP hD hS ls (lv_sub hl [4, 5, 6, 7, 8, 9, 2, 1, 0] rfl)
                    exact loop492 ((nF M - 0) + 1) 0 (Nat.lt_succ_self _) (by omega) _ _ hP hD hS ls (lv_sub hl [3, 4, 5, 6, 7, 8, 2, 1, 0] rfl)
              exact loop471 ((6 - 0) + 1) 0 (sTo (M 12) (nF M)) (sTo (M 13) (nF M)) (Nat.lt_succ_self _) (by omega) ((Int32.sub_zero _).symm) ((Int32.sub_zero _).symm) _ _ hP hD hS ls (lv_sub hl [3, 5, 6, 2, 1, 0] rfl)
            · have c8n : ¬ (nY M) ≤ k := fun h => c8 ((nI_leI (a := nY M) (b := k) (by omega) (by omega)).mpr h)
              refine lv_iload hx hb dL_tonnes_292 (lv_at hl 4 rfl) ?_
              refine lv_if_eq (tgt := 398) hx hb dL_tonnes_294 (by decide) (fun h => False.elim (by revert h; decide)) (fun _ => ?_)
              refine lv_aload_n hx hb dL_tonnes_297 rfl (lv_at hl 0 rfl) ?_
              refine lv_iload hx hb dL_tonnes_298 (lv_at hl 6 rfl) ?_
              refine lv_iconst (v := 1) hx hb dL_tonnes_300 (by decide) ?_
              refine kc_i (krV (As := [.int (nI k), .int 1]) (rest := []) (c_X7_load l D Y w a b d M N F o z P n t kd V vc (nI k) 1 hI) ⟨hx, hb, hml, hown, hta⟩ (cwL_19 hta ⟨Nat.le_of_ble_eq_true rfl, Nat.le_of_ble_eq_true rfl⟩) kX0b (fun _ _ _ => trivial) hK hNs hP hD (kJ_all) (q0 := 0) rfl rfl rfl rfl hl.1 rfl (Nat.le_of_ble_eq_true rfl) dL_tonnes_301 ⟨Nat.le_of_ble_eq_true rfl, Nat.le_of_ble_eq_true rfl⟩) hP hD hS hA (kJ_all) (fun _ => rfl) (fun r49 u H locs hw hP hD hS => ?_)
              have hw := hw.trans (lo_1 hI (k := k) (by omega))
              subst hw
              have hP : va_P D vwCl (wC Y w a b d M N F o z P n t kd V vc) H := hP
              have hD : va_D A (wC Y w a b d M N F o z P n t kd V vc) := hD
              refine lv_if_le (tgt := 377) hx hb dL_tonnes_304 (by decide) (fun h => absurd h ((pt_ld1 hok (k := k) (by omega)).1)) (fun _ => ?_)
              refine lv_aload_n hx hb dL_tonnes_307 rfl (lv_at hl 0 rfl) ?_
              refine lv_iload hx hb dL_tonnes_308 (lv_at hl 6 rfl) ?_
              refine lv_iconst (v := 1) hx hb dL_tonnes_310 (by decide) ?_
              refine kc_i (krV (As := [.int (nI k), .int 1]) (rest := []) (c_X7_load l D Y w a b d M N F o z P n t kd V vc (nI k) 1 hI) ⟨hx, hb, hml, hown, hta⟩ (cwL_19 hta ⟨Nat.le_of_ble_eq_true rfl, Nat.le_of_ble_eq_true rfl⟩) kX0b (fun _ _ _ => trivial) hK hNs hP hD (kJ_all) (q0 := 0) rfl rfl rfl rfl hl.1 rfl (Nat.le_of_ble_eq_true rfl) dL_tonnes_311 ⟨Nat.le_of_ble_eq_true rfl, Nat.le_of_ble_eq_true rfl⟩) hP hD hS hA (kJ_all) (fun _ => rfl) (fun r51 u H locs hw hP hD hS => ?_)
              have hw := hw.trans (lo_1 hI (k := k) (by omega))
              subst hw
              have hP : va_P D vwCl (wC Y w a b d M N F o z P n t kd V vc) H := hP
              have hD : va_D A (wC Y w a b d M N F o z P n t kd V vc) := hD
              refine lv_bipush (v := 30) hx hb dL_tonnes_314 (by decide) ?_
              refine lv_icmp_gt (tgt := 377) hx hb dL_tonnes_316 (by decide) (fun h => absurd h ((pt_ld1 hok (k := k) (by omega)).2)) (fun _ => ?_)
              refine lv_aload_n hx hb dL_tonnes_319 rfl (lv_at hl 0 rfl) ?_
              refine lv_iload hx hb dL_tonnes_320 (lv_at hl 6 rfl) ?_
              refine lv_iconst (v := 2) hx hb dL_tonnes_322 (by decide) ?_
              refine kc_i (krV (As := [.int (nI k), .int 2]) (rest := []) (c_X7_load l D Y w a b d M N F o z P n t kd V vc (nI k) 2 hI) ⟨hx, hb, hml, hown, hta⟩ (cwL_19 hta ⟨Nat.le_of_ble_eq_true rfl, Nat.le_of_ble_eq_true rfl⟩) kX0b (fun _ _ _ => trivial) hK hNs hP hD (kJ_all) (q0 := 0) rfl rfl rfl rfl hl.1 rfl (Nat.le_of_ble_eq_true rfl) dL_tonnes_323 ⟨Nat.le_of_ble_eq_true rfl, Nat.le_of_ble_eq_true rfl⟩) hP hD hS hA (kJ_all) (fun _ => rfl) (fun r53 u H locs hw hP hD hS => ?_)
              have hw := hw.trans (lo_2 hI (k := k) (by omega))
              subst hw
              have hP : va_P D vwCl (wC Y w a b d M N F o z P n t kd V vc) H := hP
              have hD : va_D A (wC Y w a b d M N F o z P n t kd V vc) := hD
              refine lv_aload_n hx hb dL_tonnes_326 rfl (lv_at hl 0 rfl) ?_
              refine lv_iconst (v := 0) hx hb dL_tonnes_327 (by decide) ?_
              refine kc_i (krV (As := [.int 0]) (rest := [.int (M 18 k)]) (c_X7_count l D Y w a b d M N F o z P n t kd V vc 0 hI) ⟨hx, hb, hml, hown, hta⟩ (cwL_9 hta ⟨Nat.le_of_ble_eq_true rfl, Nat.le_of_ble_eq_true rfl⟩) kX0b (fun _ _ _ => trivial) hK hNs hP hD (kJ_all) (q0 := 0) rfl rfl rfl rfl hl.1 rfl (Nat.le_of_ble_eq_true rfl) dL_tonnes_328 ⟨Nat.le_of_ble_eq_true rfl, Nat.le_of_ble_eq_true rfl⟩) hP hD hS hA (kJ_all) (fun _ => rfl) (fun r54 u H locs hw hP hD hS => ?_)
              have hw := hw.trans (ct_0 M n z)
              subst hw
              have hP : va_P D vwCl (wC Y w a b d M N F o z P n t kd V vc) H := hP
              have hD : va_D A (wC Y w a b d M N F o z P n t kd V vc) := hD
              refine lv_icmp_ge (tgt := 377) hx hb dL_tonnes_331 (by decide) (fun h => absurd h (pt_ld2 hok (k := k) (by omega))) (fun _ => ?_)
              refine lv_iload hx hb dL_tonnes_334 (lv_at hl 6 rfl) ?_
              refine lv_if_eq (tgt := 358) hx hb dL_tonnes_336 (by decide) (fun c56 => ?_) (fun c56 => ?_)
              · have c56n : k = 0 := (nI_eq (a := k) (b := 0) (by omega) (by omega)).mp c56
                refine lv_aload_n hx hb dL_tonnes_358 rfl (lv_at hl 0 rfl) ?_
                refine lv_iload hx hb dL_tonnes_359 (lv_at hl 6 rfl) ?_
                refine lv_iconst (v := 0) hx hb dL_tonnes_361 (by decide) ?_
                refine kc_i (krV (As := [.int (nI k), .int 0]) (rest := []) (c_X7_load l D Y w a b d M N F o z P n t kd V vc (nI k) 0 hI) ⟨hx, hb, hml, hown, hta⟩ (cwL_19 hta ⟨Nat.le_of_ble_eq_true rfl, Nat.le_of_ble_eq_true rfl⟩) kX0b (fun _ _ _ => trivial) hK hNs hP hD (kJ_all) (q0 := 0) rfl rfl rfl rfl hl.1 rfl (Nat.le_of_ble_eq_true rfl) dL_tonnes_362 ⟨Nat.le_of_ble_eq_true rfl, Nat.le_of_ble_eq_true rfl⟩) hP hD hS hA (kJ_all) (fun _ => rfl) (fun r57 u H locs hw hP hD hS => ?_)
                have hw := hw.trans (lo_0 hI (k := k) (by omega))
                subst hw
                have hP : va_P D vwCl (wC Y w a b d M N F o z P n t kd V vc) H := hP
                have hD : va_D A (wC Y w a b d M N F o z P n t kd V vc) := hD
                refine lv_aload_n hx hb dL_tonnes_365 rfl (lv_at hl 0 rfl) ?_
                refine lv_iconst (v := 1) hx hb dL_tonnes_366 (by decide) ?_
                refine kc_i (krV (As := [.int 1]) (rest := [.int (M 16 k)]) (c_X7_count l D Y w a b d M N F o z P n t kd V vc 1 hI) ⟨hx, hb, hml, hown, hta⟩ (cwL_9 hta ⟨Nat.le_of_ble_eq_true rfl, Nat.le_of_ble_eq_true rfl⟩) kX0b (fun _ _ _ => trivial) hK hNs hP hD (kJ_all) (q0 := 0) rfl rfl rfl rfl hl.1 rfl (Nat.le_of_ble_eq_true rfl) dL_tonnes_367 ⟨Nat.le_of_ble_eq_true rfl, Nat.le_of_ble_eq_true rfl⟩) hP hD hS hA (kJ_all) (fun _ => rfl) (fun r58 u H locs hw hP hD hS => ?_)
                have hw := hw.trans (ct_1 hI n z)
                subst hw
                have hP : va_P D vwCl (wC Y w a b d M N F o z P n t kd V vc) H := hP
                have hD : va_D A (wC Y w a b d M N F o z P n t kd V vc) := hD
                refine lv_icmp_ge (tgt := 377) hx hb dL_tonnes_370 (by decide) (fun h => absurd h (Int32.not_le.mpr (pt_ld0 hok (k := k) (by omega)))) (fun _ => ?_)
                refine lv_iconst (v := 1) hx hb dL_tonnes_373 (by decide) ?_
                refine lv_goto (tgt := 378) hx hb dL_tonnes_374 (by decide) ?_
                refine lv_istore (lv' := [(4, .int 1), (0, .ref (w 0)), (1, .int (sTo (M 11) (nF M))), (2, .int (sTo (M 12) (nF M))), (3, .int (sTo (M 13) (nF M))), (5, .int (sTo (M 17) k)), (6, .int (nI k))]) hx hb dL_tonnes_378 hl (by decide) rfl (fun ls hl => ?_)
                refine lv_iload hx hb dL_tonnes_380 (lv_at hl 5 rfl) ?_
                refine lv_aload_n hx hb dL_tonnes_382 rfl (lv_at hl 1 rfl) ?_
                refine lv_iload hx hb dL_tonnes_383 (lv_at hl 6 rfl) ?_
                refine lv_iconst (v := 1) hx hb dL_tonnes_385 (by decide) ?_
                refine kc_i (krV (As := [.int (nI k), .int 1]) (rest := [.int (sTo (M 17) k)]) (c_X7_load l D Y w a b d M N F o z P n t kd V vc (nI k) 1 hI) ⟨hx, hb, hml, hown, hta⟩ (cwL_19 hta ⟨Nat.le_of_ble_eq_true rfl, Nat.le_of_ble_eq_true rfl⟩) kX0b (fun _ _ _ => trivial) hK hNs hP hD (kJ_all) (q0 := 0) rfl rfl rfl rfl hl.1 rfl (Nat.le_of_ble_eq_true rfl) dL_tonnes_386 ⟨Nat.le_of_ble_eq_true rfl, Nat.le_of_ble_eq_true rfl⟩) hP hD hS hA (kJ_all) (fun _ => rfl) (fun r60 u H locs hw hP hD hS => ?_)
                have hw := hw.trans (lo_1 hI (k := k) (by omega))
                subst hw
                have hP : va_P D vwCl (wC Y w a b d M N F o z P n t kd V vc) H := hP
                have hD : va_D A (wC Y w a b d M N F o z P n t kd V vc) := hD
                refine lv_iadd hx hb dL_tonnes_389 ?_
                refine kTop (y := sTo (M 17) (k + 1)) rfl ?_
                refine lv_istore (lv' := [(5, .int (sTo (M 17) (k + 1))), (4, .int 1), (0, .ref (w 0)), (1, .int (sTo (M 11) (nF M))), (2, .int (sTo (M 12) (nF M))), (3, .int (sTo (M 13) (nF M))), (6, .int (nI k))]) hx hb dL_tonnes_390 hl (by decide) rfl (fun ls hl => ?_)
                refine lv_iinc (v := nI (k + 1)) (lv' := [(6, .int (nI (k + 1))), (5, .int (sTo (M 17) (k + 1))), (4, .int 1), (0, .ref (w 0)), (1, .int (sTo (M 11) (nF M))), (2, .int (sTo (M 12) (nF M))), (3, .int (sTo (M 13) (nF M)))]) hx hb dL_tonnes_392 hl (k := 6) rfl (nI_add k 1) (by decide) rfl (fun ls hl => ?_)
                refine lv_goto (tgt := 282) hx hb dL_tonnes_395 (by decide) ?_
                exact ih282 (k + 1) (by omega) (by omega) _ _ hP hD hS ls (lv_sub hl [3, 4, 5, 6, 2, 1, 0] rfl)
              · have c56n : ¬ k = 0 := fun h => c56 ((nI_eq (a := k) (b := 0) (by omega) (by omega)).mpr h)
                refine lv_aload_n hx hb dL_tonnes_339 rfl (lv_at hl 0 rfl) ?_
                refine lv_iload hx hb dL_tonnes_340 (lv_at hl 6 rfl) ?_
                refine lv_iconst (v := 2) hx hb dL_tonnes_342 (by decide) ?_
                refine kc_i (krV (As := [.int (nI k), .int 2]) (rest := []) (c_X7_load l D Y w a b d M N F o z P n t kd V vc (nI k) 2 hI) ⟨hx, hb, hml, hown, hta⟩ (cwL_19 hta ⟨Nat.le_of_ble_eq_true rfl, Nat.le_of_ble_eq_true rfl⟩) kX0b (fun _ _ _ => trivial) hK hNs hP hD (kJ_all) (q0 := 0) rfl rfl rfl rfl hl.1 rfl (Nat.le_of_ble_eq_true rfl) dL_tonnes_343 ⟨Nat.le_of_ble_eq_true rfl, Nat.le_of_ble_eq_true rfl⟩) hP hD hS hA (kJ_all) (fun _ => rfl) (fun r61 u H locs hw hP hD hS => ?_)
                have hw := hw.trans (lo_2 hI (k := k) (by omega))
                subst hw
                have hP : va_P D vwCl (wC Y w a b d M N F o z P n t kd V vc) H := hP
                have hD : va_D A (wC Y w a b d M N F o z P n t kd V vc) := hD
                refine lv_aload_n hx hb dL_tonnes_346 rfl (lv_at hl 0 rfl) ?_
                refine lv_iload hx hb dL_tonnes_347 (lv_at hl 6 rfl) ?_
                refine lv_iconst (v := 1) hx hb dL_tonnes_349 (by decide) ?_
                refine lv_isub hx hb dL_tonnes_350 ?_
                refine kTop (pk_sub (a := k) (b := 1) (by omega)) ?_
                refine lv_iconst (v := 2) hx hb dL_tonnes_351 (by decide) ?_
                refine kc_i (krV (As := [.int (nI (k - 1)), .int 2]) (rest := [.int (M 18 k)]) (c_X7_load l D Y w a b d M N F o z P n t kd V vc (nI (k - 1)) 2 hI) ⟨hx, hb, hml, hown, hta⟩ (cwL_19 hta ⟨Nat.le_of_ble_eq_true rfl, Nat.le_of_ble_eq_true rfl⟩) kX0b (fun _ _ _ => trivial) hK hNs hP hD (kJ_all) (q0 := 0) rfl rfl rfl rfl hl.1 rfl (Nat.le_of_ble_eq_true rfl) dL_tonnes_352 ⟨Nat.le_of_ble_eq_true rfl, Nat.le_of_ble_eq_true rfl⟩) hP hD hS hA (kJ_all) (fun _ => rfl) (fun r62 u H locs hw hP hD hS => ?_)
                have hw := hw.trans (lo_2 hI (k := (k - 1)) (by omega))
                subst hw
                have hP : va_P D vwCl (wC Y w a b d M N F o z P n t kd V vc) H := hP
                have hD : va_D A (wC Y w a b d M N F o z P n t kd V vc) := hD
                refine lv_icmp_lt (tgt := 377) hx hb dL_tonnes_355 (by decide) (fun h => absurd h (pt_ld3 hok (k := k) (by omega) (by omega))) (fun _ => ?_)
                refine lv_aload_n hx hb dL_tonnes_358 rfl (lv_at hl 0 rfl) ?_
                refine lv_iload hx hb dL_tonnes_359 (lv_at hl 6 rfl) ?_
                refine lv_iconst (v := 0) hx hb dL_tonnes_361 (by decide) ?_
                refine kc_i (krV (As := [.int (nI k), .int 0]) (rest := []) (c_X7_load l D Y w a b d M N F o z P n t kd V vc (nI k) 0 hI) ⟨hx, hb, hml, hown, hta⟩ (cwL_19 hta ⟨Nat.le_of_ble_eq_true rfl, Nat.le_of_ble_eq_true rfl⟩) kX0b (fun _ _ _ => trivial) hK hNs hP hD (kJ_all) (q0 := 0) rfl rfl rfl rfl hl.1 rfl (Nat.le_of_ble_eq_true rfl) dL_tonnes_362 ⟨Nat.le_of_ble_eq_true rfl, Nat.le_of_ble_eq_true rfl⟩) hP hD hS hA (kJ_all) (fun _ => rfl) (fun r64 u H locs hw hP hD hS => ?_)
                have hw := hw.trans (lo_0 hI (k := k) (by omega))
                subst hw
                have hP : va_P D vwCl (wC Y w a b d M N F o z P n t kd V vc) H := hP
                have hD : va_D A (wC Y w a b d M N F o z P n t kd V vc) := hD
                refine lv_aload_n hx hb dL_tonnes_365 rfl (lv_at hl 0 rfl) ?_
                refine lv_iconst (v := 1) hx hb dL_tonnes_366 (by decide) ?_
                refine kc_i (krV (As := [.int 1]) (rest := [.int (M 16 k)]) (c_X7_count l D Y w a b d M N F o z P n t kd V vc 1 hI) ⟨hx, hb, hml, hown, hta⟩ (cwL_9 hta ⟨Nat.le_of_ble_eq_true rfl, Nat.le_of_ble_eq_true rfl⟩) kX0b (fun _ _ _ => trivial) hK hNs hP hD (kJ_all) (q0 := 0) rfl rfl rfl rfl hl.1 rfl (Nat.le_of_ble_eq_true rfl) dL_tonnes_367 ⟨Nat.le_of_ble_eq_true rfl, Nat.le_of_ble_eq_true rfl⟩) hP hD hS hA (kJ_all) (fun _ => rfl) (fun r65 u H locs hw hP hD hS => ?_)
                have hw := hw.trans (ct_1 hI n z)
                subst hw
                have hP : va_P D vwCl (wC Y w a b d M N F o z P n t kd V vc) H := hP
                have hD : va_D A (wC Y w a b d M N F o z P n t kd V vc) := hD
                refine lv_icmp_ge (tgt := 377) hx hb dL_tonnes_370 (by decide) (fun h => absurd h (Int32.not_le.mpr (pt_ld0 hok (k := k) (by omega)))) (fun _ => ?_)
                refine lv_iconst (v := 1) hx hb dL_tonnes_373 (by decide) ?_
                refine lv_goto (tgt := 378) hx hb dL_tonnes_374 (by decide) ?_
                refine lv_istore (lv' := [(4, .int 1), (0, .ref (w 0)), (1, .int (sTo (M 11) (nF M))), (2, .int (sTo (M 12) (nF M))), (3, .int (sTo (M 13) (nF M))), (5, .int (sTo (M 17) k)), (6, .int (nI k))]) hx hb dL_tonnes_378 hl (by decide) rfl (fun ls hl => ?_)
                refine lv_iload hx hb dL_tonnes_380 (lv_at hl 5 rfl) ?_
                refine lv_aload_n hx hb dL_tonnes_382 rfl (lv_at hl 1 rfl) ?_
                refine lv_iload hx hb dL_tonnes_383 (lv_at hl 6 rfl) ?_
                refine lv_iconst (v := 1) hx hb dL_tonnes_385 (by decide) ?_
                refine kc_i (krV (As := [.int (nI k), .int 1]) (rest := [.int (sTo (M 17) k)]) (c_X7_load l D Y w a b d M N F o z P n t kd V vc (nI k) 1 hI) ⟨hx, hb, hml, hown, hta⟩ (cwL_19 hta ⟨Nat.le_of_ble_eq_true rfl, Nat.le_of_ble_eq_true rfl⟩) kX0b (fun _ _ _ => trivial) hK hNs hP hD (kJ_all) (q0 := 0) rfl rfl rfl rfl hl.1 rfl (Nat.le_of_ble_eq_true rfl) dL_tonnes_386 ⟨Nat.le_of_ble_eq_true rfl, Nat.le_of_ble_eq_true rfl⟩) hP hD hS hA (kJ_all) (fun _ => rfl) (fun r67 u H locs hw hP hD hS => ?_)
                have hw := hw.trans (lo_1 hI (k := k) (by omega))
                subst hw
                have hP : va_P D vwCl (wC Y w a b d M N F o z P n t kd V vc) H := hP
                have hD : va_D A (wC Y w a b d M N F o z P n t kd V vc) := hD
                refine lv_iadd hx hb dL_tonnes_389 ?_
                refine kTop (y := sTo (M 17) (k + 1)) rfl ?_
                refine lv_istore (lv' := [(5, .int (sTo (M 17) (k + 1))), (4, .int 1), (0, .ref (w 0)), (1, .int (sTo (M 11) (nF M))), (2, .int (sTo (M 12) (nF M))), (3, .int (sTo (M 13) (nF M))), (6, .int (nI k))]) hx hb dL_tonnes_390 hl (by decide) rfl (fun ls hl => ?_)
                refine lv_iinc (v := nI (k + 1)) (lv' := [(6, .int (nI (k + 1))), (5, .int (sTo (M 17) (k + 1))), (4, .int 1), (0, .ref (w 0)), (1, .int (sTo (M 11) (nF M))), (2, .int (sTo (M 12) (nF M))), (3, .int (sTo (M 13) (nF M)))]) hx hb dL_tonnes_392 hl (k := 6) rfl (nI_add k 1) (by decide) rfl (fun ls hl => ?_)
                refine lv_goto (tgt := 282) hx hb dL_tonnes_395 (by decide) ?_
                exact ih282 (k + 1) (by omega) (by omega) _ _ hP hD hS ls (lv_sub hl [3, 4, 5, 6, 2, 1, 0] rfl)
        exact loop282 ((nY M - 0) + 1) 0 (Nat.lt_succ_self _) (by omega) _ _ hP hD hS ls (lv_sub hl [2, 3, 4, 5, 6, 1, 0] rfl)
      · have c6n : ¬ (nF M) ≤ f := fun h => c6 ((nI_leI (a := nF M) (b := f) (by omega) (by omega)).mpr h)
        refine lv_iload hx hb dL_tonnes_47 (lv_at hl 4 rfl) ?_
        refine lv_if_eq (tgt := 276) hx hb dL_tonnes_49 (by decide) (fun h => False.elim (by revert h; decide)) (fun _ => ?_)
        refine lv_aload_n hx hb dL_tonnes_52 rfl (lv_at hl 0 rfl) ?_
        refine lv_iload hx hb dL_tonnes_53 (lv_at hl 5 rfl) ?_
        refine lv_iconst (v := 4) hx hb dL_tonnes_55 (by decide) ?_
        refine kc_i (krV (As := [.int (nI f), .int 4]) (rest := []) (c_X7_ofField l D Y w a b d M N F o z P n t kd V vc (nI f) 4 hI) ⟨hx, hb, hml, hown, hta⟩ (cwL_15 hta ⟨Nat.le_of_ble_eq_true rfl, Nat.le_of_ble_eq_true rfl⟩) kX0b (fun _ _ _ => trivial) hK hNs hP hD (kJ_all) (q0 := 0) rfl rfl rfl rfl hl.1 rfl (Nat.le_of_ble_eq_true rfl) dL_tonnes_56 ⟨Nat.le_of_ble_eq_true rfl, Nat.le_of_ble_eq_true rfl⟩) hP hD hS hA (kJ_all) (fun _ => rfl) (fun r68 u H locs hw hP hD hS => ?_)
        have hw := hw.trans (of_4 hI (f := f) (by omega))
        subst hw
        have hP : va_P D vwCl (wC Y w a b d M N F o z P n t kd V vc) H := hP
        have hD : va_D A (wC Y w a b d M N F o z P n t kd V vc) := hD
        refine lv_istore (lv' := [(6, .int (cHow M f (M 19 0))), (0, .ref (w 0)), (1, .int (sTo (M 11) f)), (2, .int (sTo (M 12) f)), (3, .int (sTo (M 13) f)), (4, .int 1), (5, .int (nI f))]) hx hb dL_tonnes_59 hl (by decide) rfl (fun ls hl => ?_)
        refine lv_aload_n hx hb dL_tonnes_61 rfl (lv_at hl 1 rfl) ?_
        refine lv_iload hx hb dL_tonnes_62 (lv_at hl 6 rfl) ?_
        refine lv_iconst (v := 5) hx hb dL_tonnes_64 (by decide) ?_
        refine kc_i (krV (As := [.int (nI f), .int 5]) (rest := []) (c_X7_ofField l D Y w a b d M N F o z P n t kd V vc (nI f) 5 hI) ⟨hx, hb, hml, hown, hta⟩ (cwL_15 hta ⟨Nat.le_of_ble_eq_true rfl, Nat.le_of_ble_eq_true rfl⟩) kX0b (fun _ _ _ => trivial) hK hNs hP hD (kJ_all) (q0 := 0) rfl rfl rfl rfl hl.1 rfl (Nat.le_of_ble_eq_true rfl) dL_tonnes_65 ⟨Nat.le_of_ble_eq_true rfl, Nat.le_of_ble_eq_true rfl⟩) hP hD hS hA (kJ_all) (fun _ => rfl) (fun r69 u H locs hw hP hD hS => ?_)
        have hw := hw.trans (of_5 hI (f := f) (by omega))
        subst hw
        have hP : va_P D vwCl (wC Y w a b d M N F o z P n t kd V vc) H := hP
        have hD : va_D A (wC Y w a b d M N F o z P n t kd V vc) := hD
        refine lv_istore (lv' := [(7, .int (M 10 f)), (6, .int (cHow M f (M 19 0))), (0, .ref (w 0)), (1, .int (sTo (M 11) f)), (2, .int (sTo (M 12) f)), (3, .int (sTo (M 13) f)), (4, .int 1), (5, .int (nI f))]) hx hb dL_tonnes_68 hl (by decide) rfl (fun ls hl => ?_)
        refine lv_aload_n hx hb dL_tonnes_70 rfl (lv_at hl 2 rfl) ?_
        refine lv_iload hx hb dL_tonnes_71 (lv_at hl 7 rfl) ?_
        refine lv_iconst (v := 1) hx hb dL_tonnes_73 (by decide) ?_
        refine kc_i (krV (As := [.int (nI f), .int 1]) (rest := []) (c_X7_ofField l D Y w a b d M N F o z P n t kd V vc (nI f) 1 hI) ⟨hx, hb, hml, hown, hta⟩ (cwL_15 hta ⟨Nat.le_of_ble_eq_true rfl, Nat.le_of_ble_eq_true rfl⟩) kX0b (fun _ _ _ => trivial) hK hNs hP hD (kJ_all) (q0 := 0) rfl rfl rfl rfl hl.1 rfl (Nat.le_of_ble_eq_true rfl) dL_tonnes_74 ⟨Nat.le_of_ble_eq_true rfl, Nat.le_of_ble_eq_true rfl⟩) hP hD hS hA (kJ_all) (fun _ => rfl) (fun r70 u H locs hw hP hD hS => ?_)
        have hw := hw.trans (of_1 hI (f := f) (by omega))
        subst hw
        have hP : va_P D vwCl (wC Y w a b d M N F o z P n t kd V vc) H := hP
        have hD : va_D A (wC Y w a b d M N F o z P n t kd V vc) := hD
        refine lv_iload hx hb dL_tonnes_77 (lv_at hl 0 rfl) ?_
        refine lv_aload_n hx hb dL_tonnes_79 rfl (lv_at hl 2 rfl) ?_
        refine lv_iload hx hb dL_tonnes_80 (lv_at hl 7 rfl) ?_
        refine lv_bipush (v := 6) hx hb dL_tonnes_82 (by decide) ?_
        refine kc_i (krV (As := [.int (nI f), .int 6]) (rest := [.int (M 10 f), .int (M 7 f)]) (c_X7_ofField l D Y w a b d M N F o z P n t kd V vc (nI f) 6 hI) ⟨hx, hb, hml, hown, hta⟩ (cwL_15 hta ⟨Nat.le_of_ble_eq_true rfl, Nat.le_of_ble_eq_true rfl⟩) kX0b (fun _ _ _ => trivial) hK hNs hP hD (kJ_all) (q0 := 0) rfl rfl rfl rfl hl.1 rfl (Nat.le_of_ble_eq_true rfl) dL_tonnes_84 ⟨Nat.le_of_ble_eq_true rfl, Nat.le_of_ble_eq_true rfl⟩) hP hD hS hA (kJ_all) (fun _ => rfl) (fun r71 u H locs hw hP hD hS => ?_)
        have hw := hw.trans (of_6 hI (f := f) (by omega))
        subst hw
        have hP : va_P D vwCl (wC Y w a b d M N F o z P n t kd V vc) H := hP
        have hD : va_D A (wC Y w a b d M N F o z P n t kd V vc) := hD
        refine lv_iadd hx hb dL_tonnes_87 ?_
        refine lv_aload_n hx hb dL_tonnes_88 rfl (lv_at hl 2 rfl) ?_
        refine lv_iload hx hb dL_tonnes_89 (lv_at hl 7 rfl) ?_
        refine lv_bipush (v := 7) hx hb dL_tonnes_91 (by decide) ?_
        refine kc_i (krV (As := [.int (nI f), .int 7]) (rest := [.int ((M 10 f) + (M 11 f)), .int (M 7 f)]) (c_X7_ofField l D Y w a b d M N F o z P n t kd V vc (nI f) 7 hI) ⟨hx, hb, hml, hown, hta⟩ (cwL_15 hta ⟨Nat.le_of_ble_eq_true rfl, Nat.le_of_ble_eq_true rfl⟩) kX0b (fun _ _ _ => trivial) hK hNs hP hD (kJ_all) (q0 := 0) rfl rfl rfl rfl hl.1 rfl (Nat.le_of_ble_eq_true rfl) dL_tonnes_93 ⟨Nat.le_of_ble_eq_true rfl, Nat.le_of_ble_eq_true rfl⟩) hP hD hS hA (kJ_all) (fun _ => rfl) (fun r72 u H locs hw hP hD hS => ?_)
        have hw := hw.trans (of_7 hI (f := f) (by omega))
        subst hw
        have hP : va_P D vwCl (wC Y w a b d M N F o z P n t kd V vc) H := hP
        have hD : va_D A (wC Y w a b d M N F o z P n t kd V vc) := hD
        refine lv_iadd hx hb dL_tonnes_96 ?_
        refine lv_aload_n hx hb dL_tonnes_97 rfl (lv_at hl 2 rfl) ?_
        refine lv_iload hx hb dL_tonnes_98 (lv_at hl 7 rfl) ?_
        refine lv_bipush (v := 8) hx hb dL_tonnes_100 (by decide) ?_
        refine kc_i (krV (As := [.int (nI f), .int 8]) (rest := [.int (((M 10 f) + (M 11 f)) + (M 12 f)), .int (M 7 f)]) (c_X7_ofField l D Y w a b d M N F o z P n t kd V vc (nI f) 8 hI) ⟨hx, hb, hml, hown, hta⟩ (cwL_15 hta ⟨Nat.le_of_ble_eq_true rfl, Nat.le_of_ble_eq_true rfl⟩) kX0b (fun _ _ _ => trivial) hK hNs hP hD (kJ_all) (q0 := 0) rfl rfl rfl rfl hl.1 rfl (Nat.le_of_ble_eq_true rfl) dL_tonnes_102 ⟨Nat.le_of_ble_eq_true rfl, Nat.le_of_ble_eq_true rfl⟩) hP hD hS hA (kJ_all) (fun _ => rfl) (fun r73 u H locs hw hP hD hS => ?_)
        have hw := hw.trans (of_8 hI (f := f) (by omega))
        subst hw
        have hP : va_P D vwCl (wC Y w a b d M N F o z P n t kd V vc) H := hP
        have hD : va_D A (wC Y w a b d M N F o z P n t kd V vc) := hD
        refine lv_iadd hx hb dL_tonnes_105 ?_
        refine lv_icmp_ne (tgt := 234) hx hb dL_tonnes_106 (by decide) (fun h => absurd (pt_sum hok (f := f) (by omega)) h) (fun _ => ?_)
        refine lv_iload hx hb dL_tonnes_109 (lv_at hl 0 rfl) ?_
        refine lv_if_lt (tgt := 234) hx hb dL_tonnes_111 (by decide) (fun h => absurd h (pt_on hok (f := f) (by omega))) (fun _ => ?_)
        refine lv_aload_n hx hb dL_tonnes_114 rfl (lv_at hl 2 rfl) ?_
        refine lv_iload hx hb dL_tonnes_115 (lv_at hl 7 rfl) ?_
        refine lv_bipush (v := 6) hx hb dL_tonnes_117 (by decide) ?_
        refine kc_i (krV (As := [.int (nI f), .int 6]) (rest := []) (c_X7_ofField l D Y w a b d M N F o z P n t kd V vc (nI f) 6 hI) ⟨hx, hb, hml, hown, hta⟩ (cwL_15 hta ⟨Nat.le_of_ble_eq_true rfl, Nat.le_of_ble_eq_true rfl⟩) kX0b (fun _ _ _ => trivial) hK hNs hP hD (kJ_all) (q0 := 0) rfl rfl rfl rfl hl.1 rfl (Nat.le_of_ble_eq_true rfl) dL_tonnes_119 ⟨Nat.le_of_ble_eq_true rfl, Nat.le_of_ble_eq_true rfl⟩) hP hD hS hA (kJ_all) (fun _ => rfl) (fun r76 u H locs hw hP hD hS => ?_)
        have hw := hw.trans (of_6 hI (f := f) (by omega))
        subst hw
        have hP : va_P D vwCl (wC Y w a b d M N F o z P n t kd V vc) H := hP
        have hD : va_D A (wC Y w a b d M N F o z P n t kd V vc) := hD
        refine lv_if_lt (tgt := 234) hx hb dL_tonnes_122 (by decide) (fun h => absurd h (pt_iy hok (f := f) (by omega))) (fun _ => ?_)
        refine lv_aload_n hx hb dL_tonnes_125 rfl (lv_at hl 2 rfl) ?_
        refine lv_iload hx hb dL_tonnes_126 (lv_at hl 7 rfl) ?_
        refine lv_bipush (v := 9) hx hb dL_tonnes_128 (by decide) ?_
        refine kc_i (krV (As := [.int (nI f), .int 9]) (rest := []) (c_X7_ofField l D Y w a b d M N F o z P n t kd V vc (nI f) 9 hI) ⟨hx, hb, hml, hown, hta⟩ (cwL_15 hta ⟨Nat.le_of_ble_eq_true rfl, Nat.le_of_ble_eq_true rfl⟩) kX0b (fun _ _ _ => trivial) hK hNs hP hD (kJ_all) (q0 := 0) rfl rfl rfl rfl hl.1 rfl (Nat.le_of_ble_eq_true rfl) dL_tonnes_130 ⟨Nat.le_of_ble_eq_true rfl, Nat.le_of_ble_eq_true rfl⟩) hP hD hS hA (kJ_all) (fun _ => rfl) (fun r78 u H locs hw hP hD hS => ?_)
        have hw := hw.trans (of_9 hI (f := f) (by omega))
        subst hw
        have hP : va_P D vwCl (wC Y w a b d M N F o z P n t kd V vc) H := hP
        have hD : va_D A (wC Y w a b d M N F o z P n t kd V vc) := hD
        refine lv_if_lt (tgt := 234) hx hb dL_tonnes_133 (by decide) (fun h => absurd h (pt_pu0 hok (f := f) (by omega))) (fun _ => ?_)
        refine lv_aload_n hx hb dL_tonnes_136 rfl (lv_at hl 2 rfl) ?_
        refine lv_iload hx hb dL_tonnes_137 (lv_at hl 7 rfl) ?_
        refine lv_bipush (v := 9) hx hb dL_tonnes_139 (by decide) ?_
        refine kc_i (krV (As := [.int (nI f), .int 9]) (rest := []) (c_X7_ofField l D Y w a b d M N F o z P n t kd V vc (nI f) 9 hI) ⟨hx, hb, hml, hown, hta⟩ (cwL_15 hta ⟨Nat.le_of_ble_eq_true rfl, Nat.le_of_ble_eq_true rfl⟩) kX0b (fun _ _ _ => trivial) hK hNs hP hD (kJ_all) (q0 := 0) rfl rfl rfl rfl hl.1 rfl (Nat.le_of_ble_eq_true rfl) dL_tonnes_141 ⟨Nat.le_of_ble_eq_true rfl, Nat.le_of_ble_eq_true rfl⟩) hP hD hS hA (kJ_all) (fun _ => rfl) (fun r80 u H locs hw hP hD hS => ?_)
        have hw := hw.trans (of_9 hI (f := f) (by omega))
        subst hw
        have hP : va_P D vwCl (wC Y w a b d M N F o z P n t kd V vc) H := hP
        have hD : va_D A (wC Y w a b d M N F o z P n t kd V vc) := hD
        refine lv_aload_n hx hb dL_tonnes_144 rfl (lv_at hl 2 rfl) ?_
        refine lv_iload hx hb dL_tonnes_145 (lv_at hl 7 rfl) ?_
        refine lv_iconst (v := 2) hx hb dL_tonnes_147 (by decide) ?_
        refine kc_i (krV (As := [.int (nI f), .int 2]) (rest := [.int (sPur (M 9 f) (M 8 f) (M 19 0) (M 0 4))]) (c_X7_ofField l D Y w a b d M N F o z P n t kd V vc (nI f) 2 hI) ⟨hx, hb, hml, hown, hta⟩ (cwL_15 hta ⟨Nat.le_of_ble_eq_true rfl, Nat.le_of_ble_eq_true rfl⟩) kX0b (fun _ _ _ => trivial) hK hNs hP hD (kJ_all) (q0 := 0) rfl rfl rfl rfl hl.1 rfl (Nat.le_of_ble_eq_true rfl) dL_tonnes_148 ⟨Nat.le_of_ble_eq_true rfl, Nat.le_of_ble_eq_true rfl⟩) hP hD hS hA (kJ_all) (fun _ => rfl) (fun r81 u H locs hw hP hD hS => ?_)
        have hw := hw.trans (of_2 hI (f := f) (by omega))
        subst hw
        have hP : va_P D vwCl (wC Y w a b d M N F o z P n t kd V vc) H := hP
        have hD : va_D A (wC Y w a b d M N F o z P n t kd V vc) := hD
        refine lv_icmp_gt (tgt := 234) hx hb dL_tonnes_151 (by decide) (fun h => absurd h (pt_pu1 hok (f := f) (by omega))) (fun _ => ?_)
        refine lv_iload hx hb dL_tonnes_154 (lv_at hl 1 rfl) ?_
        refine lv_if_gt (tgt := 189) hx hb dL_tonnes_156 (by decide) (fun c83 => ?_) (fun c83 => ?_)
        · refine lv_iload hx hb dL_tonnes_189 (lv_at hl 1 rfl) ?_
          refine lv_iconst (v := 2) hx hb dL_tonnes_191 (by decide) ?_
          refine lv_icmp_lt (tgt := 200) hx hb dL_tonnes_192 (by decide) (fun c84 => ?_) (fun c84 => ?_)
          · refine lv_iload hx hb dL_tonnes_200 (lv_at hl 1 rfl) ?_
            refine lv_iconst (v := 3) hx hb dL_tonnes_202 (by decide) ?_
            refine lv_icmp_ne (tgt := 210) hx hb dL_tonnes_203 (by decide) (fun c85 => ?_) (fun c85 => ?_)
            · refine lv_iconst (v := 0) hx hb dL_tonnes_210 (by decide) ?_
              refine lv_aload_n hx hb dL_tonnes_211 rfl (lv_at hl 2 rfl) ?_
              refine lv_iload hx hb dL_tonnes_212 (lv_at hl 7 rfl) ?_
              refine lv_bipush (v := 8) hx hb dL_tonnes_214 (by decide) ?_
              refine kc_i (krV (As := [.int (nI f), .int 8]) (rest := [.int 0]) (c_X7_ofField l D Y w a b d M N F o z P n t kd V vc (nI f) 8 hI) ⟨hx, hb, hml, hown, hta⟩ (cwL_15 hta ⟨Nat.le_of_ble_eq_true rfl, Nat.le_of_ble_eq_true rfl⟩) kX0b (fun _ _ _ => trivial) hK hNs hP hD (kJ_all) (q0 := 0) rfl rfl rfl rfl hl.1 rfl (Nat.le_of_ble_eq_true rfl) dL_tonnes_216 ⟨Nat.le_of_ble_eq_true rfl, Nat.le_of_ble_eq_true rfl⟩) hP hD hS hA (kJ_all) (fun _ => rfl) (fun r86 u H locs hw hP hD hS => ?_)
              have hw := hw.trans (of_8 hI (f := f) (by omega))
              subst hw
              have hP : va_P D vwCl (wC Y w a b d M N F o z P n t kd V vc) H := hP
              have hD : va_D A (wC Y w a b d M N F o z P n t kd V vc) := hD
              refine lv_if_le (tgt := 226) hx hb dL_tonnes_219 (by decide) (fun _ => ?_) (fun h => absurd (Decidable.not_not.mp (fun q => c85 ((pt_lost hok (f := f) (by omega)).mpr q))) h)
              refine lv_iconst (v := 0) hx hb dL_tonnes_226 (by decide) ?_
              refine lv_icmp_ne (tgt := 234) hx hb dL_tonnes_227 (by decide) (fun h => False.elim (by revert h; decide)) (fun _ => ?_)
              refine lv_iconst (v := 1) hx hb dL_tonnes_230 (by decide) ?_
              refine lv_goto (tgt := 235) hx hb dL_tonnes_231 (by decide) ?_
              refine lv_istore (lv' := [(4, .int 1), (7, .int (M 10 f)), (6, .int (cHow M f (M 19 0))), (0, .ref (w 0)), (1, .int (sTo (M 11) f)), (2, .int (sTo (M 12) f)), (3, .int (sTo (M 13) f)), (5, .int (nI f))]) hx hb dL_tonnes_235 hl (by decide) rfl (fun ls hl => ?_)
              refine lv_iload_n hx hb dL_tonnes_237 rfl (lv_at hl 4 rfl) ?_
              refine lv_aload_n hx hb dL_tonnes_238 rfl (lv_at hl 3 rfl) ?_
              refine lv_iload hx hb dL_tonnes_239 (lv_at hl 7 rfl) ?_
              refine lv_bipush (v := 6) hx hb dL_tonnes_241 (by decide) ?_
              refine kc_i (krV (As := [.int (nI f), .int 6]) (rest := [.int (sTo (M 11) f)]) (c_X7_ofField l D Y w a b d M N F o z P n t kd V vc (nI f) 6 hI) ⟨hx, hb, hml, hown, hta⟩ (cwL_15 hta ⟨Nat.le_of_ble_eq_true rfl, Nat.le_of_ble_eq_true rfl⟩) kX0b (fun _ _ _ => trivial) hK hNs hP hD (kJ_all) (q0 := 0) rfl rfl rfl rfl hl.1 rfl (Nat.le_of_ble_eq_true rfl) dL_tonnes_243 ⟨Nat.le_of_ble_eq_true rfl, Nat.le_of_ble_eq_true rfl⟩) hP hD hS hA (kJ_all) (fun _ => rfl) (fun r88 u H locs hw hP hD hS => ?_)
              have hw := hw.trans (of_6 hI (f := f) (by omega))
              subst hw
              have hP : va_P D vwCl (wC Y w a b d M N F o z P n t kd V vc) H := hP
              have hD : va_D A (wC Y w a b d M N F o z P n t kd V vc) := hD
              refine lv_iadd hx hb dL_tonnes_246 ?_
              refine kTop (y := sTo (M 11) (f + 1)) rfl ?_
              refine lv_istore_n (lv' := [(1, .int (sTo (M 11) (f + 1))), (4, .int 1), (7, .int (M 10 f)), (6, .int (cHow M f (M 19 0))), (0, .ref (w 0)), (2, .int (sTo (M 12) f)), (3, .int (sTo (M 13) f)), (5, .int (nI f))]) hx hb dL_tonnes_247 rfl hl (by decide) rfl (fun ls hl => ?_)
              refine lv_iload_n hx hb dL_tonnes_248 rfl (lv_at hl 5 rfl) ?_
              refine lv_aload_n hx hb dL_tonnes_249 rfl (lv_at hl 4 rfl) ?_
              refine lv_iload hx hb dL_tonnes_250 (lv_at hl 7 rfl) ?_
              refine lv_bipush (v := 7) hx hb dL_tonnes_252 (by decide) ?_
              refine kc_i (krV (As := [.int (nI f), .int 7]) (rest := [.int (sTo (M 12) f)]) (c_X7_ofField l D Y w a b d M N F o z P n t kd V vc (nI f) 7 hI) ⟨hx, hb, hml, hown, hta⟩ (cwL_15 hta ⟨Nat.le_of_ble_eq_true rfl, Nat.le_of_ble_eq_true rfl⟩) kX0b (fun _ _ _ => trivial) hK hNs hP hD (kJ_all) (q0 := 0) rfl rfl rfl rfl hl.1 rfl (Nat.le_of_ble_eq_true rfl) dL_tonnes_254 ⟨Nat.le_of_ble_eq_true rfl, Nat.le_of_ble_eq_true rfl⟩) hP hD hS hA (kJ_all) (fun _ => rfl) (fun r89 u H locs hw hP hD hS => ?_)
              have hw := hw.trans (of_7 hI (f := f) (by omega))
              subst hw
              have hP : va_P D vwCl (wC Y w a b d M N F o z P n t kd V vc) H := hP
              have hD : va_D A (wC Y w a b d M N F o z P n t kd V vc) := hD
              refine lv_iadd hx hb dL_tonnes_257 ?_
              refine kTop (y := sTo (M 12) (f + 1)) rfl ?_
              refine lv_istore_n (lv' := [(2, .int (sTo (M 12) (f + 1))), (1, .int (sTo (M 11) (f + 1))), (4, .int 1), (7, .int (M 10 f)), (6, .int (cHow M f (M 19 0))), (0, .ref (w 0)), (3, .int (sTo (M 13) f)), (5, .int (nI f))]) hx hb dL_tonnes_258 rfl hl (by decide) rfl (fun ls hl => ?_)
              refine lv_iload_n hx hb dL_tonnes_259 rfl (lv_at hl 6 rfl) ?_
              refine lv_aload_n hx hb dL_tonnes_260 rfl (lv_at hl 5 rfl) ?_
              refine lv_iload hx hb dL_tonnes_261 (lv_at hl 7 rfl) ?_
              refine lv_bipush (v := 8) hx hb dL_tonnes_263 (by decide) ?_
              refine kc_i (krV (As := [.int (nI f), .int 8]) (rest := [.int (sTo (M 13) f)]) (c_X7_ofField l D Y w a b d M N F o z P n t kd V vc (nI f) 8 hI) ⟨hx, hb, hml, hown, hta⟩ (cwL_15 hta ⟨Nat.le_of_ble_eq_true rfl, Nat.le_of_ble_eq_true rfl⟩) kX0b (fun _ _ _ => trivial) hK hNs hP hD (kJ_all) (q0 := 0) rfl rfl rfl rfl hl.1 rfl (Nat.le_of_ble_eq_true rfl) dL_tonnes_265 ⟨Nat.le_of_ble_eq_true rfl, Nat.le_of_ble_eq_true rfl⟩) hP hD hS hA (kJ_all) (fun _ => rfl) (fun r90 u H locs hw hP hD hS => ?_)
              have hw := hw.trans (of_8 hI (f := f) (by omega))
              subst hw
              have hP : va_P D vwCl (wC Y w a b d M N F o z P n t kd V vc) H := hP
              have hD : va_D A (wC Y w a b d M N F o z P n t kd V vc) := hD
              refine lv_iadd hx hb dL_tonnes_268 ?_
              refine kTop (y := sTo (M 13) (f + 1)) rfl ?_
              refine lv_istore_n (lv' := [(3, .int (sTo (M 13) (f + 1))), (2, .int (sTo (M 12) (f + 1))), (1, .int (sTo (M 11) (f + 1))), (4, .int 1), (7, .int (M 10 f)), (6, .int (cHow M f (M 19 0))), (0, .ref (w 0)), (5, .int (nI f))]) hx hb dL_tonnes_269 rfl hl (by decide) rfl (fun ls hl => ?_)
              refine lv_iinc (v := nI (f + 1)) (lv' := [(5, .int (nI (f + 1))), (3, .int (sTo (M 13) (f + 1))), (2, .int (sTo (M 12) (f + 1))), (1, .int (sTo (M 11) (f + 1))), (4, .int 1), (7, .int (M 10 f)), (6, .int (cHow M f (M 19 0))), (0, .ref (w 0))]) hx hb dL_tonnes_270 hl (k := 7) rfl (nI_add f 1) (by decide) rfl (fun ls hl => ?_)
              refine lv_goto (tgt := 37) hx hb dL_tonnes_273 (by decide) ?_
              exact ih37 (f + 1) (by omega) (by omega) _ _ hP hD hS ls (lv_sub hl [7, 3, 2, 1, 4, 0] rfl)
            · refine lv_iconst (v := 1) hx hb dL_tonnes_206 (by decide) ?_
              refine lv_goto (tgt := 211) hx hb dL_tonnes_207 (by decide) ?_
              refine lv_aload_n hx hb dL_tonnes_211 rfl (lv_at hl 2 rfl) ?_
              refine lv_iload hx hb dL_tonnes_212 (lv_at hl 7 rfl) ?_
              refine lv_bipush (v := 8) hx hb dL_tonnes_214 (by decide) ?_
              refine kc_i (krV (As := [.int (nI f), .int 8]) (rest := [.int 1]) (c_X7_ofField l D Y w a b d M N F o z P n t kd V vc (nI f) 8 hI) ⟨hx, hb, hml, hown, hta⟩ (cwL_15 hta ⟨Nat.le_of_ble_eq_true rfl, Nat.le_of_ble_eq_true rfl⟩) kX0b (fun _ _ _ => trivial) hK hNs hP hD (kJ_all) (q0 := 0) rfl rfl rfl rfl hl.1 rfl (Nat.le_of_ble_eq_true rfl) dL_tonnes_216 ⟨Nat.le_of_ble_eq_true rfl, Nat.le_of_ble_eq_true rfl⟩) hP hD hS hA (kJ_all) (fun _ => rfl) (fun r91 u H locs hw hP hD hS => ?_)
              have hw := hw.trans (of_8 hI (f := f) (by omega))
              subst hw
              have hP : va_P D vwCl (wC Y w a b d M N F o z P n t kd V vc) H := hP
              have hD : va_D A (wC Y w a b d M N F o z P n t kd V vc) := hD
              refine lv_if_le (tgt := 226) hx hb dL_tonnes_219 (by decide) (fun h => absurd h ((pt_lost hok (f := f) (by omega)).mp c85)) (fun _ => ?_)
              refine lv_iconst (v := 1) hx hb dL_tonnes_222 (by decide) ?_
              refine lv_goto (tgt := 227) hx hb dL_tonnes_223 (by decide) ?_
              refine lv_icmp_ne (tgt := 234) hx hb dL_tonnes_227 (by decide) (fun h => False.elim (by revert h; decide)) (fun _ => ?_)
              refine lv_iconst (v := 1) hx hb dL_tonnes_230 (by decide) ?_
              refine lv_goto (tgt := 235) hx hb dL_tonnes_231 (by decide) ?_
              refine lv_istore (lv' := [(4, .int 1), (7, .int (M 10 f)), (6, .int (cHow M f (M 19 0))), (0, .ref (w 0)), (1, .int (sTo (M 11) f)), (2, .int (sTo (M 12) f)), (3, .int (sTo (M 13) f)), (5, .int (nI f))]) hx hb dL_tonnes_235 hl (by decide) rfl (fun ls hl => ?_)
              refine lv_iload_n hx hb dL_tonnes_237 rfl (lv_at hl 4 rfl) ?_
              refine lv_aload_n hx hb dL_tonnes_238 rfl (lv_at hl 3 rfl) ?_
              refine lv_iload hx hb dL_tonnes_239 (lv_at hl 7 rfl) ?_
              refine lv_bipush (v := 6) hx hb dL_tonnes_241 (by decide) ?_
              refine kc_i (krV (As := [.int (nI f), .int 6]) (rest := [.int (sTo (M 11) f)]) (c_X7_ofField l D Y w a b d M N F o z P n t kd V vc (nI f) 6 hI) ⟨hx, hb, hml, hown, hta⟩ (cwL_15 hta ⟨Nat.le_of_ble_eq_true rfl, Nat.le_of_ble_eq_true rfl⟩) kX0b (fun _ _ _ => trivial) hK hNs hP hD (kJ_all) (q0 := 0) rfl rfl rfl rfl hl.1 rfl (Nat.le_of_ble_eq_true rfl) dL_tonnes_243 ⟨Nat.le_of_ble_eq_true rfl, Nat.le_of_ble_eq_true rfl⟩) hP hD hS hA (kJ_all) (fun _ => rfl) (fun r93 u H locs hw hP hD hS => ?_)
              have hw := hw.trans (of_6 hI (f := f) (by omega))
              subst hw
              have hP : va_P D vwCl (wC Y w a b d M N F o z P n t kd V vc) H := hP
              have hD : va_D A (wC Y w a b d M N F o z P n t kd V vc) := hD
              refine lv_iadd hx hb dL_tonnes_246 ?_
              refine kTop (y := sTo (M 11) (f + 1)) rfl ?_
              refine lv_istore_n (lv' := [(1, .int (sTo (M 11) (f + 1))), (4, .int 1), (7, .int (M 10 f)), (6, .int (cHow M f (M 19 0))), (0, .ref (w 0)), (2, .int (sTo (M 12) f)), (3, .int (sTo (M 13) f)), (5, .int (nI f))]) hx hb dL_tonnes_247 rfl hl (by decide) rfl (fun ls hl => ?_)
              refine lv_iload_n hx hb dL_tonnes_248 rfl (lv_at hl 5 rfl) ?_
              refine lv_aload_n hx hb dL_tonnes_249 rfl (lv_at hl 4 rfl) ?_
              refine lv_iload hx hb dL_tonnes_250 (lv_at hl 7 rfl) ?_
              refine lv_bipush (v := 7) hx hb dL_tonnes_252 (by decide) ?_
              refine kc_i (krV (As := [.int (nI f), .int 7]) (rest := [.int (sTo (M 12) f)]) (c_X7_ofField l D Y w a b d M N F o z P n t kd V vc (nI f) 7 hI) ⟨hx, hb, hml, hown, hta⟩ (cwL_15 hta ⟨Nat.le_of_ble_eq_true rfl, Nat.le_of_ble_eq_true rfl⟩) kX0b (fun _ _ _ => trivial) hK hNs hP hD (kJ_all) (q0 := 0) rfl rfl rfl rfl hl.1 rfl (Nat.le_of_ble_eq_true rfl) dL_tonnes_254 ⟨Nat.le_of_ble_eq_true rfl, Nat.le_of_ble_eq_true rfl⟩) hP hD hS hA (kJ_all) (fun _ => rfl) (fun r94 u H locs hw hP hD hS => ?_)
              have hw := hw.trans (of_7 hI (f := f) (by omega))
              subst hw
              have hP : va_P D vwCl (wC Y w a b d M N F o z P n t kd V vc) H := hP
              have hD : va_D A (wC Y w a b d M N F o z P n t kd V vc) := hD
              refine lv_iadd hx hb dL_tonnes_257 ?_
              refine kTop (y := sTo (M 12) (f + 1)) rfl ?_
              refine lv_istore_n (lv' := [(2, .int (sTo (M 12) (f + 1))), (1, .int (sTo (M 11) (f + 1))), (4, .int 1), (7, .int (M 10 f)), (6, .int (cHow M f (M 19 0))), (0, .ref (w 0)), (3, .int (sTo (M 13) f)), (5, .int (nI f))]) hx hb dL_tonnes_258 rfl hl (by decide) rfl (fun ls hl => ?_)
              refine lv_iload_n hx hb dL_tonnes_259 rfl (lv_at hl 6 rfl) ?_
              refine lv_aload_n hx hb dL_tonnes_260 rfl (lv_at hl 5 rfl) ?_
              refine lv_iload hx hb dL_tonnes_261 (lv_at hl 7 rfl) ?_
              refine lv_bipush (v := 8) hx hb dL_tonnes_263 (by decide) ?_
              refine kc_i (krV (As := [.int (nI f), .int 8]) (rest := [.int (sTo (M 13) f)]) (c_X7_ofField l D Y w a b d M N F o z P n t kd V vc (nI f) 8 hI) ⟨hx, hb, hml, hown, hta⟩ (cwL_15 hta ⟨Nat.le_of_ble_eq_true rfl, Nat.le_of_ble_eq_true rfl⟩) kX0b (fun _ _ _ => trivial) hK hNs hP hD (kJ_all) (q0 := 0) rfl rfl rfl rfl hl.1 rfl (Nat.le_of_ble_eq_true rfl) dL_tonnes_265 ⟨Nat.le_of_ble_eq_true rfl, Nat.le_of_ble_eq_true rfl⟩) hP hD hS hA (kJ_all) (fun _ => rfl) (fun r95 u H locs hw hP hD hS => ?_)
              have hw := hw.trans (of_8 hI (f := f) (by omega))
              subst hw
              have hP : va_P D vwCl (wC Y w a b d M N F o z P n t kd V vc) H := hP
              have hD : va_D A (wC Y w a b d M N F o z P n t kd V vc) := hD
              refine lv_iadd hx hb dL_tonnes_268 ?_
              refine kTop (y := sTo (M 13) (f + 1)) rfl ?_
              refine lv_istore_n (lv' := [(3, .int (sTo (M 13) (f + 1))), (2, .int (sTo (M 12) (f + 1))), (1, .int (sTo (M 11) (f + 1))), (4, .int 1), (7, .int (M 10 f)), (6, .int (cHow M f (M 19 0))), (0, .ref (w 0)), (5, .int (nI f))]) hx hb dL_tonnes_269 rfl hl (by decide) rfl (fun ls hl => ?_)
              refine lv_iinc (v := nI (f + 1)) (lv' := [(5, .int (nI (f + 1))), (3, .int (sTo (M 13) (f + 1))), (2, .int (sTo (M 12) (f + 1))), (1, .int (sTo (M 11) (f + 1))), (4, .int 1), (7, .int (M 10 f)), (6, .int (cHow M f (M 19 0))), (0, .ref (w 0))]) hx hb dL_tonnes_270 hl (k := 7) rfl (nI_add f 1) (by decide) rfl (fun ls hl => ?_)
              refine lv_goto (tgt := 37) hx hb dL_tonnes_273 (by decide) ?_
              exact ih37 (f + 1) (by omega) (by omega) _ _ hP hD hS ls (lv_sub hl [7, 3, 2, 1, 4, 0] rfl)
          · refine lv_iload hx hb dL_tonnes_195 (lv_at hl 0 rfl) ?_
            refine lv_if_ne (tgt := 234) hx hb dL_tonnes_197 (by decide) (fun h => absurd (pt_full hok (f := f) (by omega) c84) h) (fun _ => ?_)
            refine lv_iload hx hb dL_tonnes_200 (lv_at hl 1 rfl) ?_
            refine lv_iconst (v := 3) hx hb dL_tonnes_202 (by decide) ?_
            refine lv_icmp_ne (tgt := 210) hx hb dL_tonnes_203 (by decide) (fun c97 => ?_) (fun c97 => ?_)
            · refine lv_iconst (v := 0) hx hb dL_tonnes_210 (by decide) ?_
              refine lv_aload_n hx hb dL_tonnes_211 rfl (lv_at hl 2 rfl) ?_
              refine lv_iload hx hb dL_tonnes_212 (lv_at hl 7 rfl) ?_
              refine lv_bipush (v := 8) hx hb dL_tonnes_214 (by decide) ?_
              refine kc_i (krV (As := [.int (nI f), .int 8]) (rest := [.int 0]) (c_X7_ofField l D Y w a b d M N F o z P n t kd V vc (nI f) 8 hI) ⟨hx, hb, hml, hown, hta⟩ (cwL_15 hta ⟨Nat.le_of_ble_eq_true rfl, Nat.le_of_ble_eq_true rfl⟩) kX0b (fun _ _ _ => trivial) hK hNs hP hD (kJ_all) (q0 := 0) rfl rfl rfl rfl hl.1 rfl (Nat.le_of_ble_eq_true rfl) dL_tonnes_216 ⟨Nat.le_of_ble_eq_true rfl, Nat.le_of_ble_eq_true rfl⟩) hP hD hS hA (kJ_all) (fun _ => rfl) (fun r98 u H locs hw hP hD hS => ?_)
              have hw := hw.trans (of_8 hI (f := f) (by omega))
              subst hw
              have hP : va_P D vwCl (wC Y w a b d M N F o z P n t kd V vc) H := hP
              have hD : va_D A (wC Y w a b d M N F o z P n t kd V vc) := hD
              refine lv_if_le (tgt := 226) hx hb dL_tonnes_219 (by decide) (fun _ => ?_) (fun h => absurd (Decidable.not_not.mp (fun q => c97 ((pt_lost hok (f := f) (by omega)).mpr q))) h)
              refine lv_iconst (v := 0) hx hb dL_tonnes_226 (by decide) ?_
              refine lv_icmp_ne (tgt := 234) hx hb dL_tonnes_227 (by decide) (fun h => False.elim (by revert h; decide)) (fun _ => ?_)
              refine lv_iconst (v := 1) hx hb dL_tonnes_230 (by decide) ?_
              refine lv_goto (tgt := 235) hx hb dL_tonnes_231 (by decide) ?_
              refine lv_istore (lv' := [(4, .int 1), (7, .int (M 10 f)), (6, .int (cHow M f (M 19 0))), (0, .ref (w 0)), (1, .int (sTo (M 11) f)), (2, .int (sTo (M 12) f)), (3, .int (sTo (M 13) f)), (5, .int (nI f))]) hx hb dL_tonnes_235 hl (by decide) rfl (fun ls hl => ?_)
              refine lv_iload_n hx hb dL_tonnes_237 rfl (lv_at hl 4 rfl) ?_
              refine lv_aload_n hx hb dL_tonnes_238 rfl (lv_at hl 3 rfl) ?_
              refine lv_iload hx hb dL_tonnes_239 (lv_at hl 7 rfl) ?_
              refine lv_bipush (v := 6) hx hb dL_tonnes_241 (by decide) ?_
              refine kc_i (krV (As := [.int (nI f), .int 6]) (rest := [.int (sTo (M 11) f)]) (c_X7_ofField l D Y w a b d M N F o z P n t kd V vc (nI f) 6 hI) ⟨hx, hb, hml, hown, hta⟩ (cwL_15 hta ⟨Nat.le_of_ble_eq_true rfl, Nat.le_of_ble_eq_true rfl⟩) kX0b (fun _ _ _ => trivial) hK hNs hP hD (kJ_all) (q0 := 0) rfl rfl rfl rfl hl.1 rfl (Nat.le_of_ble_eq_true rfl) dL_tonnes_243 ⟨Nat.le_of_ble_eq_true rfl, Nat.le_of_ble_eq_true rfl⟩) hP hD hS hA (kJ_all) (fun _ => rfl) (fun r100 u H locs hw hP hD hS => ?_)
              have hw := hw.trans (of_6 hI (f := f) (by omega))
              subst hw
              have hP : va_P D vwCl (wC Y w a b d M N F o z P n t kd V vc) H := hP
              have hD : va_D A (wC Y w a b d M N F o z P n t kd V vc) := hD
              refine lv_iadd hx hb dL_tonnes_246 ?_
              refine kTop (y := sTo (M 11) (f + 1)) rfl ?_
              refine lv_istore_n (lv' := [(1, .int (sTo (M 11) (f + 1))), (4, .int 1), (7, .int (M 10 f)), (6, .int (cHow M f (M 19 0))), (0, .ref (w 0)), (2, .int (sTo (M 12) f)), (3, .int (sTo (M 13) f)), (5, .int (nI f))]) hx hb dL_tonnes_247 rfl hl (by decide) rfl (fun ls hl => ?_)
              refine lv_iload_n hx hb dL_tonnes_248 rfl (lv_at hl 5 rfl) ?_
              refine lv_aload_n hx hb dL_tonnes_249 rfl (lv_at hl 4 rfl) ?_
              refine lv_iload hx hb dL_tonnes_250 (lv_at hl 7 rfl) ?_
              refine lv_bipush (v := 7) hx hb dL_tonnes_252 (by decide) ?_
              refine kc_i (krV (As := [.int (nI f), .int 7]) (rest := [.int (sTo (M 12) f)]) (c_X7_ofField l D Y w a b d M N F o z P n t kd V vc (nI f) 7 hI) ⟨hx, hb, hml, hown, hta⟩ (cwL_15 hta ⟨Nat.le_of_ble_eq_true rfl, Nat.le_of_ble_eq_true rfl⟩) kX0b (fun _ _ _ => trivial) hK hNs hP hD (kJ_all) (q0 := 0) rfl rfl rfl rfl hl.1 rfl (Nat.le_of_ble_eq_true rfl) dL_tonnes_254 ⟨Nat.le_of_ble_eq_true rfl, Nat.le_of_ble_eq_true rfl⟩) hP hD hS hA (kJ_all) (fun _ => rfl) (fun r101 u H locs hw hP hD hS => ?_)
              have hw := hw.trans (of_7 hI (f := f) (by omega))
              subst hw
              have hP : va_P D vwCl (wC Y w a b d M N F o z P n t kd V vc) H := hP
              have hD : va_D A (wC Y w a b d M N F o z P n t kd V vc) := hD
              refine lv_iadd hx hb dL_tonnes_257 ?_
              refine kTop (y := sTo (M 12) (f + 1)) rfl ?_
              refine lv_istore_n (lv' := [(2, .int (sTo (M 12) (f + 1))), (1, .int (sTo (M 11) (f + 1))), (4, .int 1), (7, .int (M 10 f)), (6, .int (cHow M f (M 19 0))), (0, .ref (w 0)), (3, .int (sTo (M 13) f)), (5, .int (nI f))]) hx hb dL_tonnes_258 rfl hl (by decide) rfl (fun ls hl => ?_)
              refine lv_iload_n hx hb dL_tonnes_259 rfl (lv_at hl 6 rfl) ?_
              refine lv_aload_n hx hb dL_tonnes_260 rfl (lv_at hl 5 rfl) ?_
              refine lv_iload hx hb dL_tonnes_261 (lv_at hl 7 rfl) ?_
              refine lv_bipush (v := 8) hx hb dL_tonnes_263 (by decide) ?_
              refine kc_i (krV (As := [.int (nI f), .int 8]) (rest := [.int (sTo (M 13) f)]) (c_X7_ofField l D Y w a b d M N F o z P n t kd V vc (nI f) 8 hI) ⟨hx, hb, hml, hown, hta⟩ (cwL_15 hta ⟨Nat.le_of_ble_eq_true rfl, Nat.le_of_ble_eq_true rfl⟩) kX0b (fun _ _ _ => trivial) hK hNs hP hD (kJ_all) (q0 := 0) rfl rfl rfl rfl hl.1 rfl (Nat.le_of_ble_eq_true rfl) dL_tonnes_265 ⟨Nat.le_of_ble_eq_true rfl, Nat.le_of_ble_eq_true rfl⟩) hP hD hS hA (kJ_all) (fun _ => rfl) (fun r102 u H locs hw hP hD hS => ?_)
              have hw := hw.trans (of_8 hI (f := f) (by omega))
              subst hw
              have hP : va_P D vwCl (wC Y w a b d M N F o z P n t kd V vc) H := hP
              have hD : va_D A (wC Y w a b d M N F o z P n t kd V vc) := hD
              refine lv_iadd hx hb dL_tonnes_268 ?_
              refine kTop (y := sTo (M 13) (f + 1)) rfl ?_
              refine lv_istore_n (lv' := [(3, .int (sTo (M 13) (f + 1))), (2, .int (sTo (M 12) (f + 1))), (1, .int (sTo (M 11) (f + 1))), (4, .int 1), (7, .int (M 10 f)), (6, .int (cHow M f (M 19 0))), (0, .ref (w 0)), (5, .int (nI f))]) hx hb dL_tonnes_269 rfl hl (by decide) rfl (fun ls hl => ?_)
              refine lv_iinc (v := nI (f + 1)) (lv' := [(5, .int (nI (f + 1))), (3, .int (sTo (M 13) (f + 1))), (2, .int (sTo (M 12) (f + 1))), (1, .int (sTo (M 11) (f + 1))), (4, .int 1), (7, .int (M 10 f)), (6, .int (cHow M f (M 19 0))), (0, .ref (w 0))]) hx hb dL_tonnes_270 hl (k := 7) rfl (nI_add f 1) (by decide) rfl (fun ls hl => ?_)
              refine lv_goto (tgt := 37) hx hb dL_tonnes_273 (by decide) ?_
              exact ih37 (f + 1) (by omega) (by omega) _ _ hP hD hS ls (lv_sub hl [7, 3, 2, 1, 4, 0] rfl)
            · refine lv_iconst (v := 1) hx hb dL_tonnes_206 (by decide) ?_
              refine lv_goto (tgt := 211) hx hb dL_tonnes_207 (by decide) ?_
              refine lv_aload_n hx hb dL_tonnes_211 rfl (lv_at hl 2 rfl) ?_
              refine lv_iload hx hb dL_tonnes_212 (lv_at hl 7 rfl) ?_
              refine lv_bipush (v := 8) hx hb dL_tonnes_214 (by decide) ?_
              refine kc_i (krV (As := [.int (nI f), .int 8]) (rest := [.int 1]) (c_X7_ofField l D Y w a b d M N F o z P n t kd V vc (nI f) 8 hI) ⟨hx, hb, hml, hown, hta⟩ (cwL_15 hta ⟨Nat.le_of_ble_eq_true rfl, Nat.le_of_ble_eq_true rfl⟩) kX0b (fun _ _ _ => trivial) hK hNs hP hD (kJ_all) (q0 := 0) rfl rfl rfl rfl hl.1 rfl (Nat.le_of_ble_eq_true rfl) dL_tonnes_216 ⟨Nat.le_of_ble_eq_true rfl, Nat.le_of_ble_eq_true rfl⟩) hP hD hS hA (kJ_all) (fun _ => rfl) (fun r103 u H locs hw hP hD hS => ?_)
              have hw := hw.trans (of_8 hI (f := f) (by omega))
              subst hw
              have hP : va_P D vwCl (wC Y w a b d M N F o z P n t kd V vc) H := hP
              have hD : va_D A (wC Y w a b d M N F o z P n t kd V vc) := hD
              refine lv_if_le (tgt := 226) hx hb dL_tonnes_219 (by decide) (fun h => absurd h ((pt_lost hok (f := f) (by omega)).mp c97)) (fun _ => ?_)
              refine lv_iconst (v := 1) hx hb dL_tonnes_222 (by decide) ?_
              refine lv_goto (tgt := 227) hx hb dL_tonnes_223 (by decide) ?_
              refine lv_icmp_ne (tgt := 234) hx hb dL_tonnes_227 (by decide) (fun h => False.elim (by revert h; decide)) (fun _ => ?_)
              refine lv_iconst (v := 1) hx hb dL_tonnes_230 (by decide) ?_
              refine lv_goto (tgt := 235) hx hb dL_tonnes_231 (by decide) ?_
              refine lv_istore (lv' := [(4, .int 1), (7, .int (M 10 f)), (6, .int (cHow M f (M 19 0))), (0, .ref (w 0)), (1, .int (sTo (M 11) f)), (2, .int (sTo (M 12) f)), (3, .int (sTo (M 13) f)), (5, .int (nI f))]) hx hb dL_tonnes_235 hl (by decide) rfl (fun ls hl => ?_)
              refine lv_iload_n hx hb dL_tonnes_237 rfl (lv_at hl 4 rfl) ?_
              refine lv_aload_n hx hb dL_tonnes_238 rfl (lv_at hl 3 rfl) ?_
              refine lv_iload hx hb dL_tonnes_239 (lv_at hl 7 rfl) ?_
              refine lv_bipush (v := 6) hx hb dL_tonnes_241 (by decide) ?_
              refine kc_i (krV (As := [.int (nI f), .int 6]) (rest := [.int (sTo (M 11) f)]) (c_X7_ofField l D Y w a b d M N F o z P n t kd V vc (nI f) 6 hI) ⟨hx, hb, hml, hown, hta⟩ (cwL_15 hta ⟨Nat.le_of_ble_eq_true rfl, Nat.le_of_ble_eq_true rfl⟩) kX0b (fun _ _ _ => trivial) hK hNs hP hD (kJ_all) (q0 := 0) rfl rfl rfl rfl hl.1 rfl (Nat.le_of_ble_eq_true rfl) dL_tonnes_243 ⟨Nat.le_of_ble_eq_true rfl, Nat.le_of_ble_eq_true rfl⟩) hP hD hS hA (kJ_all) (fun _ => rfl) (fun r105 u H locs hw hP hD hS => ?_)
              have hw := hw.trans (of_6 hI (f := f) (by omega))
              subst hw
              have hP : va_P D vwCl (wC Y w a b d M N F o z P n t kd V vc) H := hP
              have hD : va_D A (wC Y w a b d M N F o z P n t kd V vc) := hD
              refine lv_iadd hx hb dL_tonnes_246 ?_
              refine kTop (y := sTo (M 11) (f + 1)) rfl ?_
              refine lv_istore_n (lv' := [(1, .int (sTo (M 11) (f + 1))), (4, .int 1), (7, .int (M 10 f)), (6, .int (cHow M f (M 19 0))), (0, .ref (w 0)), (2, .int (sTo (M 12) f)), (3, .int (sTo (M 13) f)), (5, .int (nI f))]) hx hb dL_tonnes_247 rfl hl (by decide) rfl (fun ls hl => ?_)
              refine lv_iload_n hx hb dL_tonnes_248 rfl (lv_at hl 5 rfl) ?_
              refine lv_aload_n hx hb dL_tonnes_249 rfl (lv_at hl 4 rfl) ?_
              refine lv_iload hx hb dL_tonnes_250 (lv_at hl 7 rfl) ?_
              refine lv_bipush (v := 7) hx hb dL_tonnes_252 (by decide) ?_
              refine kc_i (krV (As := [.int (nI f), .int 7]) (rest := [.int (sTo (M 12) f)]) (c_X7_ofField l D Y w a b d M N F o z P n t kd V vc (nI f) 7 hI) ⟨hx, hb, hml, hown, hta⟩ (cwL_15 hta ⟨Nat.le_of_ble_eq_true rfl, Nat.le_of_ble_eq_true rfl⟩) kX0b (fun _ _ _ => trivial) hK hNs hP hD (kJ_all) (q0 := 0) rfl rfl rfl rfl hl.1 rfl (Nat.le_of_ble_eq_true rfl) dL_tonnes_254 ⟨Nat.le_of_ble_eq_true rfl, Nat.le_of_ble_eq_true rfl⟩) hP hD hS hA (kJ_all) (fun _ => rfl) (fun r106 u H locs hw hP hD hS => ?_)
              have hw := hw.trans (of_7 hI (f := f) (by omega))
              subst hw
              have hP : va_P D vwCl (wC Y w a b d M N F o z P n t kd V vc) H := hP
              have hD : va_D A (wC Y w a b d M N F o z P n t kd V vc) := hD
              refine lv_iadd hx hb dL_tonnes_257 ?_
              refine kTop (y := sTo (M 12) (f + 1)) rfl ?_
              refine lv_istore_n (lv' := [(2, .int (sTo (M 12) (f + 1))), (1, .int (sTo (M 11) (f + 1))), (4, .int 1), (7, .int (M 10 f)), (6, .int (cHow M f (M 19 0))), (0, .ref (w 0)), (3, .int (sTo (M 13) f)), (5, .int (nI f))]) hx hb dL_tonnes_258 rfl hl (by decide) rfl (fun ls hl => ?_)
              refine lv_iload_n hx hb dL_tonnes_259 rfl (lv_at hl 6 rfl) ?_
              refine lv_aload_n hx hb dL_tonnes_260 rfl (lv_at hl 5 rfl) ?_
              refine lv_iload hx hb dL_tonnes_261 (lv_at hl 7 rfl) ?_
              refine lv_bipush (v := 8) hx hb dL_tonnes_263 (by decide) ?_
              refine kc_i (krV (As := [.int (nI f), .int 8]) (rest := [.int (sTo (M 13) f)]) (c_X7_ofField l D Y w a b d M N F o z P n t kd V vc (nI f) 8 hI) ⟨hx, hb, hml, hown, hta⟩ (cwL_15 hta ⟨Nat.le_of_ble_eq_true rfl, Nat.le_of_ble_eq_true rfl⟩) kX0b (fun _ _ _ => trivial) hK hNs hP hD (kJ_all) (q0 := 0) rfl rfl rfl rfl hl.1 rfl (Nat.le_of_ble_eq_true rfl) dL_tonnes_265 ⟨Nat.le_of_ble_eq_true rfl, Nat.le_of_ble_eq_true rfl⟩) hP hD hS hA (kJ_all) (fun _ => rfl) (fun r107 u H locs hw hP hD hS => ?_)
              have hw := hw.trans (of_8 hI (f := f) (by omega))
              subst hw
              have hP : va_P D vwCl (wC Y w a b d M N F o z P n t kd V vc) H := hP
              have hD : va_D A (wC Y w a b d M N F o z P n t kd V vc) := hD
              refine lv_iadd hx hb dL_tonnes_268 ?_
              refine kTop (y := sTo (M 13) (f + 1)) rfl ?_
              refine lv_istore_n (lv' := [(3, .int (sTo (M 13) (f + 1))), (2, .int (sTo (M 12) (f + 1))), (1, .int (sTo (M 11) (f + 1))), (4, .int 1), (7, .int (M 10 f)), (6, .int (cHow M f (M 19 0))), (0, .ref (w 0)), (5, .int (nI f))]) hx hb dL_tonnes_269 rfl hl (by decide) rfl (fun ls hl => ?_)
              refine lv_iinc (v := nI (f + 1)) (lv' := [(5, .int (nI (f + 1))), (3, .int (sTo (M 13) (f + 1))), (2, .int (sTo (M 12) (f + 1))), (1, .int (sTo (M 11) (f + 1))), (4, .int 1), (7, .int (M 10 f)), (6, .int (cHow M f (M 19 0))), (0, .ref (w 0))]) hx hb dL_tonnes_270 hl (k := 7) rfl (nI_add f 1) (by decide) rfl (fun ls hl => ?_)
              refine lv_goto (tgt := 37) hx hb dL_tonnes_273 (by decide) ?_
              exact ih37 (f + 1) (by omega) (by omega) _ _ hP hD hS ls (lv_sub hl [7, 3, 2, 1, 4, 0] rfl)
        · refine lv_iload hx hb dL_tonnes_159 (lv_at hl 0 rfl) ?_
          refine lv_aload_n hx hb dL_tonnes_161 rfl (lv_at hl 2 rfl) ?_
          refine lv_iload hx hb dL_tonnes_162 (lv_at hl 7 rfl) ?_
          refine lv_iconst (v := 1) hx hb dL_tonnes_164 (by decide) ?_
          refine kc_i (krV (As := [.int (nI f), .int 1]) (rest := [.int (M 10 f)]) (c_X7_ofField l D Y w a b d M N F o z P n t kd V vc (nI f) 1 hI) ⟨hx, hb, hml, hown, hta⟩ (cwL_15 hta ⟨Nat.le_of_ble_eq_true rfl, Nat.le_of_ble_eq_true rfl⟩) kX0b (fun _ _ _ => trivial) hK hNs hP hD (kJ_all) (q0 := 0) rfl rfl rfl rfl hl.1 rfl (Nat.le_of_ble_eq_true rfl) dL_tonnes_165 ⟨Nat.le_of_ble_eq_true rfl, Nat.le_of_ble_eq_true rfl⟩) hP hD hS hA (kJ_all) (fun _ => rfl) (fun r108 u H locs hw hP hD hS => ?_)
          have hw := hw.trans (of_1 hI (f := f) (by omega))
          subst hw
          have hP : va_P D vwCl (wC Y w a b d M N F o z P n t kd V vc) H := hP
          have hD : va_D A (wC Y w a b d M N F o z P n t kd V vc) := hD
          refine lv_icmp_ne (tgt := 234) hx hb dL_tonnes_168 (by decide) (fun h => absurd ((pt_green hok (f := f) (by omega) c83).1) h) (fun _ => ?_)
          refine lv_aload_n hx hb dL_tonnes_171 rfl (lv_at hl 2 rfl) ?_
          refine lv_iload hx hb dL_tonnes_172 (lv_at hl 7 rfl) ?_
          refine lv_bipush (v := 9) hx hb dL_tonnes_174 (by decide) ?_
          refine kc_i (krV (As := [.int (nI f), .int 9]) (rest := []) (c_X7_ofField l D Y w a b d M N F o z P n t kd V vc (nI f) 9 hI) ⟨hx, hb, hml, hown, hta⟩ (cwL_15 hta ⟨Nat.le_of_ble_eq_true rfl, Nat.le_of_ble_eq_true rfl⟩) kX0b (fun _ _ _ => trivial) hK hNs hP hD (kJ_all) (q0 := 0) rfl rfl rfl rfl hl.1 rfl (Nat.le_of_ble_eq_true rfl) dL_tonnes_176 ⟨Nat.le_of_ble_eq_true rfl, Nat.le_of_ble_eq_true rfl⟩) hP hD hS hA (kJ_all) (fun _ => rfl) (fun r110 u H locs hw hP hD hS => ?_)
          have hw := hw.trans (of_9 hI (f := f) (by omega))
          subst hw
          have hP : va_P D vwCl (wC Y w a b d M N F o z P n t kd V vc) H := hP
          have hD : va_D A (wC Y w a b d M N F o z P n t kd V vc) := hD
          refine lv_aload_n hx hb dL_tonnes_179 rfl (lv_at hl 2 rfl) ?_
          refine lv_iload hx hb dL_tonnes_180 (lv_at hl 7 rfl) ?_
          refine lv_iconst (v := 2) hx hb dL_tonnes_182 (by decide) ?_
          refine kc_i (krV (As := [.int (nI f), .int 2]) (rest := [.int (sPur (M 9 f) (M 8 f) (M 19 0) (M 0 4))]) (c_X7_ofField l D Y w a b d M N F o z P n t kd V vc (nI f) 2 hI) ⟨hx, hb, hml, hown, hta⟩ (cwL_15 hta ⟨Nat.le_of_ble_eq_true rfl, Nat.le_of_ble_eq_true rfl⟩) kX0b (fun _ _ _ => trivial) hK hNs hP hD (kJ_all) (q0 := 0) rfl rfl rfl rfl hl.1 rfl (Nat.le_of_ble_eq_true rfl) dL_tonnes_183 ⟨Nat.le_of_ble_eq_true rfl, Nat.le_of_ble_eq_true rfl⟩) hP hD hS hA (kJ_all) (fun _ => rfl) (fun r111 u H locs hw hP hD hS => ?_)
          have hw := hw.trans (of_2 hI (f := f) (by omega))
          subst hw
          have hP : va_P D vwCl (wC Y w a b d M N F o z P n t kd V vc) H := hP
          have hD : va_D A (wC Y w a b d M N F o z P n t kd V vc) := hD
          refine lv_icmp_ne (tgt := 234) hx hb dL_tonnes_186 (by decide) (fun h => absurd ((pt_green hok (f := f) (by omega) c83).2) h) (fun _ => ?_)
          refine lv_iload hx hb dL_tonnes_189 (lv_at hl 1 rfl) ?_
          refine lv_iconst (v := 2) hx hb dL_tonnes_191 (by decide) ?_
          refine lv_icmp_lt (tgt := 200) hx hb dL_tonnes_192 (by decide) (fun c113 => ?_) (fun c113 => ?_)
          · refine lv_iload hx hb dL_tonnes_200 (lv_at hl 1 rfl) ?_
            refine lv_iconst (v := 3) hx hb dL_tonnes_202 (by decide) ?_
            refine lv_icmp_ne (tgt := 210) hx hb dL_tonnes_203 (by decide) (fun c114 => ?_) (fun c114 => ?_)
            · refine lv_iconst (v := 0) hx hb dL_tonnes_210 (by decide) ?_
              refine lv_aload_n hx hb dL_tonnes_211 rfl (lv_at hl 2 rfl) ?_
              refine lv_iload hx hb dL_tonnes_212 (lv_at hl 7 rfl) ?_
              refine lv_bipush (v := 8) hx hb dL_tonnes_214 (by decide) ?_
              refine kc_i (krV (As := [.int (nI f), .int 8]) (rest := [.int 0]) (c_X7_ofField l D Y w a b d M N F o z P n t kd V vc (nI f) 8 hI) ⟨hx, hb, hml, hown, hta⟩ (cwL_15 hta ⟨Nat.le_of_ble_eq_true rfl, Nat.le_of_ble_eq_true rfl⟩) kX0b (fun _ _ _ => trivial) hK hNs hP hD (kJ_all) (q0 := 0) rfl rfl rfl rfl hl.1 rfl (Nat.le_of_ble_eq_true rfl) dL_tonnes_216 ⟨Nat.le_of_ble_eq_true rfl, Nat.le_of_ble_eq_true rfl⟩) hP hD hS hA (kJ_all) (fun _ => rfl) (fun r115 u H locs hw hP hD hS => ?_)
              have hw := hw.trans (of_8 hI (f := f) (by omega))
              subst hw
              have hP : va_P D vwCl (wC Y w a b d M N F o z P n t kd V vc) H := hP
              have hD : va_D A (wC Y w a b d M N F o z P n t kd V vc) := hD
              refine lv_if_le (tgt := 226) hx hb dL_tonnes_219 (by decide) (fun _ => ?_) (fun h => absurd (Decidable.not_not.mp (fun q => c114 ((pt_lost hok (f := f) (by omega)).mpr q))) h)
              refine lv_iconst (v := 0) hx hb dL_tonnes_226 (by decide) ?_
              refine lv_icmp_ne (tgt := 234) hx hb dL_tonnes_227 (by decide) (fun h => False.elim (by revert h; decide)) (fun _ => ?_)
              refine lv_iconst (v := 1) hx hb dL_tonnes_230 (by decide) ?_
              refine lv_goto (tgt := 235) hx hb dL_tonnes_231 (by decide) ?_
              refine lv_istore (lv' := [(4, .int 1), (7, .int (M 10 f)), (6, .int (cHow M f (M 19 0))), (0, .ref (w 0)), (1, .int (sTo (M 11) f)), (2, .int (sTo (M 12) f)), (3, .int (sTo (M 13) f)), (5, .int (nI f))]) hx hb dL_tonnes_235 hl (by decide) rfl (fun ls hl => ?_)
              refine lv_iload_n hx hb dL_tonnes_237 rfl (lv_at hl 4 rfl) ?_
              refine lv_aload_n hx hb dL_tonnes_238 rfl (lv_at hl 3 rfl) ?_
              refine lv_iload hx hb dL_tonnes_239 (lv_at hl 7 rfl) ?_
              refine lv_bipush (v := 6) hx hb dL_tonnes_241 (by decide) ?_
              refine kc_i (krV (As := [.int (nI f), .int 6]) (rest := [.int (sTo (M 11) f)]) (c_X7_ofField l D Y w a b d M N F o z P n t kd V vc (nI f) 6 hI) ⟨hx, hb, hml, hown, hta⟩ (cwL_15 hta ⟨Nat.le_of_ble_eq_true rfl, Nat.le_of_ble_eq_true rfl⟩) kX0b (fun _ _ _ => trivial) hK hNs hP hD (kJ_all) (q0 := 0) rfl rfl rfl rfl hl.1 rfl (Nat.le_of_ble_eq_true rfl) dL_tonnes_243 ⟨Nat.le_of_ble_eq_true rfl, Nat.le_of_ble_eq_true rfl⟩) hP hD hS hA (kJ_all) (fun _ => rfl) (fun r117 u H locs hw hP hD hS => ?_)
              have hw := hw.trans (of_6 hI (f := f) (by omega))
              subst hw
              have hP : va_P D vwCl (wC Y w a b d M N F o z P n t kd V vc) H := hP
              have hD : va_D A (wC Y w a b d M N F o z P n t kd V vc) := hD
              refine lv_iadd hx hb dL_tonnes_246 ?_
              refine kTop (y := sTo (M 11) (f + 1)) rfl ?_
              refine lv_istore_n (lv' := [(1, .int (sTo (M 11) (f + 1))), (4, .int 1), (7, .int (M 10 f)), (6, .int (cHow M f (M 19 0))), (0, .ref (w 0)), (2, .int (sTo (M 12) f)), (3, .int (sTo (M 13) f)), (5, .int (nI f))]) hx hb dL_tonnes_247 rfl hl (by decide) rfl (fun ls hl => ?_)
              refine lv_iload_n hx hb dL_tonnes_248 rfl (lv_at hl 5 rfl) ?_
              refine lv_aload_n hx hb dL_tonnes_249 rfl (lv_at hl 4 rfl) ?_
              refine lv_iload hx hb dL_tonnes_250 (lv_at hl 7 rfl) ?_
              refine lv_bipush (v := 7) hx hb dL_tonnes_252 (by decide) ?_
              refine kc_i (krV (As := [.int (nI f), .int 7]) (rest := [.int (sTo (M 12) f)]) (c_X7_ofField l D Y w a b d M N F o z P n t kd V vc (nI f) 7 hI) ⟨hx, hb, hml, hown, hta⟩ (cwL_15 hta ⟨Nat.le_of_ble_eq_true rfl, Nat.le_of_ble_eq_true rfl⟩) kX0b (fun _ _ _ => trivial) hK hNs hP hD (kJ_all) (q0 := 0) rfl rfl rfl rfl hl.1 rfl (Nat.le_of_ble_eq_true rfl) dL_tonnes_254 ⟨Nat.le_of_ble_eq_true rfl, Nat.le_of_ble_eq_true rfl⟩) hP hD hS hA (kJ_all) (fun _ => rfl) (fun r118 u H locs hw hP hD hS => ?_)
              have hw := hw.trans (of_7 hI (f := f) (by omega))
              subst hw
              have hP : va_P D vwCl (wC Y w a b d M N F o z P n t kd V vc) H := hP
              have hD : va_D A (wC Y w a b d M N F o z P n t kd V vc) := hD
              refine lv_iadd hx hb dL_tonnes_257 ?_
              refine kTop (y := sTo (M 12) (f + 1)) rfl ?_
              refine lv_istore_n (lv' := [(2, .int (sTo (M 12) (f + 1))), (1, .int (sTo (M 11) (f + 1))), (4, .int 1), (7, .int (M 10 f)), (6, .int (cHow M f (M 19 0))), (0, .ref (w 0)), (3, .int (sTo (M 13) f)), (5, .int (nI f))]) hx hb dL_tonnes_258 rfl hl (by decide) rfl (fun ls hl => ?_)
              refine lv_iload_n hx hb dL_tonnes_259 rfl (lv_at hl 6 rfl) ?_
              refine lv_aload_n hx hb dL_tonnes_260 rfl (lv_at hl 5 rfl) ?_
              refine lv_iload hx hb dL_tonnes_261 (lv_at hl 7 rfl) ?_
              refine lv_bipush (v := 8) hx hb dL_tonnes_263 (by decide) ?_
              refine kc_i (krV (As := [.int (nI f), .int 8]) (rest := [.int (sTo (M 13) f)]) (c_X7_ofField l D Y w a b d M N F o z P n t kd V vc (nI f) 8 hI) ⟨hx, hb, hml, hown, hta⟩ (cwL_15 hta ⟨Nat.le_of_ble_eq_true rfl, Nat.le_of_ble_eq_true rfl⟩) kX0b (fun _ _ _ => trivial) hK hNs hP hD (kJ_all) (q0 := 0) rfl rfl rfl rfl hl.1 rfl (Nat.le_of_ble_eq_true rfl) dL_tonnes_265 ⟨Nat.le_of_ble_eq_true rfl, Nat.le_of_ble_eq_true rfl⟩) hP hD hS hA (kJ_all) (fun _ => rfl) (fun r119 u H locs hw hP hD hS => ?_)
              have hw := hw.trans (of_8 hI (f := f) (by omega))
              subst hw
              have hP : va_P D vwCl (wC Y w a b d M N F o z P n t kd V vc) H := hP
              have hD : va_D A (wC Y w a b d M N F o z P n t kd V vc) := hD
              refine lv_iadd hx hb dL_tonnes_268 ?_
              refine kTop (y := sTo (M 13) (f + 1)) rfl ?_
              refine lv_istore_n (lv' := [(3, .int (sTo (M 13) (f + 1))), (2, .int (sTo (M 12) (f + 1))), (1, .int (sTo (M 11) (f + 1))), (4, .int 1), (7, .int (M 10 f)), (6, .int (cHow M f (M 19 0))), (0, .ref (w 0)), (5, .int (nI f))]) hx hb dL_tonnes_269 rfl hl (by decide) rfl (fun ls hl => ?_)
              refine lv_iinc (v := nI (f + 1)) (lv' := [(5, .int (nI (f + 1))), (3, .int (sTo (M 13) (f + 1))), (2, .int (sTo (M 12) (f + 1))), (1, .int (sTo (M 11) (f + 1))), (4, .int 1), (7, .int (M 10 f)), (6, .int (cHow M f (M 19 0))), (0, .ref (w 0))]) hx hb dL_tonnes_270 hl (k := 7) rfl (nI_add f 1) (by decide) rfl (fun ls hl => ?_)
              refine lv_goto (tgt := 37) hx hb dL_tonnes_273 (by decide) ?_
              exact ih37 (f + 1) (by omega) (by omega) _ _ hP hD hS ls (lv_sub hl [7, 3, 2, 1, 4, 0] rfl)
            · refine lv_iconst (v := 1) hx hb dL_tonnes_206 (by decide) ?_
              refine lv_goto (tgt := 211) hx hb dL_tonnes_207 (by decide) ?_
              refine lv_aload_n hx hb dL_tonnes_211 rfl (lv_at hl 2 rfl) ?_
              refine lv_iload hx hb dL_tonnes_212 (lv_at hl 7 rfl) ?_
              refine lv_bipush (v := 8) hx hb dL_tonnes_214 (by decide) ?_
              refine kc_i (krV (As := [.int (nI f), .int 8]) (rest := [.int 1]) (c_X7_ofField l D Y w a b d M N F o z P n t kd V vc (nI f) 8 hI) ⟨hx, hb, hml, hown, hta⟩ (cwL_15 hta ⟨Nat.le_of_ble_eq_true rfl, Nat.le_of_ble_eq_true rfl⟩) kX0b (fun _ _ _ => trivial) hK hNs hP hD (kJ_all) (q0 := 0) rfl rfl rfl rfl hl.1 rfl (Nat.le_of_ble_eq_true rfl) dL_tonnes_216 ⟨Nat.le_of_ble_eq_true rfl, Nat.le_of_ble_eq_true rfl⟩) hP hD hS hA (kJ_all) (fun _ => rfl) (fun r120 u H locs hw hP hD hS => ?_)
              have hw := hw.trans (of_8 hI (f := f) (by omega))
              subst hw
              have hP : va_P D vwCl (wC Y w a b d M N F o z P n t kd V vc) H := hP
              have hD : va_D A (wC Y w a b d M N F o z P n t kd V vc) := hD
              refine lv_if_le (tgt := 226) hx hb dL_tonnes_219 (by decide) (fun h => absurd h ((pt_lost hok (f := f) (by omega)).mp c114)) (fun _ => ?_)
              refine lv_iconst (v := 1) hx hb dL_tonnes_222 (by decide) ?_
              refine lv_goto (tgt := 227) hx hb dL_tonnes_223 (by decide) ?_
              refine lv_icmp_ne (tgt := 234) hx hb dL_tonnes_227 (by decide) (fun h => False.elim (by revert h; decide)) (fun _ => ?_)
              refine lv_iconst (v := 1) hx hb dL_tonnes_230 (by decide) ?_
              refine lv_goto (tgt := 235) hx hb dL_tonnes_231 (by decide) ?_
              refine lv_istore (lv' := [(4, .int 1), (7, .int (M 10 f)), (6, .int (cHow M f (M 19 0))), (0, .ref (w 0)), (1, .int (sTo (M 11) f)), (2, .int (sTo (M 12) f)), (3, .int (sTo (M 13) f)), (5, .int (nI f))]) hx hb dL_tonnes_235 hl (by decide) rfl (fun ls hl => ?_)
              refine lv_iload_n hx hb dL_tonnes_237 rfl (lv_at hl 4 rfl) ?_
              refine lv_aload_n hx hb dL_tonnes_238 rfl (lv_at hl 3 rfl) ?_
              refine lv_iload hx hb dL_tonnes_239 (lv_at hl 7 rfl) ?_
              refine lv_bipush (v := 6) hx hb dL_tonnes_241 (by decide) ?_
              refine kc_i (krV (As := [.int (nI f), .int 6]) (rest := [.int (sTo (M 11) f)]) (c_X7_ofField l D Y w a b d M N F o z P n t kd V vc (nI f) 6 hI) ⟨hx, hb, hml, hown, hta⟩ (cwL_15 hta ⟨Nat.le_of_ble_eq_true rfl, Nat.le_of_ble_eq_true rfl⟩) kX0b (fun _ _ _ => trivial) hK hNs hP hD (kJ_all) (q0 := 0) rfl rfl rfl rfl hl.1 rfl (Nat.le_of_ble_eq_true rfl) dL_tonnes_243 ⟨Nat.le_of_ble_eq_true rfl, Nat.le_of_ble_eq_true rfl⟩) hP hD hS hA (kJ_all) (fun _ => rfl) (fun r122 u H locs hw hP hD hS => ?_)
              have hw := hw.trans (of_6 hI (f := f) (by omega))
              subst hw
              have hP : va_P D vwCl (wC Y w a b d M N F o z P n t kd V vc) H := hP
              have hD : va_D A (wC Y w a b d M N F o z P n t kd V vc) := hD
              refine lv_iadd hx hb dL_tonnes_246 ?_
              refine kTop (y := sTo (M 11) (f + 1)) rfl ?_
              refine lv_istore_n (lv' := [(1, .int (sTo (M 11) (f + 1))), (4, .int 1), (7, .int (M 10 f)), (6, .int (cHow M f (M 19 0))), (0, .ref (w 0)), (2, .int (sTo (M 12) f)), (3, .int (sTo (M 13) f)), (5, .int (nI f))]) hx hb dL_tonnes_247 rfl hl (by decide) rfl (fun ls hl => ?_)
              refine lv_iload_n hx hb dL_tonnes_248 rfl (lv_at hl 5 rfl) ?_
              refine lv_aload_n hx hb dL_tonnes_249 rfl (lv_at hl 4 rfl) ?_
              refine lv_iload hx hb dL_tonnes_250 (lv_at hl 7 rfl) ?_
              refine lv_bipush (v := 7) hx hb dL_tonnes_252 (by decide) ?_
              refine kc_i (krV (As := [.int (nI f), .int 7]) (rest := [.int (sTo (M 12) f)]) (c_X7_ofField l D Y w a b d M N F o z P n t kd V vc (nI f) 7 hI) ⟨hx, hb, hml, hown, hta⟩ (cwL_15 hta ⟨Nat.le_of_ble_eq_true rfl, Nat.le_of_ble_eq_true rfl⟩) kX0b (fun _ _ _ => trivial) hK hNs hP hD (kJ_all) (q0 := 0) rfl rfl rfl rfl hl.1 rfl (Nat.le_of_ble_eq_true rfl) dL_tonnes_254 ⟨Nat.le_of_ble_eq_true rfl, Nat.le_of_ble_eq_true rfl⟩) hP hD hS hA (kJ_all) (fun _ => rfl) (fun r123 u H locs hw hP hD hS => ?_)
              have hw := hw.trans (of_7 hI (f := f) (by omega))
              subst hw
              have hP : va_P D vwCl (wC Y w a b d M N F o z P n t kd V vc) H := hP
              have hD : va_D A (wC Y w a b d M N F o z P n t kd V vc) := hD
              refine lv_iadd hx hb dL_tonnes_257 ?_
              refine kTop (y := sTo (M 12) (f + 1)) rfl ?_
              refine lv_istore_n (lv' := [(2, .int (sTo (M 12) (f + 1))), (1, .int (sTo (M 11) (f + 1))), (4, .int 1), (7, .int (M 10 f)), (6, .int (cHow M f (M 19 0))), (0, .ref (w 0)), (3, .int (sTo (M 13) f)), (5, .int (nI f))]) hx hb dL_tonnes_258 rfl hl (by decide) rfl (fun ls hl => ?_)
              refine lv_iload_n hx hb dL_tonnes_259 rfl (lv_at hl 6 rfl) ?_
              refine lv_aload_n hx hb dL_tonnes_260 rfl (lv_at hl 5 rfl) ?_
              refine lv_iload hx hb dL_tonnes_261 (lv_at hl 7 rfl) ?_
              refine lv_bipush (v := 8) hx hb dL_tonnes_263 (by decide) ?_
              refine kc_i (krV (As := [.int (nI f), .int 8]) (rest := [.int (sTo (M 13) f)]) (c_X7_ofField l D Y w a b d M N F o z P n t kd V vc (nI f) 8 hI) ⟨hx, hb, hml, hown, hta⟩ (cwL_15 hta ⟨Nat.le_of_ble_eq_true rfl, Nat.le_of_ble_eq_true rfl⟩) kX0b (fun _ _ _ => trivial) hK hNs hP hD (kJ_all) (q0 := 0) rfl rfl rfl rfl hl.1 rfl (Nat.le_of_ble_eq_true rfl) dL_tonnes_265 ⟨Nat.le_of_ble_eq_true rfl, Nat.le_of_ble_eq_true rfl⟩) hP hD hS hA (kJ_all) (fun _ => rfl) (fun r124 u H locs hw hP hD hS => ?_)
              have hw := hw.trans (of_8 hI (f := f) (by omega))
              subst hw
              have hP : va_P D vwCl (wC Y w a b d M N F o z P n t kd V vc) H := hP
              have hD : va_D A (wC Y w a b d M N F o z P n t kd V vc) := hD
              refine lv_iadd hx hb dL_tonnes_268 ?_
              refine kTop (y := sTo (M 13) (f + 1)) rfl ?_
              refine lv_istore_n (lv' := [(3, .int (sTo (M 13) (f + 1))), (2, .int (sTo (M 12) (f + 1))), (1, .int (sTo (M 11) (f + 1))), (4, .int 1), (7, .int (M 10 f)), (6, .int (cHow M f (M 19 0))), (0, .ref (w 0)), (5, .int (nI f))]) hx hb dL_tonnes_269 rfl hl (by decide) rfl (fun ls hl => ?_)
              refine lv_iinc (v := nI (f + 1)) (lv' := [(5, .int (nI (f + 1))), (3, .int (sTo (M 13) (f + 1))), (2, .int (sTo (M 12) (f + 1))), (1, .int (sTo (M 11) (f + 1))), (4, .int 1), (7, .int (M 10 f)), (6, .int (cHow M f (M 19 0))), (0, .ref (w 0))]) hx hb dL_tonnes_270 hl (k := 7) rfl (nI_add f 1) (by decide) rfl (fun ls hl => ?_)
              refine lv_goto (tgt := 37) hx hb dL_tonnes_273 (by decide) ?_
              exact ih37 (f + 1) (by omega) (by omega) _ _ hP hD hS ls (lv_sub hl [7, 3, 2, 1, 4, 0] rfl)
          · refine lv_iload hx hb dL_tonnes_195 (lv_at hl 0 rfl) ?_
            refine lv_if_ne (tgt := 234) hx hb dL_tonnes_197 (by decide) (fun h => absurd (pt_full hok (f := f) (by omega) c113) h) (fun _ => ?_)
            refine lv_iload hx hb dL_tonnes_200 (lv_at hl 1 rfl) ?_
            refine lv_iconst (v := 3) hx hb dL_tonnes_202 (by decide) ?_
            refine lv_icmp_ne (tgt := 210) hx hb dL_tonnes_203 (by decide) (fun c126 => ?_) (fun c126 => ?_)
            · refine lv_iconst (v := 0) hx hb dL_tonnes_210 (by decide) ?_
              refine lv_aload_n hx hb dL_tonnes_211 rfl (lv_at hl 2 rfl) ?_
              refine lv_iload hx hb dL_tonnes_212 (lv_at hl 7 rfl) ?_
              refine lv_bipush (v := 8) hx hb dL_tonnes_214 (by decide) ?_
              refine kc_i (krV (As := [.int (nI f), .int 8]) (rest := [.int 0]) (c_X7_ofField l D Y w a b d M N F o z P n t kd V vc (nI f) 8 hI) ⟨hx, hb, hml, hown, hta⟩ (cwL_15 hta ⟨Nat.le_of_ble_eq_true rfl, Nat.le_of_ble_eq_true rfl⟩) kX0b (fun _ _ _ => trivial) hK hNs hP hD (kJ_all) (q0 := 0) rfl rfl rfl rfl hl.1 rfl (Nat.le_of_ble_eq_true rfl) dL_tonnes_216 ⟨Nat.le_of_ble_eq_true rfl, Nat.le_of_ble_eq_true rfl⟩) hP hD hS hA (kJ_all) (fun _ => rfl) (fun r127 u H locs hw hP hD hS => ?_)
              have hw := hw.trans (of_8 hI (f := f) (by omega))
              subst hw
              have hP : va_P D vwCl (wC Y w a b d M N F o z P n t kd V vc) H := hP
              have hD : va_D A (wC Y w a b d M N F o z P n t kd V vc) := hD
              refine lv_if_le (tgt := 226) hx hb dL_tonnes_219 (by decide) (fun _ => ?_) (fun h => absurd (Decidable.not_not.mp (fun q => c126 ((pt_lost hok (f := f) (by omega)).mpr q))) h)
              refine lv_iconst (v := 0) hx hb dL_tonnes_226 (by decide) ?_
              refine lv_icmp_ne (tgt := 234) hx hb dL_tonnes_227 (by decide) (fun h => False.elim (by revert h; decide)) (fun _ => ?_)
              refine lv_iconst (v := 1) hx hb dL_tonnes_230 (by decide) ?_
              refine lv_goto (tgt := 235) hx hb dL_tonnes_231 (by decide) ?_
              refine lv_istore (lv' := [(4, .int 1), (7, .int (M 10 f)), (6, .int (cHow M f (M 19 0))), (0, .ref (w 0)), (1, .int (sTo (M 11) f)), (2, .int (sTo (M 12) f)), (3, .int (sTo (M 13) f)), (5, .int (nI f))]) hx hb dL_tonnes_235 hl (by decide) rfl (fun ls hl => ?_)
              refine lv_iload_n hx hb dL_tonnes_237 rfl (lv_at hl 4 rfl) ?_
              refine lv_aload_n hx hb dL_tonnes_238 rfl (lv_at hl 3 rfl) ?_
              refine lv_iload hx hb dL_tonnes_239 (lv_at hl 7 rfl) ?_
              refine lv_bipush (v := 6) hx hb dL_tonnes_241 (by decide) ?_
              refine kc_i (krV (As := [.int (nI f), .int 6]) (rest := [.int (sTo (M 11) f)]) (c_X7_ofField l D Y w a b d M N F o z P n t kd V vc (nI f) 6 hI) ⟨hx, hb, hml, hown, hta⟩ (cwL_15 hta ⟨Nat.le_of_ble_eq_true rfl, Nat.le_of_ble_eq_true rfl⟩) kX0b (fun _ _ _ => trivial) hK hNs hP hD (kJ_all) (q0 := 0) rfl rfl rfl rfl hl.1 rfl (Nat.le_of_ble_eq_true rfl) dL_tonnes_243 ⟨Nat.le_of_ble_eq_true rfl, Nat.le_of_ble_eq_true rfl⟩) hP hD hS hA (kJ_all) (fun _ => rfl) (fun r129 u H locs hw hP hD hS => ?_)
              have hw := hw.trans (of_6 hI (f := f) (by omega))
              subst hw
              have hP : va_P D vwCl (wC Y w a b d M N F o z P n t kd V vc) H := hP
              have hD : va_D A (wC Y w a b d M N F o z P n t kd V vc) := hD
              refine lv_iadd hx hb dL_tonnes_246 ?_
              refine kTop (y := sTo (M 11) (f + 1)) rfl ?_
              refine lv_istore_n (lv' := [(1, .int (sTo (M 11) (f + 1))), (4, .int 1), (7, .int (M 10 f)), (6, .int (cHow M f (M 19 0))), (0, .ref (w 0)), (2, .int (sTo (M 12) f)), (3, .int (sTo (M 13) f)), (5, .int (nI f))]) hx hb dL_tonnes_247 rfl hl (by decide) rfl (fun ls hl => ?_)
              refine lv_iload_n hx hb dL_tonnes_248 rfl (lv_at hl 5 rfl) ?_
              refine lv_aload_n hx hb dL_tonnes_249 rfl (lv_at hl 4 rfl) ?_
              refine lv_iload hx hb dL_tonnes_250 (lv_at hl 7 rfl) ?_
              refine lv_bipush (v := 7) hx hb dL_tonnes_252 (by decide) ?_
              refine kc_i (krV (As := [.int (nI f), .int 7]) (rest := [.int (sTo (M 12) f)]) (c_X7_ofField l D Y w a b d M N F o z P n t kd V vc (nI f) 7 hI) ⟨hx, hb, hml, hown, hta⟩ (cwL_15 hta ⟨Nat.le_of_ble_eq_true rfl, Nat.le_of_ble_eq_true rfl⟩) kX0b (fun _ _ _ => trivial) hK hNs hP hD (kJ_all) (q0 := 0) rfl rfl rfl rfl hl.1 rfl (Nat.le_of_ble_eq_true rfl) dL_tonnes_254 ⟨Nat.le_of_ble_eq_true rfl, Nat.le_of_ble_eq_true rfl⟩) hP hD hS hA (kJ_all) (fun _ => rfl) (fun r130 u H locs hw hP hD hS => ?_)
              have hw := hw.trans (of_7 hI (f := f) (by omega))
              subst hw
              have hP : va_P D vwCl (wC Y w a b d M N F o z P n t kd V vc) H := hP
              have hD : va_D A (wC Y w a b d M N F o z P n t kd V vc) := hD
              refine lv_iadd hx hb dL_tonnes_257 ?_
              refine kTop (y := sTo (M 12) (f + 1)) rfl ?_
              refine lv_istore_n (lv' := [(2, .int (sTo (M 12) (f + 1))), (1, .int (sTo (M 11) (f + 1))), (4, .int 1), (7, .int (M 10 f)), (6, .int (cHow M f (M 19 0))), (0, .ref (w 0)), (3, .int (sTo (M 13) f)), (5, .int (nI f))]) hx hb dL_tonnes_258 rfl hl (by decide) rfl (fun ls hl => ?_)
              refine lv_iload_n hx hb dL_tonnes_259 rfl (lv_at hl 6 rfl) ?_
              refine lv_aload_n hx hb dL_tonnes_260 rfl (lv_at hl 5 rfl) ?_
              refine lv_iload hx hb dL_tonnes_261 (lv_at hl 7 rfl) ?_
              refine lv_bipush (v := 8) hx hb dL_tonnes_263 (by decide) ?_
              refine kc_i (krV (As := [.int (nI f), .int 8]) (rest := [.int (sTo (M 13) f)]) (c_X7_ofField l D Y w a b d M N F o z P n t kd V vc (nI f) 8 hI) ⟨hx, hb, hml, hown, hta⟩ (cwL_15 hta ⟨Nat.le_of_ble_eq_true rfl, Nat.le_of_ble_eq_true rfl⟩) kX0b (fun _ _ _ => trivial) hK hNs hP hD (kJ_all) (q0 := 0) rfl rfl rfl rfl hl.1 rfl (Nat.le_of_ble_eq_true rfl) dL_tonnes_265 ⟨Nat.le_of_ble_eq_true rfl, Nat.le_of_ble_eq_true rfl⟩) hP hD hS hA (kJ_all) (fun _ => rfl) (fun r131 u H locs hw hP hD hS => ?_)
              have hw := hw.trans (of_8 hI (f := f) (by omega))
              subst hw
              have hP : va_P D vwCl (wC Y w a b d M N F o z P n t kd V vc) H := hP
              have hD : va_D A (wC Y w a b d M N F o z P n t kd V vc) := hD
              refine lv_iadd hx hb dL_tonnes_268 ?_
              refine kTop (y := sTo (M 13) (f + 1)) rfl ?_
              refine lv_istore_n (lv' := [(3, .int (sTo (M 13) (f + 1))), (2, .int (sTo (M 12) (f + 1))), (1, .int (sTo (M 11) (f + 1))), (4, .int 1), (7, .int (M 10 f)), (6, .int (cHow M f (M 19 0))), (0, .ref (w 0)), (5, .int (nI f))]) hx hb dL_tonnes_269 rfl hl (by decide) rfl (fun ls hl => ?_)
              refine lv_iinc (v := nI (f + 1)) (lv' := [(5, .int (nI (f + 1))), (3, .int (sTo (M 13) (f + 1))), (2, .int (sTo (M 12) (f + 1))), (1, .int (sTo (M 11) (f + 1))), (4, .int 1), (7, .int (M 10 f)), (6, .int (cHow M f (M 19 0))), (0, .ref (w 0))]) hx hb dL_tonnes_270 hl (k := 7) rfl (nI_add f 1) (by decide) rfl (fun ls hl => ?_)
              refine lv_goto (tgt := 37) hx hb dL_tonnes_273 (by decide) ?_
              exact ih37 (f + 1) (by omega) (by omega) _ _ hP hD hS ls (lv_sub hl [7, 3, 2, 1, 4, 0] rfl)
            · refine lv_iconst (v := 1) hx hb dL_tonnes_206 (by decide) ?_
              refine lv_goto (tgt := 211) hx hb dL_tonnes_207 (by decide) ?_
              refine lv_aload_n hx hb dL_tonnes_211 rfl (lv_at hl 2 rfl) ?_
              refine lv_iload hx hb dL_tonnes_212 (lv_at hl 7 rfl) ?_
              refine lv_bipush (v := 8) hx hb dL_tonnes_214 (by decide) ?_
              refine kc_i (krV (As := [.int (nI f), .int 8]) (rest := [.int 1]) (c_X7_ofField l D Y w a b d M N F o z P n t kd V vc (nI f) 8 hI) ⟨hx, hb, hml, hown, hta⟩ (cwL_15 hta ⟨Nat.le_of_ble_eq_true rfl, Nat.le_of_ble_eq_true rfl⟩) kX0b (fun _ _ _ => trivial) hK hNs hP hD (kJ_all) (q0 := 0) rfl rfl rfl rfl hl.1 rfl (Nat.le_of_ble_eq_true rfl) dL_tonnes_216 ⟨Nat.le_of_ble_eq_true rfl, Nat.le_of_ble_eq_true rfl⟩) hP hD hS hA (kJ_all) (fun _ => rfl) (fun r132 u H locs hw hP hD hS => ?_)
              have hw := hw.trans (of_8 hI (f := f) (by omega))
              subst hw
              have hP : va_P D vwCl (wC Y w a b d M N F o z P n t kd V vc) H := hP
              have hD : va_D A (wC Y w a b d M N F o z P n t kd V vc) := hD
              refine lv_if_le (tgt := 226) hx hb dL_tonnes_219 (by decide) (fun h => absurd h ((pt_lost hok (f := f) (by omega)).mp c126)) (fun _ => ?_)
              refine lv_iconst (v := 1) hx hb dL_tonnes_222 (by decide) ?_
              refine lv_goto (tgt := 227) hx hb dL_tonnes_223 (by decide) ?_
              refine lv_icmp_ne (tgt := 234) hx hb dL_tonnes_227 (by decide) (fun h => False.elim (by revert h; decide)) (fun _ => ?_)
              refine lv_iconst (v := 1) hx hb dL_tonnes_230 (by decide) ?_
              refine lv_goto (tgt := 235) hx hb dL_tonnes_231 (by decide) ?_
              refine lv_istore (lv' := [(4, .int 1), (7, .int (M 10 f)), (6, .int (cHow M f (M 19 0))), (0, .ref (w 0)), (1, .int (sTo (M 11) f)), (2, .int (sTo (M 12) f)), (3, .int (sTo (M 13) f)), (5, .int (nI f))]) hx hb dL_tonnes_235 hl (by decide) rfl (fun ls hl => ?_)
              refine lv_iload_n hx hb dL_tonnes_237 rfl (lv_at hl 4 rfl) ?_
              refine lv_aload_n hx hb dL_tonnes_238 rfl (lv_at hl 3 rfl) ?_
              refine lv_iload hx hb dL_tonnes_239 (lv_at hl 7 rfl) ?_
              refine lv_bipush (v := 6) hx hb dL_tonnes_241 (by decide) ?_
              refine kc_i (krV (As := [.int (nI f), .int 6]) (rest := [.int (sTo (M 11) f)]) (c_X7_ofField l D Y w a b d M N F o z P n t kd V vc (nI f) 6 hI) ⟨hx, hb, hml, hown, hta⟩ (cwL_15 hta ⟨Nat.le_of_ble_eq_true rfl, Nat.le_of_ble_eq_true rfl⟩) kX0b (fun _ _ _ => trivial) hK hNs hP hD (kJ_all) (q0 := 0) rfl rfl rfl rfl hl.1 rfl (Nat.le_of_ble_eq_true rfl) dL_tonnes_243 ⟨Nat.le_of_ble_eq_true rfl, Nat.le_of_ble_eq_true rfl⟩) hP hD hS hA (kJ_all) (fun _ => rfl) (fun r134 u H locs hw hP hD hS => ?_)
              have hw := hw.trans (of_6 hI (f := f) (by omega))
              subst hw
              have hP : va_P D vwCl (wC Y w a b d M N F o z P n t kd V vc) H := hP
              have hD : va_D A (wC Y w a b d M N F o z P n t kd V vc) := hD
              refine lv_iadd hx hb dL_tonnes_246 ?_
              refine kTop (y := sTo (M 11) (f + 1)) rfl ?_
              refine lv_istore_n (lv' := [(1, .int (sTo (M 11) (f + 1))), (4, .int 1), (7, .int (M 10 f)), (6, .int (cHow M f (M 19 0))), (0, .ref (w 0)), (2, .int (sTo (M 12) f)), (3, .int (sTo (M 13) f)), (5, .int (nI f))]) hx hb dL_tonnes_247 rfl hl (by decide) rfl (fun ls hl => ?_)
              refine lv_iload_n hx hb dL_tonnes_248 rfl (lv_at hl 5 rfl) ?_
              refine lv_aload_n hx hb dL_tonnes_249 rfl (lv_at hl 4 rfl) ?_
              refine lv_iload hx hb dL_tonnes_250 (lv_at hl 7 rfl) ?_
              refine lv_bipush (v := 7) hx hb dL_tonnes_252 (by decide) ?_
              refine kc_i (krV (As := [.int (nI f), .int 7]) (rest := [.int (sTo (M 12) f)]) (c_X7_ofField l D Y w a b d M N F o z P n t kd V vc (nI f) 7 hI) ⟨hx, hb, hml, hown, hta⟩ (cwL_15 hta ⟨Nat.le_of_ble_eq_true rfl, Nat.le_of_ble_eq_true rfl⟩) kX0b (fun _ _ _ => trivial) hK hNs hP hD (kJ_all) (q0 := 0) rfl rfl rfl rfl hl.1 rfl (Nat.le_of_ble_eq_true rfl) dL_tonnes_254 ⟨Nat.le_of_ble_eq_true rfl, Nat.le_of_ble_eq_true rfl⟩) hP hD hS hA (kJ_all) (fun _ => rfl) (fun r135 u H locs hw hP hD hS => ?_)
              have hw := hw.trans (of_7 hI (f := f) (by omega))
              subst hw
              have hP : va_P D vwCl (wC Y w a b d M N F o z P n t kd V vc) H := hP
              have hD : va_D A (wC Y w a b d M N F o z P n t kd V vc) := hD
              refine lv_iadd hx hb dL_tonnes_257 ?_
              refine kTop (y := sTo (M 12) (f + 1)) rfl ?_
              refine lv_istore_n (lv' := [(2, .int (sTo (M 12) (f + 1))), (1, .int (sTo (M 11) (f + 1))), (4, .int 1), (7, .int (M 10 f)), (6, .int (cHow M f (M 19 0))), (0, .ref (w 0)), (3, .int (sTo (M 13) f)), (5, .int (nI f))]) hx hb dL_tonnes_258 rfl hl (by decide) rfl (fun ls hl => ?_)
              refine lv_iload_n hx hb dL_tonnes_259 rfl (lv_at hl 6 rfl) ?_
              refine lv_aload_n hx hb dL_tonnes_260 rfl (lv_at hl 5 rfl) ?_
              refine lv_iload hx hb dL_tonnes_261 (lv_at hl 7 rfl) ?_
              refine lv_bipush (v := 8) hx hb dL_tonnes_263 (by decide) ?_
              refine kc_i (krV (As := [.int (nI f), .int 8]) (rest := [.int (sTo (M 13) f)]) (c_X7_ofField l D Y w a b d M N F o z P n t kd V vc (nI f) 8 hI) ⟨hx, hb, hml, hown, hta⟩ (cwL_15 hta ⟨Nat.le_of_ble_eq_true rfl, Nat.le_of_ble_eq_true rfl⟩) kX0b (fun _ _ _ => trivial) hK hNs hP hD (kJ_all) (q0 := 0) rfl rfl rfl rfl hl.1 rfl (Nat.le_of_ble_eq_true rfl) dL_tonnes_265 ⟨Nat.le_of_ble_eq_true rfl, Nat.le_of_ble_eq_true rfl⟩) hP hD hS hA (kJ_all) (fun _ => rfl) (fun r136 u H locs hw hP hD hS => ?_)
              have hw := hw.trans (of_8 hI (f := f) (by omega))
              subst hw
              have hP : va_P D vwCl (wC Y w a b d M N F o z P n t kd V vc) H := hP
              have hD : va_D A (wC Y w a b d M N F o z P n t kd V vc) := hD
              refine lv_iadd hx hb dL_tonnes_268 ?_
              refine kTop (y := sTo (M 13) (f + 1)) rfl ?_
              refine lv_istore_n (lv' := [(3, .int (sTo (M 13) (f + 1))), (2, .int (sTo (M 12) (f + 1))), (1, .int (sTo (M 11) (f + 1))), (4, .int 1), (7, .int (M 10 f)), (6, .int (cHow M f (M 19 0))), (0, .ref (w 0)), (5, .int (nI f))]) hx hb dL_tonnes_269 rfl hl (by decide) rfl (fun ls hl => ?_)
              refine lv_iinc (v := nI (f + 1)) (lv' := [(5, .int (nI (f + 1))), (3, .int (sTo (M 13) (f + 1))), (2, .int (sTo (M 12) (f + 1))), (1, .int (sTo (M 11) (f + 1))), (4, .int 1), (7, .int (M 10 f)), (6, .int (cHow M f (M 19 0))), (0, .ref (w 0))]) hx hb dL_tonnes_270 hl (k := 7) rfl (nI_add f 1) (by decide) rfl (fun ls hl => ?_)
              refine lv_goto (tgt := 37) hx hb dL_tonnes_273 (by decide) ?_
              exact ih37 (f + 1) (by omega) (by omega) _ _ hP hD hS ls (lv_sub hl [7, 3, 2, 1, 4, 0] rfl)
  exact loop37 ((nF M - 0) + 1) 0 (Nat.lt_succ_self _) (by omega) _ _ hP hD hS ls (lv_sub hl [5, 4, 3, 2, 1, 0] rfl)
