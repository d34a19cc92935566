set_option maxHeartbeats 4000000 in
set_option maxRecDepth 100000 in
theorem c_X7_isWithin (l : Launch) (D : va_G) (Y : Nat → ClassId) (v lo hi : Int32) : kM l yX7_isWithin wX7_isWithin rX7_isWithin D Y ([]) [.int v, .int lo, .int hi] kX0 (kQi D (fun r (_ : Unit) => r = kb (pIn v lo hi)) (fun _ => [])) := by
  refine kentry (cc := cX7_isWithin) (maxL := 3) (ret := (some .boolean)) (by decide +kernel) rfl (Nat.le_of_ble_eq_true rfl) ?_
  intro p e s m args below meth c A Q ls hQ hx hb hr hlocks hml hown hin hta hA hX hK hNs hP hD hS hl
  have hown : s.vm.findClass RX7 = some m.cls := hown
  have hl : lv_has ls 3 [(0, .int v), (1, .int lo), (2, .int hi)] := hl
  refine lv_iload_n hx hb dX7_isWithin_0 rfl (lv_at hl 0 rfl) ?_
  refine lv_iload_n hx hb dX7_isWithin_1 rfl (lv_at hl 1 rfl) ?_
  refine lv_icmp_lt (tgt := 14) hx hb dX7_isWithin_2 (by decide) (fun c1 => ?_) (fun c1 => ?_)
  · refine lv_iconst (v := 0) hx hb dX7_isWithin_14 (by decide) ?_
    exact kzret (()) hQ hx hb hr hlocks hP hS dX7_isWithin_15 (by first | exact Or.inl rfl | exact Or.inr rfl | exact kb_01 _) (by simp [kb, pIn, c1])
  · refine lv_iload_n hx hb dX7_isWithin_5 rfl (lv_at hl 0 rfl) ?_
    refine lv_iload_n hx hb dX7_isWithin_6 rfl (lv_at hl 2 rfl) ?_
    refine lv_icmp_gt (tgt := 14) hx hb dX7_isWithin_7 (by decide) (fun c2 => ?_) (fun c2 => ?_)
    · refine lv_iconst (v := 0) hx hb dX7_isWithin_14 (by decide) ?_
      exact kzret (()) hQ hx hb hr hlocks hP hS dX7_isWithin_15 (by first | exact Or.inl rfl | exact Or.inr rfl | exact kb_01 _) (by simp [kb, pIn, c1, c2])
    · refine lv_iconst (v := 1) hx hb dX7_isWithin_10 (by decide) ?_
      refine lv_goto (tgt := 15) hx hb dX7_isWithin_11 (by decide) ?_
      exact kzret (()) hQ hx hb hr hlocks hP hS dX7_isWithin_15 (by first | exact Or.inl rfl | exact Or.inr rfl | exact kb_01 _) (by simp [kb, pIn, c1, c2])
set_option maxHeartbeats 4000000 in
set_option maxRecDepth 100000 in
theorem c_X7_isGrower (l : Launch) (D : va_G) (Y : Nat → ClassId) (v : Int32) : kM l yX7_isGrower wX7_isGrower rX7_isGrower D Y ([]) [.int v] kX0 (kQi D (fun r (_ : Unit) => r = kb (pIn v 0 5)) (fun _ => [])) := by
  refine kentry (cc := cX7_isGrower) (maxL := 1) (ret := (some .boolean)) (by decide +kernel) rfl (Nat.le_of_ble_eq_true rfl) ?_
  intro p e s m args below meth c A Q ls hQ hx hb hr hlocks hml hown hin hta hA hX hK hNs hP hD hS hl
  have hown : s.vm.findClass RX7 = some m.cls := hown
  have hl : lv_has ls 1 [(0, .int v)] := hl
  refine lv_iload_n hx hb dX7_isGrower_0 rfl (lv_at hl 0 rfl) ?_
  refine lv_iconst (v := 0) hx hb dX7_isGrower_1 (by decide) ?_
  refine lv_iconst (v := 5) hx hb dX7_isGrower_2 (by decide) ?_
  refine kc_i (krS (As := [.int v, .int 0, .int 5]) (rest := []) (c_X7_isWithin l D Y v 0 5) ⟨hx, hb, hml, hown, hta⟩ (cwX7_100 hta ⟨Nat.le_of_ble_eq_true rfl, Nat.le_of_ble_eq_true rfl⟩) kX0b (fun _ _ _ => trivial) hK hNs hP hD (kJ_nil) rfl hl.1 rfl (Nat.le_of_ble_eq_true rfl) dX7_isGrower_3 ⟨Nat.le_of_ble_eq_true rfl, Nat.le_of_ble_eq_true rfl⟩) hP hD hS hA (kJ_nil) (fun _ => rfl) (fun r1 u H locs hw hP hD hS => ?_)
  subst hw
  have hP : va_P D vwCl ([]) H := hP
  have hD : va_D A ([]) := hD
  exact kzret (()) hQ hx hb hr hlocks hP hS dX7_isGrower_6 (by first | exact Or.inl rfl | exact Or.inr rfl | exact kb_01 _) rfl
set_option maxHeartbeats 4000000 in
set_option maxRecDepth 100000 in
theorem c_X3_room (l : Launch) (D : va_G) (Y : Nat → ClassId) (a : Nat → Nat) (M : kN) : kM l yX3_room wX3_room rX3_room D Y (wM Y a M) [.ref (a 0)] kX0 (kQi D (fun r (_ : Unit) => r = cRoom M) (fun _ => wM Y a M)) := by
  refine kentry (cc := cX3_room) (maxL := 1) (ret := (some .int)) (by decide +kernel) rfl (Nat.le_of_ble_eq_true rfl) ?_
  intro p e s m args below meth c A Q ls hQ hx hb hr hlocks hml hown hin hta hA hX hK hNs hP hD hS hl
  have hown : s.vm.findClass RX3 = some m.cls := hown
  have hl : lv_has ls 1 [(0, .ref (a 0))] := hl
  refine lv_aload_n hx hb dX3_room_0 rfl (lv_at hl 0 rfl) ?_
  refine gfX3_39 (v := .ref (a 20)) hx hb hta hown hK hP 0 rfl rfl dX3_room_1 ?_
  refine gfX3_148 (v := .int (M 19 6)) hx hb hta hown hK hP 20 rfl rfl dX3_room_4 ?_
  refine lv_sipush (v := 400) hx hb dX3_room_7 (by decide) ?_
  refine lv_icmp_ge (tgt := 30) hx hb dX3_room_10 (by decide) (fun c1 => ?_) (fun c1 => ?_)
  · refine lv_iconst (v := 0) hx hb dX3_room_30 (by decide) ?_
    exact kiret (()) hQ hx hb hr hlocks hP hS dX3_room_31 (by simp [cRoom, c1])
  · refine lv_aload_n hx hb dX3_room_13 rfl (lv_at hl 0 rfl) ?_
    refine gfX3_9 (v := .ref (a 1)) hx hb hta hown hK hP 0 rfl rfl dX3_room_14 ?_
    refine lv_iconst (v := 3) hx hb dX3_room_17 (by decide) ?_
    refine kiald (f := M 0) hx hb hK hP 1 rfl 3 rfl (by omega) (by omega) dX3_room_18 ?_
    refine lv_aload_n hx hb dX3_room_19 rfl (lv_at hl 0 rfl) ?_
    refine gfX3_39 (v := .ref (a 20)) hx hb hta hown hK hP 0 rfl rfl dX3_room_20 ?_
    refine gfX3_151 (v := .int (M 19 7)) hx hb hta hown hK hP 20 rfl rfl dX3_room_23 ?_
    refine lv_isub hx hb dX3_room_26 ?_
    refine lv_goto (tgt := 31) hx hb dX3_room_27 (by decide) ?_
    exact kiret (()) hQ hx hb hr hlocks hP hS dX3_room_31 (by simp [cRoom, c1])
set_option maxHeartbeats 4000000 in
set_option maxRecDepth 100000 in
theorem c_X3_quotaOf (l : Launch) (D : va_G) (Y : Nat → ClassId) (a : Nat → Nat) (M : kN) (f : Nat) (hf : f < 30) (hg : M 6 f = nI (gr M f) ∧ gr M f < 6) : kM l yX3_quotaOf wX3_quotaOf rX3_quotaOf D Y (wM Y a M) [.ref (a 0), .int (nI f)] kX0 (kQi D (fun r (_ : Unit) => r = M 1 (gr M f)) (fun _ => wM Y a M)) := by
  refine kentry (cc := cX3_quotaOf) (maxL := 2) (ret := (some .int)) (by decide +kernel) rfl (Nat.le_of_ble_eq_true rfl) ?_
  intro p e s m args below meth c A Q ls hQ hx hb hr hlocks hml hown hin hta hA hX hK hNs hP hD hS hl
  have hown : s.vm.findClass RX3 = some m.cls := hown
  have hl : lv_has ls 2 [(0, .ref (a 0)), (1, .int (nI f))] := hl
  refine lv_aload_n hx hb dX3_quotaOf_0 rfl (lv_at hl 0 rfl) ?_
  refine gfX3_18 (v := .ref (a 2)) hx hb hta hown hK hP 0 rfl rfl dX3_quotaOf_1 ?_
  refine gfX3_87 (v := .ref (a 3)) hx hb hta hown hK hP 2 rfl rfl dX3_quotaOf_4 ?_
  refine lv_aload_n hx hb dX3_quotaOf_7 rfl (lv_at hl 0 rfl) ?_
  refine gfX3_25 (v := .ref (a 8)) hx hb hta hown hK hP 0 rfl rfl dX3_quotaOf_8 ?_
  refine gfX3_119 (v := .ref (a 9)) hx hb hta hown hK hP 8 rfl rfl dX3_quotaOf_11 ?_
  refine lv_iload_n hx hb dX3_quotaOf_14 rfl (lv_at hl 1 rfl) ?_
  refine kiald (f := M 6) hx hb hK hP 9 rfl f rfl (by omega) (by omega) dX3_quotaOf_15 ?_
  refine kTop hg.1 ?_
  refine kiald (f := M 1) hx hb hK hP 3 rfl (gr M f) rfl (by omega) (by omega) dX3_quotaOf_16 ?_
  exact kiret (()) hQ hx hb hr hlocks hP hS dX3_quotaOf_17 rfl
set_option maxHeartbeats 4000000 in
set_option maxRecDepth 100000 in
theorem c_X0_howItIs (l : Launch) (D : va_G) (Y : Nat → ClassId) (a : Nat → Nat) (M : kN) (f : Nat) (d : Int32) (hf : f < 30) : kM l yX0_howItIs wX0_howItIs rX0_howItIs D Y (wM Y a M) [.ref (a 8), .int (nI f), .int d] kX0 (kQi D (fun r (_ : Unit) => r = cHow M f d) (fun _ => wM Y a M)) := by
  refine kentry (cc := cX0_howItIs) (maxL := 3) (ret := (some .int)) (by decide +kernel) rfl (Nat.le_of_ble_eq_true rfl) ?_
  intro p e s m args below meth c A Q ls hQ hx hb hr hlocks hml hown hin hta hA hX hK hNs hP hD hS hl
  have hown : s.vm.findClass RX0 = some m.cls := hown
  have hl : lv_has ls 3 [(0, .ref (a 8)), (1, .int (nI f)), (2, .int d)] := hl
  refine lv_iload_n hx hb dX0_howItIs_0 rfl (lv_at hl 2 rfl) ?_
  refine lv_aload_n hx hb dX0_howItIs_1 rfl (lv_at hl 0 rfl) ?_
  refine gfX0_21 (v := .ref (a 12)) hx hb hta hown hK hP 8 rfl rfl dX0_howItIs_2 ?_
  refine lv_iload_n hx hb dX0_howItIs_5 rfl (lv_at hl 1 rfl) ?_
  refine kiald (f := M 9) hx hb hK hP 12 rfl f rfl (by omega) (by omega) dX0_howItIs_6 ?_
  refine lv_icmp_ge (tgt := 12) hx hb dX0_howItIs_7 (by decide) (fun c1 => ?_) (fun c1 => ?_)
  · refine lv_aload_n hx hb dX0_howItIs_12 rfl (lv_at hl 0 rfl) ?_
    refine gfX0_24 (v := .ref (a 13)) hx hb hta hown hK hP 8 rfl rfl dX0_howItIs_13 ?_
    refine lv_iload_n hx hb dX0_howItIs_16 rfl (lv_at hl 1 rfl) ?_
    refine kiald (f := M 10) hx hb hK hP 13 rfl f rfl (by omega) (by omega) dX0_howItIs_17 ?_
    refine lv_if_le (tgt := 23) hx hb dX0_howItIs_18 (by decide) (fun c2 => ?_) (fun c2 => ?_)
    · refine lv_aload_n hx hb dX0_howItIs_23 rfl (lv_at hl 0 rfl) ?_
      refine gfX0_33 (v := .ref (a 16)) hx hb hta hown hK hP 8 rfl rfl dX0_howItIs_24 ?_
      refine lv_iload_n hx hb dX0_howItIs_27 rfl (lv_at hl 1 rfl) ?_
      refine kiald (f := M 13) hx hb hK hP 16 rfl f rfl (by omega) (by omega) dX0_howItIs_28 ?_
      refine lv_if_le (tgt := 36) hx hb dX0_howItIs_29 (by decide) (fun c3 => ?_) (fun c3 => ?_)
      · refine lv_iconst (v := 2) hx hb dX0_howItIs_36 (by decide) ?_
        exact kiret (()) hQ hx hb hr hlocks hP hS dX0_howItIs_37 (by simp [cHow, sHow, c1, c2, c3])
      · refine lv_iconst (v := 3) hx hb dX0_howItIs_32 (by decide) ?_
        refine lv_goto (tgt := 37) hx hb dX0_howItIs_33 (by decide) ?_
        exact kiret (()) hQ hx hb hr hlocks hP hS dX0_howItIs_37 (by simp [cHow, sHow, c1, c2, c3])
    · refine lv_iconst (v := 1) hx hb dX0_howItIs_21 (by decide) ?_
      exact kiret (()) hQ hx hb hr hlocks hP hS dX0_howItIs_22 (by simp [cHow, sHow, c1, c2])
  · refine lv_iconst (v := 0) hx hb dX0_howItIs_10 (by decide) ?_
    exact kiret (()) hQ hx hb hr hlocks hP hS dX0_howItIs_11 (by simp [cHow, sHow, c1])
set_option maxHeartbeats 4000000 in
set_option maxRecDepth 100000 in
theorem c_X0_loseCane (l : Launch) (D : va_G) (Y : Nat → ClassId) (a : Nat → Nat) (M : kN) (f : Nat) (hf : f < 30) : kM l yX0_loseCane wX0_loseCane rX0_loseCane D Y (wM Y a M) [.ref (a 8), .int (nI f)] kX0 (kQi D (fun r u => r = M 10 f ∧ u = cLoseCane M f) (fun u => wM Y a u)) := by
  refine kentry (cc := cX0_loseCane) (maxL := 3) (ret := (some .int)) (by decide +kernel) rfl (Nat.le_of_ble_eq_true rfl) ?_
  intro p e s m args below meth c A Q ls hQ hx hb hr hlocks hml hown hin hta hA hX hK hNs hP hD hS hl
  have hown : s.vm.findClass RX0 = some m.cls := hown
  have hl : lv_has ls 3 [(0, .ref (a 8)), (1, .int (nI f))] := hl
  refine lv_aload_n hx hb dX0_loseCane_0 rfl (lv_at hl 0 rfl) ?_
  refine gfX0_24 (v := .ref (a 13)) hx hb hta hown hK hP 8 rfl rfl dX0_loseCane_1 ?_
  refine lv_iload_n hx hb dX0_loseCane_4 rfl (lv_at hl 1 rfl) ?_
  refine kiald (f := M 10) hx hb hK hP 13 rfl f rfl (by omega) (by omega) dX0_loseCane_5 ?_
  refine lv_istore_n (lv' := [(2, .int (M 10 f)), (0, .ref (a 8)), (1, .int (nI f))]) hx hb dX0_loseCane_6 rfl hl (by decide) rfl (fun ls hl => ?_)
  refine lv_aload_n hx hb dX0_loseCane_7 rfl (lv_at hl 1 rfl) ?_
  refine gfX0_33 (v := .ref (a 16)) hx hb hta hown hK hP 8 rfl rfl dX0_loseCane_8 ?_
  refine lv_iload_n hx hb dX0_loseCane_11 rfl (lv_at hl 2 rfl) ?_
  refine lv_dup2_11 hx hb dX0_loseCane_12 rfl rfl ?_
  refine kiald (f := M 13) hx hb hK hP 16 rfl f rfl (by omega) (by omega) dX0_loseCane_13 ?_
  refine lv_iload_n hx hb dX0_loseCane_14 rfl (lv_at hl 0 rfl) ?_
  refine lv_iadd hx hb dX0_loseCane_15 ?_
  refine kiast (f := M 13) hx hb hK hP hD hS 16 rfl f rfl (by omega) (by omega) dX0_loseCane_16 (wM Y a (sM M 13 f ((M 13 f) + (M 10 f)))) rfl (fun H locs hP hD hS => ?_)
  refine lv_aload_n hx hb dX0_loseCane_17 rfl (lv_at hl 1 rfl) ?_
  refine gfX0_24 (v := .ref (a 13)) hx hb hta hown hK hP 8 rfl rfl dX0_loseCane_18 ?_
  refine lv_iload_n hx hb dX0_loseCane_21 rfl (lv_at hl 2 rfl) ?_
  refine lv_iconst (v := 0) hx hb dX0_loseCane_22 (by decide) ?_
  refine kiast (f := M 10) hx hb hK hP hD hS 13 rfl f rfl (by omega) (by omega) dX0_loseCane_23 (wM Y a (sM (sM M 13 f ((M 13 f) + (M 10 f))) 10 f 0)) rfl (fun H locs hP hD hS => ?_)
  refine lv_iload_n hx hb dX0_loseCane_24 rfl (lv_at hl 0 rfl) ?_
  exact kiret (sM (sM M 13 f ((M 13 f) + (M 10 f))) 10 f 0) hQ hx hb hr hlocks hP hS dX0_loseCane_25 (⟨rfl, rfl⟩)
set_option maxHeartbeats 4000000 in
set_option maxRecDepth 100000 in
theorem c_X0_purityOn (l : Launch) (D : va_G) (Y : Nat → ClassId) (a : Nat → Nat) (M : kN) (f : Nat) (d loss : Int32) (hf : f < 30) : kM l yX0_purityOn wX0_purityOn rX0_purityOn D Y (wM Y a M) [.ref (a 8), .int (nI f), .int d, .int loss] kX0 (kQi D (fun r (_ : Unit) => r = sPur (M 9 f) (M 8 f) d loss) (fun _ => wM Y a M)) := by
  refine kentry (cc := cX0_purityOn) (maxL := 5) (ret := (some .int)) (by decide +kernel) rfl (Nat.le_of_ble_eq_true rfl) ?_
  intro p e s m args below meth c A Q ls hQ hx hb hr hlocks hml hown hin hta hA hX hK hNs hP hD hS hl
  have hown : s.vm.findClass RX0 = some m.cls := hown
  have hl : lv_has ls 5 [(0, .ref (a 8)), (1, .int (nI f)), (2, .int d), (3, .int loss)] := hl
  refine lv_iconst (v := 0) hx hb dX0_purityOn_0 (by decide) ?_
  refine lv_iload_n hx hb dX0_purityOn_1 rfl (lv_at hl 2 rfl) ?_
  refine lv_aload_n hx hb dX0_purityOn_2 rfl (lv_at hl 0 rfl) ?_
  refine gfX0_21 (v := .ref (a 12)) hx hb hta hown hK hP 8 rfl rfl dX0_purityOn_3 ?_
  refine lv_iload_n hx hb dX0_purityOn_6 rfl (lv_at hl 1 rfl) ?_
  refine kiald (f := M 9) hx hb hK hP 12 rfl f rfl (by omega) (by omega) dX0_purityOn_7 ?_
  refine lv_isub hx hb dX0_purityOn_8 ?_
  refine va_mmax hx hb (by rw [hml]; exact hl.1.symm) hown (hta _ al_378) (hta _ al_379) (hta _ al_133) (hta _ al_380) (Nat.le_of_ble_eq_true rfl) (Nat.le_of_ble_eq_true rfl) (Nat.le_of_ble_eq_true rfl) (Nat.le_of_ble_eq_true rfl) dX0_purityOn_9 ?_
  refine kTop (y := kmax 0 (d - (M 9 f))) rfl ?_
  refine lv_istore (lv' := [(4, .int (kmax 0 (d - (M 9 f)))), (0, .ref (a 8)), (1, .int (nI f)), (2, .int d), (3, .int loss)]) hx hb dX0_purityOn_12 hl (by decide) rfl (fun ls hl => ?_)
  refine lv_iconst (v := 0) hx hb dX0_purityOn_14 (by decide) ?_
  refine lv_aload_n hx hb dX0_purityOn_15 rfl (lv_at hl 1 rfl) ?_
  refine gfX0_18 (v := .ref (a 11)) hx hb hta hown hK hP 8 rfl rfl dX0_purityOn_16 ?_
  refine lv_iload_n hx hb dX0_purityOn_19 rfl (lv_at hl 2 rfl) ?_
  refine kiald (f := M 8) hx hb hK hP 11 rfl f rfl (by omega) (by omega) dX0_purityOn_20 ?_
  refine lv_iload_n hx hb dX0_purityOn_21 rfl (lv_at hl 4 rfl) ?_
  refine lv_iload hx hb dX0_purityOn_22 (lv_at hl 0 rfl) ?_
  refine lv_imul hx hb dX0_purityOn_24 ?_
  refine lv_isub hx hb dX0_purityOn_25 ?_
  refine va_mmax hx hb (by rw [hml]; exact hl.1.symm) hown (hta _ al_378) (hta _ al_379) (hta _ al_133) (hta _ al_380) (Nat.le_of_ble_eq_true rfl) (Nat.le_of_ble_eq_true rfl) (Nat.le_of_ble_eq_true rfl) (Nat.le_of_ble_eq_true rfl) dX0_purityOn_26 ?_
  refine kTop (y := kmax 0 ((M 8 f) - (loss * (kmax 0 (d - (M 9 f)))))) rfl ?_
  exact kiret (()) hQ hx hb hr hlocks hP hS dX0_purityOn_29 rfl
set_option maxHeartbeats 4000000 in
set_option maxRecDepth 100000 in
theorem c_X3_goesAhead (l : Launch) (D : va_G) (Y : Nat → ClassId) (a : Nat → Nat) (M : kN) (f b : Nat) (hf : f < 30) (hb0 : b < 30) (hgf : M 6 f = nI (gr M f) ∧ gr M f < 6) (hgb : M 6 b = nI (gr M b) ∧ gr M b < 6) : kM l yX3_goesAhead wX3_goesAhead rX3_goesAhead D Y (wM Y a M) [.ref (a 0), .int (nI f), .int (nI b)] kX0 (kQi D (fun r (_ : Unit) => r = kb (pAheadM M f b)) (fun _ => wM Y a M)) := by
  refine kentry (cc := cX3_goesAhead) (maxL := 5) (ret := (some .boolean)) (by decide +kernel) rfl (Nat.le_of_ble_eq_true rfl) ?_
  intro p e s m args below meth c A Q ls hQ hx hb hr hlocks hml hown hin hta hA hX hK hNs hP hD hS hl
  have hown : s.vm.findClass RX3 = some m.cls := hown
  have hl : lv_has ls 5 [(0, .ref (a 0)), (1, .int (nI f)), (2, .int (nI b))] := hl
  refine lv_aload_n hx hb dX3_goesAhead_0 rfl (lv_at hl 0 rfl) ?_
  refine gfX3_25 (v := .ref (a 8)) hx hb hta hown hK hP 0 rfl rfl dX3_goesAhead_1 ?_
  refine gfX3_113 (v := .ref (a 12)) hx hb hta hown hK hP 8 rfl rfl dX3_goesAhead_4 ?_
  refine lv_astore_n (lv' := [(3, .ref (a 12)), (0, .ref (a 0)), (1, .int (nI f)), (2, .int (nI b))]) hx hb dX3_goesAhead_7 rfl hl (by decide) rfl (fun ls hl => ?_)
  refine lv_aload_n hx hb dX3_goesAhead_8 rfl (lv_at hl 1 rfl) ?_
  refine gfX3_25 (v := .ref (a 8)) hx hb hta hown hK hP 0 rfl rfl dX3_goesAhead_9 ?_
  refine gfX3_119 (v := .ref (a 9)) hx hb hta hown hK hP 8 rfl rfl dX3_goesAhead_12 ?_
  refine lv_astore (lv' := [(4, .ref (a 9)), (3, .ref (a 12)), (0, .ref (a 0)), (1, .int (nI f)), (2, .int (nI b))]) hx hb dX3_goesAhead_15 hl (by decide) rfl (fun ls hl => ?_)
  refine lv_aload_n hx hb dX3_goesAhead_17 rfl (lv_at hl 1 rfl) ?_
  refine lv_iload_n hx hb dX3_goesAhead_18 rfl (lv_at hl 3 rfl) ?_
  refine kiald (f := M 9) hx hb hK hP 12 rfl f rfl (by omega) (by omega) dX3_goesAhead_19 ?_
  refine lv_aload_n hx hb dX3_goesAhead_20 rfl (lv_at hl 1 rfl) ?_
  refine lv_iload_n hx hb dX3_goesAhead_21 rfl (lv_at hl 4 rfl) ?_
  refine kiald (f := M 9) hx hb hK hP 12 rfl b rfl (by omega) (by omega) dX3_goesAhead_22 ?_
  refine lv_icmp_eq (tgt := 41) hx hb dX3_goesAhead_23 (by decide) (fun c1 => ?_) (fun c1 => ?_)
  · refine lv_aload_n hx hb dX3_goesAhead_41 rfl (lv_at hl 2 rfl) ?_
    refine gfX3_18 (v := .ref (a 2)) hx hb hta hown hK hP 0 rfl rfl dX3_goesAhead_42 ?_
    refine gfX3_87 (v := .ref (a 3)) hx hb hta hown hK hP 2 rfl rfl dX3_goesAhead_45 ?_
    refine lv_aload hx hb dX3_goesAhead_48 (lv_at hl 0 rfl) ?_
    refine lv_iload_n hx hb dX3_goesAhead_50 rfl (lv_at hl 3 rfl) ?_
    refine kiald (f := M 6) hx hb hK hP 9 rfl f rfl (by omega) (by omega) dX3_goesAhead_51 ?_
    refine kTop hgf.1 ?_
    refine kiald (f := M 1) hx hb hK hP 3 rfl (gr M f) rfl (by omega) (by omega) dX3_goesAhead_52 ?_
    refine lv_aload_n hx hb dX3_goesAhead_53 rfl (lv_at hl 2 rfl) ?_
    refine gfX3_18 (v := .ref (a 2)) hx hb hta hown hK hP 0 rfl rfl dX3_goesAhead_54 ?_
    refine gfX3_87 (v := .ref (a 3)) hx hb hta hown hK hP 2 rfl rfl dX3_goesAhead_57 ?_
    refine lv_aload hx hb dX3_goesAhead_60 (lv_at hl 0 rfl) ?_
    refine lv_iload_n hx hb dX3_goesAhead_62 rfl (lv_at hl 4 rfl) ?_
    refine kiald (f := M 6) hx hb hK hP 9 rfl b rfl (by omega) (by omega) dX3_goesAhead_63 ?_
    refine kTop hgb.1 ?_
    refine kiald (f := M 1) hx hb hK hP 3 rfl (gr M b) rfl (by omega) (by omega) dX3_goesAhead_64 ?_
    refine lv_icmp_le (tgt := 72) hx hb dX3_goesAhead_65 (by decide) (fun c2 => ?_) (fun c2 => ?_)
    · refine lv_iconst (v := 0) hx hb dX3_goesAhead_72 (by decide) ?_
      exact kzret (()) hQ hx hb hr hlocks hP hS dX3_goesAhead_73 (by first | exact Or.inl rfl | exact Or.inr rfl | exact kb_01 _) (by simp [kb, pAheadM, pAhead, c1, c2])
    · refine lv_iconst (v := 1) hx hb dX3_goesAhead_68 (by decide) ?_
      refine lv_goto (tgt := 73) hx hb dX3_goesAhead_69 (by decide) ?_
      exact kzret (()) hQ hx hb hr hlocks hP hS dX3_goesAhead_73 (by first | exact Or.inl rfl | exact Or.inr rfl | exact kb_01 _) (by simp [kb, pAheadM, pAhead, c1, c2])
  · refine lv_aload_n hx hb dX3_goesAhead_26 rfl (lv_at hl 1 rfl) ?_
    refine lv_iload_n hx hb dX3_goesAhead_27 rfl (lv_at hl 3 rfl) ?_
    refine kiald (f := M 9) hx hb hK hP 12 rfl f rfl (by omega) (by omega) dX3_goesAhead_28 ?_
    refine lv_aload_n hx hb dX3_goesAhead_29 rfl (lv_at hl 1 rfl) ?_
    refine lv_iload_n hx hb dX3_goesAhead_30 rfl (lv_at hl 4 rfl) ?_
    refine kiald (f := M 9) hx hb hK hP 12 rfl b rfl (by omega) (by omega) dX3_goesAhead_31 ?_
    refine lv_icmp_ge (tgt := 39) hx hb dX3_goesAhead_32 (by decide) (fun c3 => ?_) (fun c3 => ?_)
    · refine lv_iconst (v := 0) hx hb dX3_goesAhead_39 (by decide) ?_
      exact kzret (()) hQ hx hb hr hlocks hP hS dX3_goesAhead_40 (by first | exact Or.inl rfl | exact Or.inr rfl | exact kb_01 _) (by simp [kb, pAheadM, pAhead, c1, c3])
    · refine lv_iconst (v := 1) hx hb dX3_goesAhead_35 (by decide) ?_
      refine lv_goto (tgt := 40) hx hb dX3_goesAhead_36 (by decide) ?_
      exact kzret (()) hQ hx hb hr hlocks hP hS dX3_goesAhead_40 (by first | exact Or.inl rfl | exact Or.inr rfl | exact kb_01 _) (by simp [kb, pAheadM, pAhead, c1, c3])
