set_option maxHeartbeats 4000000 in
set_option maxRecDepth 100000 in
theorem c_X6_numberOfLoad (l : Launch) (D : va_G) (Y : Nat → ClassId) (a : Nat → Nat) (M : kN) (q w : Int32) (hI : cI M) : kM l yX6_numberOfLoad wX6_numberOfLoad rX6_numberOfLoad D Y (wM Y a M) [.ref (a 20), .int q, .int w] kX0 (kQi D (fun r (_ : Unit) => r = cLoad M q w) (fun _ => wM Y a M)) := by
  refine kentry (cc := cX6_numberOfLoad) (maxL := 3) (ret := (some .int)) (by decide +kernel) rfl (Nat.le_of_ble_eq_true rfl) ?_
  intro p e s m args below meth c A Q ls hQ hx hb hr hlocks hml hown hin hta hA hX hK hNs hP hD hS hl
  have hown : s.vm.findClass RX6 = some m.cls := hown
  have hl : lv_has ls 3 [(0, .ref (a 20)), (1, .int q), (2, .int w)] := hl
  have h400 := hI.y400
  refine lv_iload_n hx hb dX6_numberOfLoad_0 rfl (lv_at hl 1 rfl) ?_
  refine lv_iconst (v := 0) hx hb dX6_numberOfLoad_1 (by decide) ?_
  refine lv_aload_n hx hb dX6_numberOfLoad_2 rfl (lv_at hl 0 rfl) ?_
  refine gfX6_21 (v := .int (M 19 6)) hx hb hta hown hK hP 20 rfl rfl dX6_numberOfLoad_3 ?_
  refine kTop hI.y ?_
  refine lv_iconst (v := 1) hx hb dX6_numberOfLoad_6 (by decide) ?_
  refine lv_isub hx hb dX6_numberOfLoad_7 ?_
  refine kc_i (krSN (As := [.int q, .int 0, .int ((nI (nY M)) - 1)]) (rest := []) (c_X7_isWithin l D Y q 0 ((nI (nY M)) - 1)) ⟨hx, hb, hml, hown, hta⟩ (cwX6_32 hta hNs ⟨Nat.le_of_ble_eq_true rfl, Nat.le_of_ble_eq_true rfl⟩) kX0b (fun _ _ _ => trivial) hK hNs hP hD (kJ_nil) rfl hl.1 rfl (Nat.le_of_ble_eq_true rfl) dX6_numberOfLoad_8 ⟨Nat.le_of_ble_eq_true rfl, Nat.le_of_ble_eq_true rfl⟩) hP hD hS hA (kJ_nil) (fun _ => rfl) (fun r1 u H locs hw hP hD hS => ?_)
  subst hw
  have hP : va_P D vwCl (wM Y a M) H := hP
  have hD : va_D A (wM Y a M) := hD
  by_cases c2 : pIn q 0 ((nI (nY M)) - 1)
  · refine kTop (kb_t c2) ?_
    refine lv_if_ne (tgt := 16) hx hb dX6_numberOfLoad_11 (by decide) (fun _ => ?_) (fun h => False.elim (by revert h; decide))
    obtain ⟨k, rfl, hk⟩ := pIn_lt (by omega) c2
    refine lv_iload_n hx hb dX6_numberOfLoad_16 rfl (lv_at hl 2 rfl) ?_
    by_cases c3 : w = 0
    · refine lv_tableIn (off := 27) (tgt := 44) hx hb dX6_numberOfLoad_17 (by rw [c3]; decide) (by rw [c3]; decide) (by rw [c3]; rfl) (by decide) ?_
      refine lv_aload_n hx hb dX6_numberOfLoad_44 rfl (lv_at hl 0 rfl) ?_
      refine gfX6_9 (v := .ref (a 21)) hx hb hta hown hK hP 20 rfl rfl dX6_numberOfLoad_45 ?_
      refine lv_iload_n hx hb dX6_numberOfLoad_48 rfl (lv_at hl 1 rfl) ?_
      refine kiald (f := M 16) hx hb hK hP 21 rfl k rfl (by omega) (by omega) dX6_numberOfLoad_49 ?_
      exact kiret (()) hQ hx hb hr hlocks hP hS dX6_numberOfLoad_50 (by unfold cLoad; rw [hI.y, if_pos c2, if_pos c3] <;> rw [nI_clamp (by omega)])
    · by_cases c4 : w = 1
      · refine lv_tableIn (off := 34) (tgt := 51) hx hb dX6_numberOfLoad_17 (by rw [c4]; decide) (by rw [c4]; decide) (by rw [c4]; rfl) (by decide) ?_
        refine lv_aload_n hx hb dX6_numberOfLoad_51 rfl (lv_at hl 0 rfl) ?_
        refine gfX6_15 (v := .ref (a 22)) hx hb hta hown hK hP 20 rfl rfl dX6_numberOfLoad_52 ?_
        refine lv_iload_n hx hb dX6_numberOfLoad_55 rfl (lv_at hl 1 rfl) ?_
        refine kiald (f := M 17) hx hb hK hP 22 rfl k rfl (by omega) (by omega) dX6_numberOfLoad_56 ?_
        exact kiret (()) hQ hx hb hr hlocks hP hS dX6_numberOfLoad_57 (by unfold cLoad; rw [hI.y, if_pos c2, if_neg c3, if_pos c4] <;> rw [nI_clamp (by omega)])
      · by_cases c5 : w = 2
        · refine lv_tableIn (off := 41) (tgt := 58) hx hb dX6_numberOfLoad_17 (by rw [c5]; decide) (by rw [c5]; decide) (by rw [c5]; rfl) (by decide) ?_
          refine lv_aload_n hx hb dX6_numberOfLoad_58 rfl (lv_at hl 0 rfl) ?_
          refine gfX6_18 (v := .ref (a 23)) hx hb hta hown hK hP 20 rfl rfl dX6_numberOfLoad_59 ?_
          refine lv_iload_n hx hb dX6_numberOfLoad_62 rfl (lv_at hl 1 rfl) ?_
          refine kiald (f := M 18) hx hb hK hP 23 rfl k rfl (by omega) (by omega) dX6_numberOfLoad_63 ?_
          exact kiret (()) hQ hx hb hr hlocks hP hS dX6_numberOfLoad_64 (by unfold cLoad; rw [hI.y, if_pos c2, if_neg c3, if_neg c4, if_pos c5] <;> rw [nI_clamp (by omega)])
        · refine lv_tableOut (tgt := 65) hx hb dX6_numberOfLoad_17 (by have := fun z : Int => (fun h : w.toInt = z => h); have q0 : ¬ w.toInt = 0 := fun h => c3 (Int32.toInt_inj.mp (h.trans (by decide))); have q1 : ¬ w.toInt = 1 := fun h => c4 (Int32.toInt_inj.mp (h.trans (by decide))); have q2 : ¬ w.toInt = 2 := fun h => c5 (Int32.toInt_inj.mp (h.trans (by decide))); omega) (by decide) ?_
          refine lv_bipush (v := (-2)) hx hb dX6_numberOfLoad_65 (by decide) ?_
          exact kiret (()) hQ hx hb hr hlocks hP hS dX6_numberOfLoad_67 (by unfold cLoad; rw [hI.y, if_pos c2, if_neg c3, if_neg c4, if_neg c5])
  · refine kTop (kb_f c2) ?_
    refine lv_if_ne (tgt := 16) hx hb dX6_numberOfLoad_11 (by decide) (fun h => False.elim (by revert h; decide)) (fun _ => ?_)
    refine lv_iconst (v := (-1)) hx hb dX6_numberOfLoad_14 (by decide) ?_
    exact kiret (()) hQ hx hb hr hlocks hP hS dX6_numberOfLoad_15 (by unfold cLoad; rw [hI.y, if_neg c2])
