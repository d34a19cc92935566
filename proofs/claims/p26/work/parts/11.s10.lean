set_option maxHeartbeats 4000000 in
set_option maxRecDepth 100000 in
theorem c_X0_append (l : Launch) (D : va_G) (Y : Nat → ClassId) (a : Nat → Nat) (M : kN) (g t p0 b0 : Int32) (hI : cI M) : kM l yX0_append wX0_append rX0_append D Y (wM Y a M) [.ref (a 8), .int g, .int t, .int p0, .int b0] kX0 (kQi D (fun r u => r = (cAddF M g t p0 b0).1 ∧ u = (cAddF M g t p0 b0).2) (fun u => wM Y a u)) := by
  refine kentry (cc := cX0_append) (maxL := 6) (ret := (some .int)) (by decide +kernel) rfl (Nat.le_of_ble_eq_true rfl) ?_
  intro p e s m args below meth c A Q ls hQ hx hb hr hlocks hml hown hin hta hA hX hK hNs hP hD hS hl
  have hown : s.vm.findClass RX0 = some m.cls := hown
  have hl : lv_has ls 6 [(0, .ref (a 8)), (1, .int g), (2, .int t), (3, .int p0), (4, .int b0)] := hl
  have h30 := hI.f30
  refine lv_aload_n hx hb dX0_append_0 rfl (lv_at hl 0 rfl) ?_
  refine gfX0_36 (v := .int (M 19 4)) hx hb hta hown hK hP 8 rfl rfl dX0_append_1 ?_
  refine kTop hI.f ?_
  refine lv_bipush (v := 30) hx hb dX0_append_4 (by decide) ?_
  refine lv_icmp_lt (tgt := 12) hx hb dX0_append_6 (by decide) (fun c1 => ?_) (fun c1 => ?_)
  · have c1n : (nF M) < 30 := (nI_ltI (a := nF M) (b := 30) (by omega) (by omega)).mp c1
    refine lv_aload_n hx hb dX0_append_12 rfl (lv_at hl 0 rfl) ?_
    refine gfX0_36 (v := .int (M 19 4)) hx hb hta hown hK hP 8 rfl rfl dX0_append_13 ?_
    refine kTop hI.f ?_
    refine lv_istore (lv' := [(5, .int (nI (nF M))), (0, .ref (a 8)), (1, .int g), (2, .int t), (3, .int p0), (4, .int b0)]) hx hb dX0_append_16 hl (by decide) rfl (fun ls hl => ?_)
    refine lv_aload_n hx hb dX0_append_18 rfl (lv_at hl 1 rfl) ?_
    refine gfX0_9 (v := .ref (a 9)) hx hb hta hown hK hP 8 rfl rfl dX0_append_19 ?_
    refine lv_iload hx hb dX0_append_22 (lv_at hl 0 rfl) ?_
    refine lv_iload_n hx hb dX0_append_24 rfl (lv_at hl 2 rfl) ?_
    refine kiast (f := M 6) hx hb hK hP hD hS 9 rfl (nF M) rfl (by omega) (by omega) dX0_append_25 (wM Y a (sM M 6 (nF M) g)) rfl (fun H locs hP hD hS => ?_)
    refine lv_aload_n hx hb dX0_append_26 rfl (lv_at hl 1 rfl) ?_
    refine gfX0_15 (v := .ref (a 10)) hx hb hta hown hK hP 8 rfl rfl dX0_append_27 ?_
    refine lv_iload hx hb dX0_append_30 (lv_at hl 0 rfl) ?_
    refine lv_iload_n hx hb dX0_append_32 rfl (lv_at hl 3 rfl) ?_
    refine kiast (f := M 7) hx hb hK hP hD hS 10 rfl (nF M) rfl (by omega) (by omega) dX0_append_33 (wM Y a (sM (sM M 6 (nF M) g) 7 (nF M) t)) rfl (fun H locs hP hD hS => ?_)
    refine lv_aload_n hx hb dX0_append_34 rfl (lv_at hl 1 rfl) ?_
    refine gfX0_18 (v := .ref (a 11)) hx hb hta hown hK hP 8 rfl rfl dX0_append_35 ?_
    refine lv_iload hx hb dX0_append_38 (lv_at hl 0 rfl) ?_
    refine lv_iload_n hx hb dX0_append_40 rfl (lv_at hl 4 rfl) ?_
    refine kiast (f := M 8) hx hb hK hP hD hS 11 rfl (nF M) rfl (by omega) (by omega) dX0_append_41 (wM Y a (sM (sM (sM M 6 (nF M) g) 7 (nF M) t) 8 (nF M) p0)) rfl (fun H locs hP hD hS => ?_)
    refine lv_aload_n hx hb dX0_append_42 rfl (lv_at hl 1 rfl) ?_
    refine gfX0_21 (v := .ref (a 12)) hx hb hta hown hK hP 8 rfl rfl dX0_append_43 ?_
    refine lv_iload hx hb dX0_append_46 (lv_at hl 0 rfl) ?_
    refine lv_iload hx hb dX0_append_48 (lv_at hl 5 rfl) ?_
    refine kiast (f := M 9) hx hb hK hP hD hS 12 rfl (nF M) rfl (by omega) (by omega) dX0_append_50 (wM Y a (sM (sM (sM (sM M 6 (nF M) g) 7 (nF M) t) 8 (nF M) p0) 9 (nF M) b0)) rfl (fun H locs hP hD hS => ?_)
    refine lv_aload_n hx hb dX0_append_51 rfl (lv_at hl 1 rfl) ?_
    refine gfX0_24 (v := .ref (a 13)) hx hb hta hown hK hP 8 rfl rfl dX0_append_52 ?_
    refine lv_iload hx hb dX0_append_55 (lv_at hl 0 rfl) ?_
    refine lv_iload_n hx hb dX0_append_57 rfl (lv_at hl 3 rfl) ?_
    refine kiast (f := M 10) hx hb hK hP hD hS 13 rfl (nF M) rfl (by omega) (by omega) dX0_append_58 (wM Y a (sM (sM (sM (sM (sM M 6 (nF M) g) 7 (nF M) t) 8 (nF M) p0) 9 (nF M) b0) 10 (nF M) t)) rfl (fun H locs hP hD hS => ?_)
    refine lv_aload_n hx hb dX0_append_59 rfl (lv_at hl 1 rfl) ?_
    refine gfX0_27 (v := .ref (a 14)) hx hb hta hown hK hP 8 rfl rfl dX0_append_60 ?_
    refine lv_iload hx hb dX0_append_63 (lv_at hl 0 rfl) ?_
    refine lv_iconst (v := 0) hx hb dX0_append_65 (by decide) ?_
    refine kiast (f := M 11) hx hb hK hP hD hS 14 rfl (nF M) rfl (by omega) (by omega) dX0_append_66 (wM Y a (sM (sM (sM (sM (sM (sM M 6 (nF M) g) 7 (nF M) t) 8 (nF M) p0) 9 (nF M) b0) 10 (nF M) t) 11 (nF M) 0)) rfl (fun H locs hP hD hS => ?_)
    refine lv_aload_n hx hb dX0_append_67 rfl (lv_at hl 1 rfl) ?_
    refine gfX0_30 (v := .ref (a 15)) hx hb hta hown hK hP 8 rfl rfl dX0_append_68 ?_
    refine lv_iload hx hb dX0_append_71 (lv_at hl 0 rfl) ?_
    refine lv_iconst (v := 0) hx hb dX0_append_73 (by decide) ?_
    refine kiast (f := M 12) hx hb hK hP hD hS 15 rfl (nF M) rfl (by omega) (by omega) dX0_append_74 (wM Y a (sM (sM (sM (sM (sM (sM (sM M 6 (nF M) g) 7 (nF M) t) 8 (nF M) p0) 9 (nF M) b0) 10 (nF M) t) 11 (nF M) 0) 12 (nF M) 0)) rfl (fun H locs hP hD hS => ?_)
    refine lv_aload_n hx hb dX0_append_75 rfl (lv_at hl 1 rfl) ?_
    refine gfX0_33 (v := .ref (a 16)) hx hb hta hown hK hP 8 rfl rfl dX0_append_76 ?_
    refine lv_iload hx hb dX0_append_79 (lv_at hl 0 rfl) ?_
    refine lv_iconst (v := 0) hx hb dX0_append_81 (by decide) ?_
    refine kiast (f := M 13) hx hb hK hP hD hS 16 rfl (nF M) rfl (by omega) (by omega) dX0_append_82 (wM Y a (sM (sM (sM (sM (sM (sM (sM (sM M 6 (nF M) g) 7 (nF M) t) 8 (nF M) p0) 9 (nF M) b0) 10 (nF M) t) 11 (nF M) 0) 12 (nF M) 0) 13 (nF M) 0)) rfl (fun H locs hP hD hS => ?_)
    refine lv_aload_n hx hb dX0_append_83 rfl (lv_at hl 1 rfl) ?_
    refine lv_dup hx hb dX0_append_84 rfl ?_
    refine gfX0_36 (v := .int (M 19 4)) hx hb hta hown hK hP 8 rfl rfl dX0_append_85 ?_
    refine kTop hI.f ?_
    refine lv_iconst (v := 1) hx hb dX0_append_88 (by decide) ?_
    refine lv_iadd hx hb dX0_append_89 ?_
    refine pfX0_36 (ws1 := wM Y a (sM (sM (sM (sM (sM (sM (sM (sM (sM M 6 (nF M) g) 7 (nF M) t) 8 (nF M) p0) 9 (nF M) b0) 10 (nF M) t) 11 (nF M) 0) 12 (nF M) 0) 13 (nF M) 0) 19 4 ((nI (nF M)) + 1))) hx hb hta hown hK hP hD hS 8 rfl (Nat.le_of_ble_eq_true rfl) rfl dX0_append_90 (fun H locs hP hD hS => ?_)
    refine lv_iload hx hb dX0_append_93 (lv_at hl 0 rfl) ?_
    exact kiret (sM (sM (sM (sM (sM (sM (sM (sM (sM M 6 (nF M) g) 7 (nF M) t) 8 (nF M) p0) 9 (nF M) b0) 10 (nF M) t) 11 (nF M) 0) 12 (nF M) 0) 13 (nF M) 0) 19 4 ((nI (nF M)) + 1)) hQ hx hb hr hlocks hP hS dX0_append_95 (by unfold cAddF; rw [hI.f, if_pos c1]; exact ⟨rfl, rfl⟩)
  · have c1n : ¬ (nF M) < 30 := fun h => c1 ((nI_ltI (a := nF M) (b := 30) (by omega) (by omega)).mpr h)
    refine lv_bipush (v := (-4)) hx hb dX0_append_9 (by decide) ?_
    exact kiret (M) hQ hx hb hr hlocks hP hS dX0_append_11 (by unfold cAddF; rw [hI.f, if_neg c1]; exact ⟨rfl, rfl⟩)
