set_option maxHeartbeats 4000000 in
set_option maxRecDepth 100000 in
theorem c_X8_in (l : Launch) (D : va_G) (Y : Nat → ClassId) (v lo hi : Int32) : kM l yX8_in wX8_in rX8_in D Y ([]) [.int v, .int lo, .int hi] kX0 (kQi D (fun r (_ : Unit) => r = kb (pIn v lo hi)) (fun _ => [])) := by
  refine kentry (cc := cX8_in) (maxL := 3) (ret := (some .boolean)) (by decide +kernel) rfl (Nat.le_of_ble_eq_true rfl) ?_
  intro p e s m args below meth c A Q ls hQ hx hb hr hlocks hml hown hin hta hA hX hK hNs hP hD hS hl
  have hown : s.vm.findClass RX8 = some m.cls := hown
  have hl : lv_has ls 3 [(0, .int v), (1, .int lo), (2, .int hi)] := hl
  refine lv_iload_n hx hb dX8_in_0 rfl (lv_at hl 0 rfl) ?_
  refine lv_iload_n hx hb dX8_in_1 rfl (lv_at hl 1 rfl) ?_
  refine lv_icmp_lt (tgt := 14) hx hb dX8_in_2 (by decide) (fun c1 => ?_) (fun c1 => ?_)
  · refine lv_iconst (v := 0) hx hb dX8_in_14 (by decide) ?_
    exact kzret (()) hQ hx hb hr hlocks hP hS dX8_in_15 (by first | exact Or.inl rfl | exact Or.inr rfl | exact kb_01 _) (by simp [kb, pIn, c1])
  · refine lv_iload_n hx hb dX8_in_5 rfl (lv_at hl 0 rfl) ?_
    refine lv_iload_n hx hb dX8_in_6 rfl (lv_at hl 2 rfl) ?_
    refine lv_icmp_gt (tgt := 14) hx hb dX8_in_7 (by decide) (fun c2 => ?_) (fun c2 => ?_)
    · refine lv_iconst (v := 0) hx hb dX8_in_14 (by decide) ?_
      exact kzret (()) hQ hx hb hr hlocks hP hS dX8_in_15 (by first | exact Or.inl rfl | exact Or.inr rfl | exact kb_01 _) (by simp [kb, pIn, c1, c2])
    · refine lv_iconst (v := 1) hx hb dX8_in_10 (by decide) ?_
      refine lv_goto (tgt := 15) hx hb dX8_in_11 (by decide) ?_
      exact kzret (()) hQ hx hb hr hlocks hP hS dX8_in_15 (by first | exact Or.inl rfl | exact Or.inr rfl | exact kb_01 _) (by simp [kb, pIn, c1, c2])
