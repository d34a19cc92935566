set_option maxHeartbeats 4000000 in
set_option maxRecDepth 100000 in
theorem c_X8_least (l : Launch) (D : va_G) (Y : Nat → ClassId) (a1 b1 : Int32) : kM l yX8_least wX8_least rX8_least D Y ([]) [.int a1, .int b1] kX0 (kQi D (fun r (_ : Unit) => r = mLeast a1 b1) (fun _ => [])) := by
  refine kentry (cc := cX8_least) (maxL := 2) (ret := (some .int)) (by decide +kernel) rfl (Nat.le_of_ble_eq_true rfl) ?_
  intro p e s m args below meth c A Q ls hQ hx hb hr hlocks hml hown hin hta hA hX hK hNs hP hD hS hl
  have hown : s.vm.findClass RX8 = some m.cls := hown
  have hl : lv_has ls 2 [(0, .int a1), (1, .int b1)] := hl
  refine lv_iload_n hx hb dX8_least_0 rfl (lv_at hl 0 rfl) ?_
  refine lv_iload_n hx hb dX8_least_1 rfl (lv_at hl 1 rfl) ?_
  refine lv_icmp_ge (tgt := 9) hx hb dX8_least_2 (by decide) (fun c1 => ?_) (fun c1 => ?_)
  · refine lv_iload_n hx hb dX8_least_9 rfl (lv_at hl 1 rfl) ?_
    exact kiret (()) hQ hx hb hr hlocks hP hS dX8_least_10 (by simp [mLeast, c1])
  · refine lv_iload_n hx hb dX8_least_5 rfl (lv_at hl 0 rfl) ?_
    refine lv_goto (tgt := 10) hx hb dX8_least_6 (by decide) ?_
    exact kiret (()) hQ hx hb hr hlocks hP hS dX8_least_10 (by simp [mLeast, c1])
