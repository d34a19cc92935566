set_option maxHeartbeats 4000000 in
set_option maxRecDepth 100000 in
theorem c_J3_checkIndex_8e157n (l : Launch) (D : va_G) (Y : Nat → ClassId) (j n : Nat) (hj : j < n) (hn : n < 100) : kM l yJ3_checkIndex_8e157 wJ3_checkIndex_8e157 rJ3_checkIndex_8e157 D Y ([]) [.int (nI j), .int (nI n), .null] kX0 (kQi D (fun r (_ : Unit) => r = nI j) (fun _ => [])) := by
  refine kentry (cc := cJ3_checkIndex_8e157) (maxL := 3) (ret := (some .int)) (by decide +kernel) rfl (Nat.le_of_ble_eq_true rfl) ?_
  intro p e s0 m args below meth c A Q ls hQ hx hb hr hlocks hml hown hin hta hA hX0 hK hNs hP hD hS hl
  have hown : s0.vm.findClass RJ3 = some m.cls := hown
  have hl : lv_has ls 3 [(0, .int (nI j)), (1, .int (nI n)), (2, .null)] := hl
  refine lv_iload_n hx hb dJ3_checkIndex_8e157_0 rfl (lv_at hl 0 rfl) ?_
  refine lv_if_lt (tgt := 9) hx hb dJ3_checkIndex_8e157_1 (by decide) (fun h => absurd h (show ¬ nI j < 0 from fun h => absurd ((nI_ltI (a := j) (b := 0) (by omega) (by omega)).mp h) (by omega))) (fun _ => ?_)
  refine lv_iload_n hx hb dJ3_checkIndex_8e157_4 rfl (lv_at hl 0 rfl) ?_
  refine lv_iload_n hx hb dJ3_checkIndex_8e157_5 rfl (lv_at hl 1 rfl) ?_
  refine lv_icmp_lt (tgt := 16) hx hb dJ3_checkIndex_8e157_6 (by decide) (fun _ => ?_) (fun h => absurd ((nI_ltI (a := j) (b := n) (by omega) (by omega)).mpr hj) h)
  refine lv_iload_n hx hb dJ3_checkIndex_8e157_16 rfl (lv_at hl 0 rfl) ?_
  exact kiret (()) hQ hx hb hr hlocks hP hS dJ3_checkIndex_8e157_17 rfl
