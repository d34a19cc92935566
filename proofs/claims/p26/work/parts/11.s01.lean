set_option maxHeartbeats 4000000 in
set_option maxRecDepth 100000 in
theorem c_X7_copyRow (l : Launch) (D : va_G) (Y : Nat → ClassId) (x n0 : Nat) (f : Nat → Int32) (y n1 : Nat) (g : Nat → Int32) (c0 : Nat) (h0 : n0 < 2 ^ 31) (h1 : n1 < 2 ^ 31) (hc0 : c0 ≤ n0) (hc1 : c0 ≤ n1) : kM l yX7_copyRow wX7_copyRow rX7_copyRow D Y ([(x, .inl (Y 0, n0, .inl f))] ++ [(y, .inl (Y 0, n1, .inl g))]) [.ref x, .ref y, .int (nI c0)] kX0 (kQv D (fun (_ : Unit) => True) (fun _ => [(x, .inl (Y 0, n0, .inl f)), (y, .inl (Y 0, n1, .inl (kcp f g c0)))])) := by
  refine kentry (cc := cX7_copyRow) (maxL := 3) (ret := none) (by decide +kernel) rfl (Nat.le_of_ble_eq_true rfl) ?_
  intro p e s m args below meth c A Q ls hQ hx hb hr hlocks hml hown hin hta hA hX hK hNs hP hD hS hl
  have hown : s.vm.findClass RX7 = some m.cls := hown
  have hl : lv_has ls 3 [(0, .ref x), (1, .ref y), (2, .int (nI c0))] := hl
  refine lv_aload_n hx hb dX7_copyRow_0 rfl (lv_at hl 0 rfl) ?_
  refine lv_iconst (v := 0) hx hb dX7_copyRow_1 (by decide) ?_
  refine lv_aload_n hx hb dX7_copyRow_2 rfl (lv_at hl 1 rfl) ?_
  refine lv_iconst (v := 0) hx hb dX7_copyRow_3 (by decide) ?_
  refine lv_iload_n hx hb dX7_copyRow_4 rfl (lv_at hl 2 rfl) ?_
  refine lv_aload_n hx hb dX7_copyRow_5 rfl (lv_at hl 0 rfl) ?_
  refine kalen (n := n0) hx hb hK hP 0 rfl dX7_copyRow_6 ?_
  refine lv_aload_n hx hb dX7_copyRow_7 rfl (lv_at hl 1 rfl) ?_
  refine kalen (n := n1) hx hb hK hP 1 rfl dX7_copyRow_8 ?_
  refine va_mmin hx hb (by rw [hml]; exact hl.1.symm) hown (hta _ al_131) (hta _ al_132) (hta _ al_133) (hta _ al_134) (Nat.le_of_ble_eq_true rfl) (Nat.le_of_ble_eq_true rfl) (Nat.le_of_ble_eq_true rfl) (Nat.le_of_ble_eq_true rfl) dX7_copyRow_9 ?_
  refine kTop (y := kmin (nI n0) (nI n1)) rfl ?_
  refine va_mmin hx hb (by rw [hml]; exact hl.1.symm) hown (hta _ al_131) (hta _ al_132) (hta _ al_133) (hta _ al_134) (Nat.le_of_ble_eq_true rfl) (Nat.le_of_ble_eq_true rfl) (Nat.le_of_ble_eq_true rfl) (Nat.le_of_ble_eq_true rfl) dX7_copyRow_12 ?_
  refine kTop (y := kmin (nI c0) (kmin (nI n0) (nI n1))) rfl ?_
  refine kTop (y := nI c0) (by rw [kmin_nI (by omega) (by omega), kmin_nI (by omega) (by omega)]; congr 1; omega) ?_
  refine va_copyi (q0 := 0) (q1 := 1) (t0 := 0) (t1 := 0) (f := f) (g := g) (ty := .int) hx hb (by rw [hml]; exact hl.1.symm) hown (hta _ al_135) (hta _ al_136) (hta _ al_137) (hta _ al_138) hK hP hD hS rfl rfl rfl rfl rfl (by decide) (by decide) (nI_pos (by omega)) (by rw [nI_clamp (by omega)]; show 0 + c0 ≤ n0; omega) (by rw [nI_clamp (by omega)]; show 0 + c0 ≤ n1; omega) (fun i _ => rfl) (Nat.le_of_ble_eq_true rfl) (by decide) dX7_copyRow_15 (fun H locs hP hD hS => ?_)
  rw [nI_clamp (by omega)] at hP hD
  have hP : va_P D vwCl ([(x, .inl (Y 0, n0, .inl f))] ++ [(y, .inl (Y 0, n1, .inl (kcp f g c0)))]) H := hP
  have hD : va_D A ([(x, .inl (Y 0, n0, .inl f))] ++ [(y, .inl (Y 0, n1, .inl (kcp f g c0)))]) := hD
  exact kvret (()) hQ hx hb hr hlocks hP hS dX7_copyRow_18 trivial
