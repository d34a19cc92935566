set_option maxHeartbeats 4000000 in
set_option maxRecDepth 100000 in
theorem c_X8_init (l : Launch) (D : va_G) (Y : Nat → ClassId) (x : Nat) : kM l yX8_init wX8_init rX8_init D Y ([(x, .inr (8, [.null, .null, .null, .int 0, .null, .null, .null, .int 0, .int 0, .null, .int 0]))]) [.ref x] kX0 (kQvn D (fun (u : Nat → Nat) => u 0 = x) (fun u => wR Y u rNew)) := by
  refine kentry (cc := cX8_init) (maxL := 2) (ret := none) (by decide +kernel) rfl (Nat.le_of_ble_eq_true rfl) ?_
  intro p e s0 m args below meth c A Q ls hQ hx hb hr hlocks hml hown hin hta hA hX0 hK hNs hP hD hS hl
  have hown : s0.vm.findClass RX8 = some m.cls := hown
  have hl : lv_has ls 2 [(0, .ref x)] := hl
  refine lv_aload_n hx hb dX8_init_0 rfl (lv_at hl 0 rfl) ?_
  refine W.objInit hx hb hown (hta _ al_102) (hta _ al_21) (hta _ al_22) rfl (by rw [hml]; exact hl.1) rfl dX8_init_1 (Nat.le_of_ble_eq_true rfl) (Nat.le_of_ble_eq_true rfl) ?_
  refine W.eq (g2 := F0 m 4 ls []) rfl ?_
  refine lv_aload_n hx hb dX8_init_4 rfl (lv_at hl 0 rfl) ?_
  refine lv_sipush (v := 1497) hx hb dX8_init_5 (by decide) ?_
  refine kinewa hx hb (hta _ al_40) hK hP hD hS hA 1497 (by decide) rfl (Nat.le_of_ble_eq_true rfl) (Nat.le_of_ble_eq_true rfl) dX8_init_8 (fun q1 H hP hD hS => ?_)
  refine pfX8_7 (ws1 := [(x, .inr (8, [.ref q1, .null, .null, .int 0, .null, .null, .null, .int 0, .int 0, .null, .int 0]))] ++ [(q1, .inl (Y 0, 1497, .inl (fun _ => 0)))]) hx hb hta hown hK hP hD hS hin 0 rfl (Nat.le_of_ble_eq_true rfl) rfl dX8_init_10 (fun H locs hP hD hS => ?_)
  refine lv_aload_n hx hb dX8_init_13 rfl (lv_at hl 0 rfl) ?_
  refine lv_sipush (v := 1497) hx hb dX8_init_14 (by decide) ?_
  refine kinewa hx hb (hta _ al_40) hK hP hD hS hA 1497 (by decide) rfl (Nat.le_of_ble_eq_true rfl) (Nat.le_of_ble_eq_true rfl) dX8_init_17 (fun q2 H hP hD hS => ?_)
  refine pfX8_13 (ws1 := [(x, .inr (8, [.ref q1, .ref q2, .null, .int 0, .null, .null, .null, .int 0, .int 0, .null, .int 0]))] ++ [(q1, .inl (Y 0, 1497, .inl (fun _ => 0)))] ++ [(q2, .inl (Y 0, 1497, .inl (fun _ => 0)))]) hx hb hta hown hK hP hD hS hin 0 rfl (Nat.le_of_ble_eq_true rfl) rfl dX8_init_19 (fun H locs hP hD hS => ?_)
  refine lv_aload_n hx hb dX8_init_22 rfl (lv_at hl 0 rfl) ?_
  refine lv_sipush (v := 8982) hx hb dX8_init_23 (by decide) ?_
  refine kinewa hx hb (hta _ al_40) hK hP hD hS hA 8982 (by decide) rfl (Nat.le_of_ble_eq_true rfl) (Nat.le_of_ble_eq_true rfl) dX8_init_26 (fun q3 H hP hD hS => ?_)
  refine pfX8_16 (ws1 := [(x, .inr (8, [.ref q1, .ref q2, .ref q3, .int 0, .null, .null, .null, .int 0, .int 0, .null, .int 0]))] ++ [(q1, .inl (Y 0, 1497, .inl (fun _ => 0)))] ++ [(q2, .inl (Y 0, 1497, .inl (fun _ => 0)))] ++ [(q3, .inl (Y 0, 8982, .inl (fun _ => 0)))]) hx hb hta hown hK hP hD hS hin 0 rfl (Nat.le_of_ble_eq_true rfl) rfl dX8_init_28 (fun H locs hP hD hS => ?_)
  refine lv_aload_n hx hb dX8_init_31 rfl (lv_at hl 0 rfl) ?_
  refine lv_sipush (v := 2994) hx hb dX8_init_32 (by decide) ?_
  refine kinewa hx hb (hta _ al_40) hK hP hD hS hA 2994 (by decide) rfl (Nat.le_of_ble_eq_true rfl) (Nat.le_of_ble_eq_true rfl) dX8_init_35 (fun q4 H hP hD hS => ?_)
  refine pfX8_19 (ws1 := [(x, .inr (8, [.ref q1, .ref q2, .ref q3, .int 0, .ref q4, .null, .null, .int 0, .int 0, .null, .int 0]))] ++ [(q1, .inl (Y 0, 1497, .inl (fun _ => 0)))] ++ [(q2, .inl (Y 0, 1497, .inl (fun _ => 0)))] ++ [(q3, .inl (Y 0, 8982, .inl (fun _ => 0)))] ++ [(q4, .inl (Y 0, 2994, .inl (fun _ => 0)))]) hx hb hta hown hK hP hD hS hin 0 rfl (Nat.le_of_ble_eq_true rfl) rfl dX8_init_37 (fun H locs hP hD hS => ?_)
  refine lv_aload_n hx hb dX8_init_40 rfl (lv_at hl 0 rfl) ?_
  refine lv_iconst (v := 2) hx hb dX8_init_41 (by decide) ?_
  refine kznewa hx hb (hta _ al_107) hK hP hD hS hA 2 (by decide) rfl (Nat.le_of_ble_eq_true rfl) (Nat.le_of_ble_eq_true rfl) dX8_init_42 (fun q5 H hP hD hS => ?_)
  refine pfX8_22 (ws1 := [(x, .inr (8, [.ref q1, .ref q2, .ref q3, .int 0, .ref q4, .ref q5, .null, .int 0, .int 0, .null, .int 0]))] ++ [(q1, .inl (Y 0, 1497, .inl (fun _ => 0)))] ++ [(q2, .inl (Y 0, 1497, .inl (fun _ => 0)))] ++ [(q3, .inl (Y 0, 8982, .inl (fun _ => 0)))] ++ [(q4, .inl (Y 0, 2994, .inl (fun _ => 0)))] ++ [(q5, .inl (Y 2, 2, .inl (fun _ => 0)))]) hx hb hta hown hK hP hD hS hin 0 rfl (Nat.le_of_ble_eq_true rfl) rfl dX8_init_44 (fun H locs hP hD hS => ?_)
  refine lv_aload_n hx hb dX8_init_47 rfl (lv_at hl 0 rfl) ?_
  refine lv_bipush (v := 80) hx hb dX8_init_48 (by decide) ?_
  refine kinewa hx hb (hta _ al_40) hK hP hD hS hA 80 (by decide) rfl (Nat.le_of_ble_eq_true rfl) (Nat.le_of_ble_eq_true rfl) dX8_init_50 (fun q6 H hP hD hS => ?_)
  refine pfX8_26 (ws1 := [(x, .inr (8, [.ref q1, .ref q2, .ref q3, .int 0, .ref q4, .ref q5, .ref q6, .int 0, .int 0, .null, .int 0]))] ++ [(q1, .inl (Y 0, 1497, .inl (fun _ => 0)))] ++ [(q2, .inl (Y 0, 1497, .inl (fun _ => 0)))] ++ [(q3, .inl (Y 0, 8982, .inl (fun _ => 0)))] ++ [(q4, .inl (Y 0, 2994, .inl (fun _ => 0)))] ++ [(q5, .inl (Y 2, 2, .inl (fun _ => 0)))] ++ [(q6, .inl (Y 0, 80, .inl (fun _ => 0)))]) hx hb hta hown hK hP hD hS hin 0 rfl (Nat.le_of_ble_eq_true rfl) rfl dX8_init_52 (fun H locs hP hD hS => ?_)
  refine lv_aload_n hx hb dX8_init_55 rfl (lv_at hl 0 rfl) ?_
  refine lv_sipush (v := 140) hx hb dX8_init_56 (by decide) ?_
  refine kinewa hx hb (hta _ al_40) hK hP hD hS hA 140 (by decide) rfl (Nat.le_of_ble_eq_true rfl) (Nat.le_of_ble_eq_true rfl) dX8_init_59 (fun q7 H hP hD hS => ?_)
  refine pfX8_29 (ws1 := [(x, .inr (8, [.ref q1, .ref q2, .ref q3, .int 0, .ref q4, .ref q5, .ref q6, .int 0, .int 0, .ref q7, .int 0]))] ++ [(q1, .inl (Y 0, 1497, .inl (fun _ => 0)))] ++ [(q2, .inl (Y 0, 1497, .inl (fun _ => 0)))] ++ [(q3, .inl (Y 0, 8982, .inl (fun _ => 0)))] ++ [(q4, .inl (Y 0, 2994, .inl (fun _ => 0)))] ++ [(q5, .inl (Y 2, 2, .inl (fun _ => 0)))] ++ [(q6, .inl (Y 0, 80, .inl (fun _ => 0)))] ++ [(q7, .inl (Y 0, 140, .inl (fun _ => 0)))]) hx hb hta hown hK hP hD hS hin 0 rfl (Nat.le_of_ble_eq_true rfl) rfl dX8_init_61 (fun H locs hP hD hS => ?_)
  refine lv_aload_n hx hb dX8_init_64 rfl (lv_at hl 0 rfl) ?_
  refine gfX8_7 (v := .ref q1) hx hb hta hown hK hP 0 rfl rfl dX8_init_65 ?_
  refine lv_iconst (v := 3) hx hb dX8_init_68 (by decide) ?_
  refine lv_iconst (v := 4) hx hb dX8_init_69 (by decide) ?_
  refine kiast (f := fun _ => 0) hx hb hK hP hD hS 1 rfl 3 rfl (by omega) (by omega) dX8_init_70 ([(x, .inr (8, [.ref q1, .ref q2, .ref q3, .int 0, .ref q4, .ref q5, .ref q6, .int 0, .int 0, .ref q7, .int 0]))] ++ [(q1, .inl (Y 0, 1497, .inl (upd (fun _ => 0) 3 4)))] ++ [(q2, .inl (Y 0, 1497, .inl (fun _ => 0)))] ++ [(q3, .inl (Y 0, 8982, .inl (fun _ => 0)))] ++ [(q4, .inl (Y 0, 2994, .inl (fun _ => 0)))] ++ [(q5, .inl (Y 2, 2, .inl (fun _ => 0)))] ++ [(q6, .inl (Y 0, 80, .inl (fun _ => 0)))] ++ [(q7, .inl (Y 0, 140, .inl (fun _ => 0)))]) rfl (fun H locs hP hD hS => ?_)
  refine lv_aload_n hx hb dX8_init_71 rfl (lv_at hl 0 rfl) ?_
  refine gfX8_7 (v := .ref q1) hx hb hta hown hK hP 0 rfl rfl dX8_init_72 ?_
  refine lv_iconst (v := 4) hx hb dX8_init_75 (by decide) ?_
  refine lv_bipush (v := 10) hx hb dX8_init_76 (by decide) ?_
  refine kiast (f := upd (fun _ => 0) 3 4) hx hb hK hP hD hS 1 rfl 4 rfl (by omega) (by omega) dX8_init_78 ([(x, .inr (8, [.ref q1, .ref q2, .ref q3, .int 0, .ref q4, .ref q5, .ref q6, .int 0, .int 0, .ref q7, .int 0]))] ++ [(q1, .inl (Y 0, 1497, .inl (upd (upd (fun _ => 0) 3 4) 4 10)))] ++ [(q2, .inl (Y 0, 1497, .inl (fun _ => 0)))] ++ [(q3, .inl (Y 0, 8982, .inl (fun _ => 0)))] ++ [(q4, .inl (Y 0, 2994, .inl (fun _ => 0)))] ++ [(q5, .inl (Y 2, 2, .inl (fun _ => 0)))] ++ [(q6, .inl (Y 0, 80, .inl (fun _ => 0)))] ++ [(q7, .inl (Y 0, 140, .inl (fun _ => 0)))]) rfl (fun H locs hP hD hS => ?_)
  refine lv_aload_n hx hb dX8_init_79 rfl (lv_at hl 0 rfl) ?_
  refine gfX8_7 (v := .ref q1) hx hb hta hown hK hP 0 rfl rfl dX8_init_80 ?_
  refine lv_iconst (v := 5) hx hb dX8_init_83 (by decide) ?_
  refine lv_bipush (v := 60) hx hb dX8_init_84 (by decide) ?_
  refine kiast (f := upd (upd (fun _ => 0) 3 4) 4 10) hx hb hK hP hD hS 1 rfl 5 rfl (by omega) (by omega) dX8_init_86 ([(x, .inr (8, [.ref q1, .ref q2, .ref q3, .int 0, .ref q4, .ref q5, .ref q6, .int 0, .int 0, .ref q7, .int 0]))] ++ [(q1, .inl (Y 0, 1497, .inl (upd (upd (upd (fun _ => 0) 3 4) 4 10) 5 60)))] ++ [(q2, .inl (Y 0, 1497, .inl (fun _ => 0)))] ++ [(q3, .inl (Y 0, 8982, .inl (fun _ => 0)))] ++ [(q4, .inl (Y 0, 2994, .inl (fun _ => 0)))] ++ [(q5, .inl (Y 2, 2, .inl (fun _ => 0)))] ++ [(q6, .inl (Y 0, 80, .inl (fun _ => 0)))] ++ [(q7, .inl (Y 0, 140, .inl (fun _ => 0)))]) rfl (fun H locs hP hD hS => ?_)
  refine lv_aload_n hx hb dX8_init_87 rfl (lv_at hl 0 rfl) ?_
  refine gfX8_7 (v := .ref q1) hx hb hta hown hK hP 0 rfl rfl dX8_init_88 ?_
  refine lv_bipush (v := 6) hx hb dX8_init_91 (by decide) ?_
  refine lv_bipush (v := 100) hx hb dX8_init_93 (by decide) ?_
  refine kiast (f := upd (upd (upd (fun _ => 0) 3 4) 4 10) 5 60) hx hb hK hP hD hS 1 rfl 6 rfl (by omega) (by omega) dX8_init_95 ([(x, .inr (8, [.ref q1, .ref q2, .ref q3, .int 0, .ref q4, .ref q5, .ref q6, .int 0, .int 0, .ref q7, .int 0]))] ++ [(q1, .inl (Y 0, 1497, .inl (upd (upd (upd (upd (fun _ => 0) 3 4) 4 10) 5 60) 6 100)))] ++ [(q2, .inl (Y 0, 1497, .inl (fun _ => 0)))] ++ [(q3, .inl (Y 0, 8982, .inl (fun _ => 0)))] ++ [(q4, .inl (Y 0, 2994, .inl (fun _ => 0)))] ++ [(q5, .inl (Y 2, 2, .inl (fun _ => 0)))] ++ [(q6, .inl (Y 0, 80, .inl (fun _ => 0)))] ++ [(q7, .inl (Y 0, 140, .inl (fun _ => 0)))]) rfl (fun H locs hP hD hS => ?_)
  refine lv_aload_n hx hb dX8_init_96 rfl (lv_at hl 0 rfl) ?_
  refine gfX8_7 (v := .ref q1) hx hb hta hown hK hP 0 rfl rfl dX8_init_97 ?_
  refine lv_bipush (v := 7) hx hb dX8_init_100 (by decide) ?_
  refine lv_bipush (v := 8) hx hb dX8_init_102 (by decide) ?_
  refine kiast (f := upd (upd (upd (upd (fun _ => 0) 3 4) 4 10) 5 60) 6 100) hx hb hK hP hD hS 1 rfl 7 rfl (by omega) (by omega) dX8_init_104 ([(x, .inr (8, [.ref q1, .ref q2, .ref q3, .int 0, .ref q4, .ref q5, .ref q6, .int 0, .int 0, .ref q7, .int 0]))] ++ [(q1, .inl (Y 0, 1497, .inl (upd (upd (upd (upd (upd (fun _ => 0) 3 4) 4 10) 5 60) 6 100) 7 8)))] ++ [(q2, .inl (Y 0, 1497, .inl (fun _ => 0)))] ++ [(q3, .inl (Y 0, 8982, .inl (fun _ => 0)))] ++ [(q4, .inl (Y 0, 2994, .inl (fun _ => 0)))] ++ [(q5, .inl (Y 2, 2, .inl (fun _ => 0)))] ++ [(q6, .inl (Y 0, 80, .inl (fun _ => 0)))] ++ [(q7, .inl (Y 0, 140, .inl (fun _ => 0)))]) rfl (fun H locs hP hD hS => ?_)
  refine lv_aload_n hx hb dX8_init_105 rfl (lv_at hl 0 rfl) ?_
  refine gfX8_7 (v := .ref q1) hx hb hta hown hK hP 0 rfl rfl dX8_init_106 ?_
  refine lv_bipush (v := 8) hx hb dX8_init_109 (by decide) ?_
  refine lv_iconst (v := 5) hx hb dX8_init_111 (by decide) ?_
  refine kiast (f := upd (upd (upd (upd (upd (fun _ => 0) 3 4) 4 10) 5 60) 6 100) 7 8) hx hb hK hP hD hS 1 rfl 8 rfl (by omega) (by omega) dX8_init_112 ([(x, .inr (8, [.ref q1, .ref q2, .ref q3, .int 0, .ref q4, .ref q5, .ref q6, .int 0, .int 0, .ref q7, .int 0]))] ++ [(q1, .inl (Y 0, 1497, .inl (upd (upd (upd (upd (upd (upd (fun _ => 0) 3 4) 4 10) 5 60) 6 100) 7 8) 8 5)))] ++ [(q2, .inl (Y 0, 1497, .inl (fun _ => 0)))] ++ [(q3, .inl (Y 0, 8982, .inl (fun _ => 0)))] ++ [(q4, .inl (Y 0, 2994, .inl (fun _ => 0)))] ++ [(q5, .inl (Y 2, 2, .inl (fun _ => 0)))] ++ [(q6, .inl (Y 0, 80, .inl (fun _ => 0)))] ++ [(q7, .inl (Y 0, 140, .inl (fun _ => 0)))]) rfl (fun H locs hP hD hS => ?_)
  refine lv_aload_n hx hb dX8_init_113 rfl (lv_at hl 0 rfl) ?_
  refine gfX8_7 (v := .ref q1) hx hb hta hown hK hP 0 rfl rfl dX8_init_114 ?_
  refine lv_bipush (v := 9) hx hb dX8_init_117 (by decide) ?_
  refine lv_bipush (v := 30) hx hb dX8_init_119 (by decide) ?_
  refine kiast (f := upd (upd (upd (upd (upd (upd (fun _ => 0) 3 4) 4 10) 5 60) 6 100) 7 8) 8 5) hx hb hK hP hD hS 1 rfl 9 rfl (by omega) (by omega) dX8_init_121 ([(x, .inr (8, [.ref q1, .ref q2, .ref q3, .int 0, .ref q4, .ref q5, .ref q6, .int 0, .int 0, .ref q7, .int 0]))] ++ [(q1, .inl (Y 0, 1497, .inl (upd (upd (upd (upd (upd (upd (upd (fun _ => 0) 3 4) 4 10) 5 60) 6 100) 7 8) 8 5) 9 30)))] ++ [(q2, .inl (Y 0, 1497, .inl (fun _ => 0)))] ++ [(q3, .inl (Y 0, 8982, .inl (fun _ => 0)))] ++ [(q4, .inl (Y 0, 2994, .inl (fun _ => 0)))] ++ [(q5, .inl (Y 2, 2, .inl (fun _ => 0)))] ++ [(q6, .inl (Y 0, 80, .inl (fun _ => 0)))] ++ [(q7, .inl (Y 0, 140, .inl (fun _ => 0)))]) rfl (fun H locs hP hD hS => ?_)
  refine lv_iconst (v := 0) hx hb dX8_init_122 (by decide) ?_
  refine lv_istore_n (lv' := [(1, .int 0), (0, .ref x)]) hx hb dX8_init_123 rfl hl (by decide) rfl (fun ls hl => ?_)
  have loop124 : ∀ (zf : Nat) (g : Nat), 6 - g < zf → g ≤ 6 → ∀ (H : Heap) (locs : List Loc), va_P D vwCl ([(x, .inr (8, [.ref q1, .ref q2, .ref q3, .int 0, .ref q4, .ref q5, .ref q6, .int 0, .int 0, .ref q7, .int 0]))] ++ [(q1, .inl (Y 0, 1497, .inl (rQ g)))] ++ [(q2, .inl (Y 0, 1497, .inl (fun _ => 0)))] ++ [(q3, .inl (Y 0, 8982, .inl (fun _ => 0)))] ++ [(q4, .inl (Y 0, 2994, .inl (fun _ => 0)))] ++ [(q5, .inl (Y 2, 2, .inl (fun _ => 0)))] ++ [(q6, .inl (Y 0, 80, .inl (fun _ => 0)))] ++ [(q7, .inl (Y 0, 140, .inl (fun _ => 0)))]) H → va_D A ([(x, .inr (8, [.ref q1, .ref q2, .ref q3, .int 0, .ref q4, .ref q5, .ref q6, .int 0, .int 0, .ref q7, .int 0]))] ++ [(q1, .inl (Y 0, 1497, .inl (rQ g)))] ++ [(q2, .inl (Y 0, 1497, .inl (fun _ => 0)))] ++ [(q3, .inl (Y 0, 8982, .inl (fun _ => 0)))] ++ [(q4, .inl (Y 0, 2994, .inl (fun _ => 0)))] ++ [(q5, .inl (Y 2, 2, .inl (fun _ => 0)))] ++ [(q6, .inl (Y 0, 80, .inl (fun _ => 0)))] ++ [(q7, .inl (Y 0, 140, .inl (fun _ => 0)))]) → va_S A s0.heap H locs → ∀ (ls : Array Slot), lv_has ls 2 [(1, .int (nI g)), (0, .ref x)] → W p l e rX8_init s0 m args below meth c H locs 7 15192 Q (F0 m 124 ls []) := by
    intro zf
    induction zf with
    | zero => intro g hmu; exact absurd hmu (Nat.not_lt_zero _)
    | succ zf ih =>
      intro g hmu hg H locs hP hD hS ls hl
      refine lv_iload_n hx hb dX8_init_124 rfl (lv_at hl 0 rfl) ?_
      refine lv_bipush (v := 6) hx hb dX8_init_125 (by decide) ?_
      refine lv_icmp_ge (tgt := 147) hx hb dX8_init_127 (by decide) (fun c8 => ?_) (fun c8 => ?_)
      · have c8n : 6 ≤ g := (nI_leI (a := 6) (b := g) (by omega) (by omega)).mp c8
        have e6 : g = 6 := by omega
        subst e6
        refine W.widen (k := 7) (n := 15192) (by first | exact Nat.le_refl _ | exact Nat.le_of_ble_eq_true rfl | omega) (by first | exact Nat.le_refl _ | exact Nat.le_of_ble_eq_true rfl | omega) ?_
        exact kvretn ((fun k => ([x, q1, q2, q3, q4, q5, q6, q7] : List Nat).getD k 0)) hQ hx hb hr hlocks hP hD hS dX8_init_147 rfl
      · have c8n : ¬ 6 ≤ g := fun h => c8 ((nI_leI (a := 6) (b := g) (by omega) (by omega)).mpr h)
        refine lv_aload_n hx hb dX8_init_130 rfl (lv_at hl 1 rfl) ?_
        refine gfX8_7 (v := .ref q1) hx hb hta hown hK hP 0 rfl rfl dX8_init_131 ?_
        refine lv_bipush (v := 10) hx hb dX8_init_134 (by decide) ?_
        refine lv_iload_n hx hb dX8_init_136 rfl (lv_at hl 0 rfl) ?_
        refine lv_iadd hx hb dX8_init_137 ?_
        refine kTop (nI_add 10 g) ?_
        refine lv_bipush (v := 100) hx hb dX8_init_138 (by decide) ?_
        refine kiast (f := rQ g) hx hb hK hP hD hS 1 rfl (10 + g) rfl (by omega) (by omega) dX8_init_140 ([(x, .inr (8, [.ref q1, .ref q2, .ref q3, .int 0, .ref q4, .ref q5, .ref q6, .int 0, .int 0, .ref q7, .int 0]))] ++ [(q1, .inl (Y 0, 1497, .inl (upd (rQ g) (10 + g) 100)))] ++ [(q2, .inl (Y 0, 1497, .inl (fun _ => 0)))] ++ [(q3, .inl (Y 0, 8982, .inl (fun _ => 0)))] ++ [(q4, .inl (Y 0, 2994, .inl (fun _ => 0)))] ++ [(q5, .inl (Y 2, 2, .inl (fun _ => 0)))] ++ [(q6, .inl (Y 0, 80, .inl (fun _ => 0)))] ++ [(q7, .inl (Y 0, 140, .inl (fun _ => 0)))]) rfl (fun H locs hP hD hS => ?_)
        refine lv_iinc (v := nI (g + 1)) (lv' := [(1, .int (nI (g + 1))), (0, .ref x)]) hx hb dX8_init_141 hl (k := 0) rfl (nI_add g 1) (by decide) rfl (fun ls hl => ?_)
        refine lv_goto (tgt := 124) hx hb dX8_init_144 (by decide) ?_
        exact ih (g + 1) (by omega) (by omega) _ _ hP hD hS ls (lv_sub hl [0, 1] rfl)
  exact loop124 ((6 - 0) + 1) 0 (Nat.lt_succ_self _) (by omega) _ _ hP hD hS ls (lv_sub hl [0, 1] rfl)
