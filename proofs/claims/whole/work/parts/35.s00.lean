set_option maxHeartbeats 4000000 in
set_option maxRecDepth 100000 in
theorem c_J0_isEmpty_aae02 (l : Launch) (D : va_G) (Y : Nat → ClassId) (base : Nat) (ad av : Nat → Nat) (i : Nat) (hi : i < 6) : kM l yJ0_isEmpty_aae02 wJ0_isEmpty_aae02 rJ0_isEmpty_aae02 D Y ([]) [.ref (ad i)] (kX base ad av) (kQi D (fun r (_ : Unit) => r = kb (kLen.getD i 0 = 0)) (fun _ => [])) := by
  refine kentryE (cc := cJ0_isEmpty_aae02) (maxL := 1) (ret := (some .boolean)) (by decide +kernel) rfl (Nat.le_of_ble_eq_true rfl) ?_
  intro p e s0 m args below meth c A Q ls hA2 hQ hx hb hr hlocks hml hown hin hta hA hX0 hK hNs hP hD hS hl
  have hown : s0.vm.findClass RJ0 = some m.cls := hown
  have hl : lv_has ls 1 [(0, .ref (ad i))] := hl
  have hAb := kAb hA2 hX0.1 (kB0)
  have hE := hX0.2.narrow hAb
  have hl8 : kLen.getD i 0 < 9 := kLen9 i
  refine lv_aload_n hx hb dJ0_isEmpty_aae02_0 rfl (lv_at hl 0 rfl) ?_
  refine vk_getf hx hb (hE.1.1 i hi).2.2.1 hS hown (hta _ al_651) (fun _ h => h) dJ0_isEmpty_aae02_1 ?_
  refine va_tlen (v := nI (kLen.getD i 0)) hx hb (hE.1.1 i hi).2.2.2 hS rfl dJ0_isEmpty_aae02_4 ?_
  refine lv_if_ne (tgt := 12) hx hb dJ0_isEmpty_aae02_5 (by decide) (fun c1 => ?_) (fun c1 => ?_)
  · have c1n : ¬ (kLen.getD i 0) = 0 := fun h => c1 ((nI_eq (a := kLen.getD i 0) (b := 0) (by omega) (by omega)).mpr h)
    refine lv_iconst (v := 0) hx hb dJ0_isEmpty_aae02_12 (by decide) ?_
    exact kzret (()) hQ hx hb hr hlocks hP hS dJ0_isEmpty_aae02_13 (by first | exact Or.inl rfl | exact Or.inr rfl | exact kb_01 _) ((kb_f (fun h => c1n h)).symm)
  · have c1n : (kLen.getD i 0) = 0 := (nI_eq (a := kLen.getD i 0) (b := 0) (by omega) (by omega)).mp c1
    refine lv_iconst (v := 1) hx hb dJ0_isEmpty_aae02_8 (by decide) ?_
    refine lv_goto (tgt := 13) hx hb dJ0_isEmpty_aae02_9 (by decide) ?_
    exact kzret (()) hQ hx hb hr hlocks hP hS dJ0_isEmpty_aae02_13 (by first | exact Or.inl rfl | exact Or.inr rfl | exact kb_01 _) ((kb_t c1n).symm)
