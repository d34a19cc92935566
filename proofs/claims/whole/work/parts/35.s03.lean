set_option maxHeartbeats 4000000 in
set_option maxRecDepth 100000 in
theorem c_J0_isLatin1_aae02 (l : Launch) (D : va_G) (Y : Nat → ClassId) (base : Nat) (ad av : Nat → Nat) (i : Nat) (hi : i < 6) : kM l yJ0_isLatin1_aae02 wJ0_isLatin1_aae02 rJ0_isLatin1_aae02 D Y ([]) [.ref (ad i)] (kX base ad av) (kQi D (fun r (_ : Unit) => r = 1) (fun _ => [])) := by
  refine kentryE (cc := cJ0_isLatin1_aae02) (maxL := 1) (ret := (some .boolean)) (by decide +kernel) rfl (Nat.le_of_ble_eq_true rfl) ?_
  intro p e s0 m args below meth c A Q ls hA2 hQ hx hb hr hlocks hml hown hin hta hA hX0 hK hNs hP hD hS hl
  have hown : s0.vm.findClass RJ0 = some m.cls := hown
  have hl : lv_has ls 1 [(0, .ref (ad i))] := hl
  have hAb := kAb hA2 hX0.1 (kB0)
  have hE := hX0.2.narrow hAb
  refine va_gets hx hb hE.2.2.1 hS hown (hta _ al_660) (fun _ h => h) dJ0_isLatin1_aae02_0 ?_
  refine lv_if_eq (tgt := 17) hx hb dJ0_isLatin1_aae02_3 (by decide) (fun h => False.elim (by revert h; decide)) (fun _ => ?_)
  refine lv_aload_n hx hb dJ0_isLatin1_aae02_6 rfl (lv_at hl 0 rfl) ?_
  refine vk_getf hx hb (hE.1.1 i hi).2.1 hS hown (hta _ al_661) (fun _ h => h) dJ0_isLatin1_aae02_7 ?_
  refine lv_if_ne (tgt := 17) hx hb dJ0_isLatin1_aae02_10 (by decide) (fun h => False.elim (by revert h; decide)) (fun _ => ?_)
  refine lv_iconst (v := 1) hx hb dJ0_isLatin1_aae02_13 (by decide) ?_
  refine lv_goto (tgt := 18) hx hb dJ0_isLatin1_aae02_14 (by decide) ?_
  exact kzret (()) hQ hx hb hr hlocks hP hS dJ0_isLatin1_aae02_18 (by first | exact Or.inl rfl | exact Or.inr rfl | exact kb_01 _) rfl
