theorem kT_start {s : State} {args : Array Value} (h0 : (Cond.arrayClass .int).before args s = true) (h1 : (Cond.arrayClass .char).before args s = true) (h2 : (Cond.arrayClass .int).before args s = true) (h3 : va_AO RX3 s) : ∃ Y : Nat → ClassId, ∀ (k : Nat) (q : ClassId × FieldType), (kT Y)[k]? = some q → ArrOfT s q.1 q.2 ∧ va_RA s q.1 q.2 := by
  obtain ⟨c0, k0, p0, a1, a2, a3⟩ := Cond.arrayClass_spec h0
  obtain ⟨c1, k1, p1, b1, b2, b3⟩ := Cond.arrayClass_spec h1
  obtain ⟨c2, k2, p2, d1, d2, d3⟩ := Cond.arrayClass_spec h2
  obtain ⟨p3, c3, k3, e1, e2, e3, e4, e5⟩ := Cond.arrayOver_spec h3
  refine ⟨fun i => if i = 0 then c0 else if i = 1 then c1 else if i = 2 then c2 else c3, fun k q hq => ?_⟩
  match k, hq with
  | 0, hq => cases hq; exact ⟨fun n z => ⟨fun k h => (by cases h), k0, a2, p0, a3⟩, a1⟩
  | 1, hq => cases hq; exact ⟨fun n z => ⟨fun k h => (by cases h), k1, b2, p1, b3⟩, b1⟩
  | 2, hq => cases hq; exact ⟨fun n z => ⟨fun k h => (by cases h), k2, d2, p2, d3⟩, d1⟩
  | 3, hq => cases hq; exact ⟨fun n z => ⟨fun k h => (by cases h), k3, e3, p3, e4⟩, k3, p3, e3, e4, e1, e5⟩
  | k + 4, hq => simp [kT] at hq
set_option maxHeartbeats 4000000 in
set_option maxRecDepth 100000 in
theorem whole_start {p : Program} {e : Env} {s : State} {m : MethodId} {below : List Frame} {meth : Method} {c : Code} (l : Launch) (hflags : l.flags = flags0) {b L : Nat} {xs : Nat → Int32} (hL : L ≤ 260) (C0 : lw_At p s m meth c b L xs) : W p l e room_1 s m #[Value.ref b] below meth c s.heap [] 0 0 (lw_Z below #[Value.ref b] s) (entryFrame m ([Value.ref b] : List Value).toArray 10) := by
  obtain ⟨hx, hb, hr, hml, hown, hts, hX, hbl, hlocks, hgv⟩ := id C0
  have hb : c.code = cL_law := hb
  have hown : s.vm.findClass RL = some m.cls := hown
  have hta : ∀ w ∈ kAL, w.before #[Value.ref b] s = true := fun w hw => hts w (al_tbl w hw)
  have hA : ∀ q : Nat, s.heap.size ≤ q → (fun q : Nat => s.heap.size ≤ q) q := fun _ h => h
  have hbA : ¬ (fun q : Nat => s.heap.size ≤ q) b := Nat.not_le.mpr hbl
  obtain ⟨ad, av, hE⟩ := kE_start hts hgv
  have hAO : va_AO RX3 s := va_AO.of (hts _ et_AO)
  have hNs : kNs s := fun q hq => va_Nw.of rfl (hts _ (nest_tbl q hq))
  obtain ⟨c0, i0, g0⟩ := u_known (C := RX0) (T := TX0) (N := 9) (n := 9) hta inA0 (hta _ al_47)
  obtain ⟨c1, i1, g1⟩ := u_known (C := RX1) (T := TX1) (N := 5) (n := 5) hta inA1 (hta _ al_43)
  obtain ⟨c2, i2, g2⟩ := u_known (C := RX2) (T := TX2) (N := 3) (n := 3) hta inA2 (hta _ al_29)
  obtain ⟨c3, i3, g3⟩ := u_known (C := RX3) (T := TX3) (N := 9) (n := 9) hta inA3 (hta _ al_24)
  obtain ⟨c4, i4, g4⟩ := u_known (C := RX4) (T := TX4) (N := 6) (n := 6) hta inA4 (hta _ al_34)
  obtain ⟨c5, i5, g5⟩ := u_known (C := RX5) (T := TX5) (N := 3) (n := 3) hta inA5 (hta _ al_51)
  obtain ⟨c6, i6, g6⟩ := u_known (C := RX6) (T := TX6) (N := 5) (n := 5) hta inA6 (hta _ al_55)
  obtain ⟨c7, i7, g7⟩ := u_known (C := RX7) (T := TX7) (N := 5) (n := 5) hta inA7 (hta _ al_11)
  obtain ⟨dC, dI, hKc⟩ : ∃ (dC : Nat → ClassId) (dI : Nat → Nat → Nat), ∀ (k : Nat) (q : vw_C), vwCl[k]? = some q → u_Kn s q.1 q.2.1 q.2.2 (dC k) (dI k) := by
    refine ⟨fun k => if k = 0 then c0 else if k = 1 then c1 else if k = 2 then c2 else if k = 3 then c3 else if k = 4 then c4 else if k = 5 then c5 else if k = 6 then c6 else c7, fun k => if k = 0 then i0 else if k = 1 then i1 else if k = 2 then i2 else if k = 3 then i3 else if k = 4 then i4 else if k = 5 then i5 else if k = 6 then i6 else i7, ?_⟩
    intro k q hq
    match k, hq with
    | 0, hq => cases hq; exact g0
    | 1, hq => cases hq; exact g1
    | 2, hq => cases hq; exact g2
    | 3, hq => cases hq; exact g3
    | 4, hq => cases hq; exact g4
    | 5, hq => cases hq; exact g5
    | 6, hq => cases hq; exact g6
    | 7, hq => cases hq; exact g7
    | k + 8, hq => simp [vwCl] at hq
  obtain ⟨Y, hKa⟩ := kT_start (hta _ al_40) (hta _ al_96) (hta _ al_40) hAO
  have hK : va_K (dC, dI) vwCl (kT Y) s := ⟨hKc, hKa⟩
  have hS : va_S (fun q : Nat => s.heap.size ≤ q) s.heap s.heap [] := va_S.rf
  have hP : va_P (dC, dI) vwCl [] s.heap := fun k q h => by simp at h
  have hD : va_D (fun q : Nat => s.heap.size ≤ q) [] := ⟨fun i j p q h => by simp at h, fun k q h => by simp at h⟩
  have hl := lv_entry ([.ref b]) (n := 10) (Nat.le_of_ble_eq_true rfl)
  rw [lg_entry_eq]
  generalize (lg_sl ([.ref b]) ++ List.replicate (10 - (lg_sl ([.ref b])).length) Slot.unset).toArray = ls at hl ⊢
  have hl : lv_has ls 10 [(0, .ref b)] := hl
  have X0 : lwH p s m meth c b L xs (dC, dI) Y ad av := ⟨hx, hb, hr, hml, hown, hta, hX, hbl, hK, hNs, hE⟩
  refine va_new (ci := 7) (fs := [.null, .null, .null, .null, .null]) (C := RX7) (T := TX7) (N := 5) hx hb hta inA7 tyX7 tyX7_ok hown (hta _ al_5029) (hta _ al_11) (hta _ al_12) hK hP hD hS hA rfl (fun j hj => by rcases (show j = 0 ∨ j = 1 ∨ j = 2 ∨ j = 3 ∨ j = 4 by omega) with rfl | rfl | rfl | rfl | rfl <;> rfl) (Nat.le_of_ble_eq_true rfl) (Nat.le_of_ble_eq_true rfl) dL_law_0 (fun q1 H hP hD hS => ?_)
  have hP : va_P (dC, dI) vwCl ([] ++ [(q1, .inr (7, [.null, .null, .null, .null, .null]))]) H := hP
  have hD : va_D (fun q : Nat => s.heap.size ≤ q) ([] ++ [(q1, .inr (7, [.null, .null, .null, .null, .null]))]) := hD
  refine lv_dup hx hb dL_law_3 rfl ?_
  refine kc_vn (krI (As := []) (rest := [.ref q1]) (c_X7_init l (dC, dI) Y q1) ⟨hx, hb, hml, hown, hta⟩ (cwL_75 hta ⟨Nat.le_of_ble_eq_true rfl, Nat.le_of_ble_eq_true rfl⟩) kXo_b (fun U _ hw => va_AO.moved hw.alike hAO) hK hNs hP hD (kJ_of (List.Perm.refl _)) rfl hl.1 rfl (Nat.le_of_ble_eq_true rfl) dL_law_4 ⟨Nat.le_of_ble_eq_true rfl, Nat.le_of_ble_eq_true rfl⟩) hP hD hS hA kJn_r (fun u H locs hw1 hP hD hS => ?_)
  obtain ⟨w, a, b2, d⟩ := u
  have hw1 : w 0 = q1 := hw1
  have hP : va_P (dC, dI) vwCl (wC Y w a b2 d cNew cNew (fun _ => none) 0 0 (fun _ => 0) 0 0 0 (fun _ => 0) 0) H := hP
  have hD : va_D (fun q : Nat => s.heap.size ≤ q) (wC Y w a b2 d cNew cNew (fun _ => none) 0 0 (fun _ => 0) 0 0 0 (fun _ => 0) 0) := hD
  refine lv_astore_n (lv' := [(1, .ref q1), (0, .ref b)]) hx hb dL_law_7 rfl hl (by decide) rfl (fun ls hl => ?_)
  refine lv_iconst (v := 1) hx hb dL_law_8 (by decide) ?_
  refine lv_istore_n (lv' := [(2, .int 1), (1, .ref q1), (0, .ref b)]) hx hb dL_law_9 rfl hl (by decide) rfl (fun ls hl => ?_)
  rw [← hw1] at hl
  have hgo : ∀ T : Nat, T ≤ 40 → W p l e room_1 s m #[Value.ref b] below meth c H locs (0 + 1 + 54) (0 + 5 + 3138) (lw_Z below #[Value.ref b] s) (F0 m 28 ls [.int (nI T)]) := by
    intro T hT
    refine lv_istore_n (lv' := [(3, .int (nI T)), (2, .int 1), (1, .ref (w 0)), (0, .ref b)]) hx hb dL_law_28 rfl hl (by decide) rfl (fun ls hl => ?_)
    refine lv_iconst (v := 0) hx hb dL_law_29 (by decide) ?_
    refine lv_istore (lv' := [(4, .int 0), (3, .int (nI T)), (2, .int 1), (1, .ref (w 0)), (0, .ref b)]) hx hb dL_law_30 hl (by decide) rfl (fun ls hl => ?_)
    exact law_loop X0 hlocks hL hT (T + 1) 0 (by omega) (by omega) cNew cNew (fun _ => none) 0 0 (fun _ => 0) 0 0 0 (fun _ => 0) 0 pRe_start H locs hP hD hS ls hl
  have hdv : (Int32.ofNat L) / 4 = nI (L / 4) := pk_div (a := L) (d := 4) (by omega) (by omega) (by omega)
  refine lv_aload_n hx hb dL_law_10 rfl (lv_at hl 2 rfl) ?_
  refine va_slen hx hb hX hbl hbA hS dL_law_11 ?_
  refine lv_iconst (v := 4) hx hb dL_law_12 (by decide) ?_
  refine lv_idiv hx hb dL_law_13 (by decide) ?_
  refine kTop hdv ?_
  refine lv_bipush (v := 40) hx hb dL_law_14 (by decide) ?_
  refine lv_icmp_le (tgt := 24) hx hb dL_law_16 (by decide) (fun c1 => ?_) (fun _ => ?_)
  · have c1n : L / 4 ≤ 40 := (nI_leI (a := L / 4) (b := 40) (by omega) (by omega)).mp c1
    refine lv_aload_n hx hb dL_law_24 rfl (lv_at hl 2 rfl) ?_
    refine va_slen hx hb hX hbl hbA hS dL_law_25 ?_
    refine lv_iconst (v := 4) hx hb dL_law_26 (by decide) ?_
    refine lv_idiv hx hb dL_law_27 (by decide) ?_
    refine kTop hdv ?_
    exact hgo (L / 4) c1n
  · refine lv_bipush (v := 40) hx hb dL_law_19 (by decide) ?_
    refine lv_goto (tgt := 28) hx hb dL_law_21 (by decide) ?_
    exact hgo 40 (Nat.le_refl _)
