set_option maxHeartbeats 4000000 in
set_option maxRecDepth 100000 in
theorem law_loop {p : Program} {l : Launch} {e : Env} {s0 : State} {m : MethodId} {below : List Frame} {meth : Method} {c : Code} {sb L : Nat} {xs : Nat → Int32} {D : va_G} {Y : Nat → ClassId} {ad av w a b d rb : Nat → Nat} (X0 : lwH p s0 m meth c sb L xs D Y ad av) (hlocks : meth.locks = false) (hL : L ≤ 2560) : ∀ (zf j : Nat), L + 1 - 5 * j < zf → 5 * j ≤ L → ∀ (M N : kN) (F : kFm) (o z : Nat) (P : Nat → Int32) (n t : Nat) (kd : Int32) (V : Nat → Int32) (vc : Nat) (R : kN), kRel M F o z P n vc R → ∀ (H : Heap) (locs : List Loc), va_P D vwCl (wR Y rb R ++ wC Y w a b d M N F o z P n t kd V vc) H → va_D (fun q => s0.heap.size ≤ q) (wR Y rb R ++ wC Y w a b d M N F o z P n t kd V vc) → va_S (fun q => s0.heap.size ≤ q) s0.heap H locs → ∀ ls : Array Slot, lv_has ls 4 [(3, .int (nI (5 * j))), (2, .ref (rb 0)), (1, .ref (w 0)), (0, .ref sb)] → W p l e room_1 s0 m #[Value.ref sb] below meth c H locs (63 + 24 * j) (18346 + 1518 * j) (lw_Z below #[Value.ref sb] s0) (F0 m 18 ls []) := by
  intro zf
  induction zf with
  | zero => intro j hmu; exact absurd hmu (Nat.not_lt_zero _)
  | succ zf ih =>
    intro j hmu hj M N F o z P n t kd V vc R hrel H locs hP hD hS ls hl
    obtain ⟨hx, hb, hr, hml, hown, hta, hX, hbl, hK, hNs, hE⟩ := id X0
    have hbA : ¬ (fun q : Nat => s0.heap.size ≤ q) sb := Nat.not_le.mpr hbl
    -- the next turn
    have hnext : ∀ {C S : Nat}, C ≤ 63 + 24 * (j + 1) → S ≤ 18346 + 1518 * (j + 1) → 5 * j + 5 ≤ L → lwK p l e s0 m below meth c sb Y D (lw_Z below #[Value.ref sb] s0) w a b d rb (5 * j) C S := by
      intro C S hC hS1 hlt M N F o z P n t kd V vc R hrel H locs hP hD hS ls hl
      refine W.widen (k := 63 + 24 * (j + 1)) (n := 18346 + 1518 * (j + 1)) hC hS1 ?_
      refine lv_iinc (v := nI (5 * (j + 1))) (lv' := [(3, .int (nI (5 * (j + 1)))), (2, .ref (rb 0)), (1, .ref (w 0)), (0, .ref sb)]) hx hb dL_law_780 hl (k := 0) rfl (by rw [show 5 * (j + 1) = 5 * j + 5 by omega]; exact nI_add (5 * j) 5) (by decide) rfl (fun ls hl => ?_)
      refine lv_goto (tgt := 18) hx hb dL_law_783 (by decide) ?_
      exact ih (j + 1) (by omega) (by omega) M N F o z P n t kd V vc R hrel H locs hP hD hS ls hl
    refine lv_iload_n hx hb dL_law_18 rfl (lv_at hl 0 rfl) ?_
    refine lv_aload_n hx hb dL_law_19 rfl (lv_at hl 3 rfl) ?_
    refine va_slen hx hb hX hbl hbA hS dL_law_20 ?_
    refine lv_iconst (v := 5) hx hb dL_law_21 (by decide) ?_
    refine lv_isub hx hb dL_law_22 ?_
    have hc : ∀ q : Nat, q ≤ L → (nI L - 5 < nI q ↔ L < q + 5) := fun q hq => by
      rw [i_lt, nI_toInt (by omega)]
      have := pk_sub_toInt (a := L) (b := 5) (by omega) (by omega)
      rw [show (nI L - 5).toInt = (L : Int) - 5 from this]
      omega
    refine lv_icmp_gt (tgt := 786) hx hb dL_law_23 (by decide) (fun c1 => ?_) (fun c1 => ?_)
    · refine lv_iconst (v := 1) hx hb dL_law_786 (by decide) ?_
      refine W.widen (k := 600000) (n := 7302249) (by omega) (by omega) ?_
      refine va_forget (fun q hq => hS.2.2 q hq) ?_
      exact lw_ret hx hb hr hlocks dL_law_787
    · have hlt : 5 * j + 5 ≤ L := Nat.not_lt.mp (fun q => c1 ((hc (5 * j) hj).mpr q))
      refine lv_aload_n hx hb dL_law_26 rfl (lv_at hl 3 rfl) ?_
      refine lv_iload_n hx hb dL_law_27 rfl (lv_at hl 0 rfl) ?_
      refine va_sld hx hb hX hbl hbA hS (vp_in_nI (by omega) (by omega)) dL_law_28 ?_
      refine lv_bipush (v := 31) hx hb dL_law_29 (by decide) ?_
      refine lv_iand hx hb dL_law_31 ?_
      refine lv_topi (fun x ex => ?_)
      by_cases k0 : x = 0
      · refine lv_tableIn (off := 108) (tgt := 140) hx hb dL_law_32 (by rw [k0]; decide) (by rw [k0]; decide) (by rw [k0]; rfl) (by decide) ?_
        exact law_0 X0 hlt hL (by omega) (by omega) (hnext (by omega) (by omega) hlt) hrel H locs hP hD hS ls hl
      by_cases k1 : x = 1
      · refine lv_tableIn (off := 141) (tgt := 173) hx hb dL_law_32 (by rw [k1]; decide) (by rw [k1]; decide) (by rw [k1]; rfl) (by decide) ?_
        exact law_1 X0 hlt hL (by omega) (by omega) (hnext (by omega) (by omega) hlt) hrel H locs hP hD hS ls hl
      by_cases k2 : x = 2
      · refine lv_tableIn (off := 174) (tgt := 206) hx hb dL_law_32 (by rw [k2]; decide) (by rw [k2]; decide) (by rw [k2]; rfl) (by decide) ?_
        exact law_2 X0 hlt hL (by omega) (by omega) (hnext (by omega) (by omega) hlt) hrel H locs hP hD hS ls hl
      by_cases k3 : x = 3
      · refine lv_tableIn (off := 217) (tgt := 249) hx hb dL_law_32 (by rw [k3]; decide) (by rw [k3]; decide) (by rw [k3]; rfl) (by decide) ?_
        exact law_3 X0 hlt hL (by omega) (by omega) (hnext (by omega) (by omega) hlt) hrel H locs hP hD hS ls hl
      by_cases k4 : x = 4
      · refine lv_tableIn (off := 270) (tgt := 302) hx hb dL_law_32 (by rw [k4]; decide) (by rw [k4]; decide) (by rw [k4]; rfl) (by decide) ?_
        exact law_4 X0 hlt hL (by omega) (by omega) (hnext (by omega) (by omega) hlt) hrel H locs hP hD hS ls hl
      by_cases k5 : x = 5
      · refine lv_tableIn (off := 303) (tgt := 335) hx hb dL_law_32 (by rw [k5]; decide) (by rw [k5]; decide) (by rw [k5]; rfl) (by decide) ?_
        exact law_5 X0 hlt hL (by omega) (by omega) (hnext (by omega) (by omega) hlt) hrel H locs hP hD hS ls hl
      by_cases k6 : x = 6
      · refine lv_tableIn (off := 326) (tgt := 358) hx hb dL_law_32 (by rw [k6]; decide) (by rw [k6]; decide) (by rw [k6]; rfl) (by decide) ?_
        exact law_6 X0 hlt hL (by omega) (by omega) (hnext (by omega) (by omega) hlt) hrel H locs hP hD hS ls hl
      by_cases k7 : x = 7
      · refine lv_tableIn (off := 349) (tgt := 381) hx hb dL_law_32 (by rw [k7]; decide) (by rw [k7]; decide) (by rw [k7]; rfl) (by decide) ?_
        exact law_7 X0 hlt hL (by omega) (by omega) (hnext (by omega) (by omega) hlt) hrel H locs hP hD hS ls hl
      by_cases k8 : x = 8
      · refine lv_tableIn (off := 382) (tgt := 414) hx hb dL_law_32 (by rw [k8]; decide) (by rw [k8]; decide) (by rw [k8]; rfl) (by decide) ?_
        exact law_8 X0 hlt hL (by omega) (by omega) (hnext (by omega) (by omega) hlt) hrel H locs hP hD hS ls hl
      by_cases k9 : x = 9
      · refine lv_tableIn (off := 415) (tgt := 447) hx hb dL_law_32 (by rw [k9]; decide) (by rw [k9]; decide) (by rw [k9]; rfl) (by decide) ?_
        exact law_9 X0 hlt hL (by omega) (by omega) (hnext (by omega) (by omega) hlt) hrel H locs hP hD hS ls hl
      by_cases k10 : x = 10
      · refine lv_tableIn (off := 448) (tgt := 480) hx hb dL_law_32 (by rw [k10]; decide) (by rw [k10]; decide) (by rw [k10]; rfl) (by decide) ?_
        exact law_10 X0 hlt hL (by omega) (by omega) (hnext (by omega) (by omega) hlt) hrel H locs hP hD hS ls hl
      by_cases k11 : x = 11
      · refine lv_tableIn (off := 471) (tgt := 503) hx hb dL_law_32 (by rw [k11]; decide) (by rw [k11]; decide) (by rw [k11]; rfl) (by decide) ?_
        exact law_11 X0 hlt hL (by omega) (by omega) (hnext (by omega) (by omega) hlt) hrel H locs hP hD hS ls hl
      by_cases k12 : x = 12
      · refine lv_tableIn (off := 495) (tgt := 527) hx hb dL_law_32 (by rw [k12]; decide) (by rw [k12]; decide) (by rw [k12]; rfl) (by decide) ?_
        exact law_12 X0 hlt hL (by omega) (by omega) (hnext (by omega) (by omega) hlt) hrel H locs hP hD hS ls hl
      by_cases k13 : x = 13
      · refine lv_tableIn (off := 508) (tgt := 540) hx hb dL_law_32 (by rw [k13]; decide) (by rw [k13]; decide) (by rw [k13]; rfl) (by decide) ?_
        exact law_13 X0 hlt hL (by omega) (by omega) (hnext (by omega) (by omega) hlt) hrel H locs hP hD hS ls hl
      by_cases k14 : x = 14
      · refine lv_tableIn (off := 541) (tgt := 573) hx hb dL_law_32 (by rw [k14]; decide) (by rw [k14]; decide) (by rw [k14]; rfl) (by decide) ?_
        exact law_14 X0 hlt hL (by omega) (by omega) (hnext (by omega) (by omega) hlt) hrel H locs hP hD hS ls hl
      by_cases k15 : x = 15
      · refine lv_tableIn (off := 564) (tgt := 596) hx hb dL_law_32 (by rw [k15]; decide) (by rw [k15]; decide) (by rw [k15]; rfl) (by decide) ?_
        exact law_15 X0 hlt hL (by omega) (by omega) (hnext (by omega) (by omega) hlt) hrel H locs hP hD hS ls hl
      by_cases k16 : x = 16
      · refine lv_tableIn (off := 597) (tgt := 629) hx hb dL_law_32 (by rw [k16]; decide) (by rw [k16]; decide) (by rw [k16]; rfl) (by decide) ?_
        exact law_16 X0 hlt hL (by omega) (by omega) (hnext (by omega) (by omega) hlt) hrel H locs hP hD hS ls hl
      by_cases k17 : x = 17
      · refine lv_tableIn (off := 650) (tgt := 682) hx hb dL_law_32 (by rw [k17]; decide) (by rw [k17]; decide) (by rw [k17]; rfl) (by decide) ?_
        exact law_17 X0 hlt hL (by omega) (by omega) (hnext (by omega) (by omega) hlt) hrel H locs hP hD hS ls hl
      by_cases k18 : x = 18
      · refine lv_tableIn (off := 663) (tgt := 695) hx hb dL_law_32 (by rw [k18]; decide) (by rw [k18]; decide) (by rw [k18]; rfl) (by decide) ?_
        exact law_18 X0 hlt hL (by omega) (by omega) (hnext (by omega) (by omega) hlt) hrel H locs hP hD hS ls hl
      by_cases k19 : x = 19
      · refine lv_tableIn (off := 676) (tgt := 708) hx hb dL_law_32 (by rw [k19]; decide) (by rw [k19]; decide) (by rw [k19]; rfl) (by decide) ?_
        exact law_19 X0 hlt hL (by omega) (by omega) (hnext (by omega) (by omega) hlt) hrel H locs hP hD hS ls hl
      by_cases k20 : x = 20
      · refine lv_tableIn (off := 689) (tgt := 721) hx hb dL_law_32 (by rw [k20]; decide) (by rw [k20]; decide) (by rw [k20]; rfl) (by decide) ?_
        exact law_20 X0 hlt hL (by omega) (by omega) (hnext (by omega) (by omega) hlt) hrel H locs hP hD hS ls hl
      by_cases k21 : x = 21
      · refine lv_tableIn (off := 702) (tgt := 734) hx hb dL_law_32 (by rw [k21]; decide) (by rw [k21]; decide) (by rw [k21]; rfl) (by decide) ?_
        exact law_21 X0 hlt hL (by omega) (by omega) (hnext (by omega) (by omega) hlt) hrel H locs hP hD hS ls hl
      by_cases k22 : x = 22
      · refine lv_tableIn (off := 725) (tgt := 757) hx hb dL_law_32 (by rw [k22]; decide) (by rw [k22]; decide) (by rw [k22]; rfl) (by decide) ?_
        exact law_22 X0 hlt hL (by omega) (by omega) (hnext (by omega) (by omega) hlt) hrel H locs hP hD hS ls hl
      refine lv_tableOut (tgt := 780) hx hb dL_law_32 (by have := fun q : Int => (fun h : x.toInt = q => h); have q0 : ¬ x.toInt = 0 := fun h => k0 (Int32.toInt_inj.mp (h.trans (by decide))); have q1 : ¬ x.toInt = 1 := fun h => k1 (Int32.toInt_inj.mp (h.trans (by decide))); have q2 : ¬ x.toInt = 2 := fun h => k2 (Int32.toInt_inj.mp (h.trans (by decide))); have q3 : ¬ x.toInt = 3 := fun h => k3 (Int32.toInt_inj.mp (h.trans (by decide))); have q4 : ¬ x.toInt = 4 := fun h => k4 (Int32.toInt_inj.mp (h.trans (by decide))); have q5 : ¬ x.toInt = 5 := fun h => k5 (Int32.toInt_inj.mp (h.trans (by decide))); have q6 : ¬ x.toInt = 6 := fun h => k6 (Int32.toInt_inj.mp (h.trans (by decide))); have q7 : ¬ x.toInt = 7 := fun h => k7 (Int32.toInt_inj.mp (h.trans (by decide))); have q8 : ¬ x.toInt = 8 := fun h => k8 (Int32.toInt_inj.mp (h.trans (by decide))); have q9 : ¬ x.toInt = 9 := fun h => k9 (Int32.toInt_inj.mp (h.trans (by decide))); have q10 : ¬ x.toInt = 10 := fun h => k10 (Int32.toInt_inj.mp (h.trans (by decide))); have q11 : ¬ x.toInt = 11 := fun h => k11 (Int32.toInt_inj.mp (h.trans (by decide))); have q12 : ¬ x.toInt = 12 := fun h => k12 (Int32.toInt_inj.mp (h.trans (by decide))); have q13 : ¬ x.toInt = 13 := fun h => k13 (Int32.toInt_inj.mp (h.trans (by decide))); have q14 : ¬ x.toInt = 14 := fun h => k14 (Int32.toInt_inj.mp (h.trans (by decide))); have q15 : ¬ x.toInt = 15 := fun h => k15 (Int32.toInt_inj.mp (h.trans (by decide))); have q16 : ¬ x.toInt = 16 := fun h => k16 (Int32.toInt_inj.mp (h.trans (by decide))); have q17 : ¬ x.toInt = 17 := fun h => k17 (Int32.toInt_inj.mp (h.trans (by decide))); have q18 : ¬ x.toInt = 18 := fun h => k18 (Int32.toInt_inj.mp (h.trans (by decide))); have q19 : ¬ x.toInt = 19 := fun h => k19 (Int32.toInt_inj.mp (h.trans (by decide))); have q20 : ¬ x.toInt = 20 := fun h => k20 (Int32.toInt_inj.mp (h.trans (by decide))); have q21 : ¬ x.toInt = 21 := fun h => k21 (Int32.toInt_inj.mp (h.trans (by decide))); have q22 : ¬ x.toInt = 22 := fun h => k22 (Int32.toInt_inj.mp (h.trans (by decide))); omega) (by decide) ?_
      exact hnext (by omega) (by omega) hlt M N F o z P n t kd V vc R hrel H locs hP hD hS ls hl
