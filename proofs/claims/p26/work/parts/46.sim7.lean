/-! a field comes, stops come and go, days pass -/
theorem kSm.field {nF nS nY : Nat} {M : kN} {s u : kS} {g t p b : Int32} (h : kSm nF nS nY M s) (hF : nF < 30) (hS : nS ≤ 5)
    (hu : ∀ j, u j = if j = 1 then nI (nF + 1) else (if j = 56 + 8 * nF + 4 then t else (if j = 56 + 8 * nF + 3 then b else (if j = 56 + 8 * nF + 2 then p else (if j = 56 + 8 * nF + 1 then t else (if j = 56 + 8 * nF + 0 then g else (if 56 + 8 * nF ≤ j ∧ j < 56 + 8 * nF + 8 then 0 else s j)))))))
    {M1 : kN} (hM : ∀ q k, M1 q k = if q = 19 ∧ k = 4 then nI (nF + 1) else (if q = 13 ∧ k = nF then 0 else (if q = 12 ∧ k = nF then 0 else (if q = 11 ∧ k = nF then 0 else (if q = 10 ∧ k = nF then t else (if q = 9 ∧ k = nF then b else (if q = 8 ∧ k = nF then p else (if q = 7 ∧ k = nF then t else (if q = 6 ∧ k = nF then g else M q k))))))))) :
    kSm (nF + 1) nS nY M1 u := by
  intro q k j hj
  rw [hM, hu]
  by_cases c0 : q = 19 ∧ k = 4
  · have : j = 1 := by rcases hj with hj | hj | hj | hj | hj | hj | ⟨hj0, hj | hj | hj | hj | hj | hj | hj⟩ <;> omega
    rw [if_pos c0, if_pos this]
  · rw [if_neg c0]
    have j1 : j ≠ 1 := by rcases hj with hj | hj | hj | hj | hj | hj | ⟨hj0, hj | hj | hj | hj | hj | hj | hj⟩ <;> omega
    rw [if_neg j1]
    by_cases c1 : 6 ≤ q ∧ q < 14 ∧ k = nF
    · obtain ⟨i, rfl⟩ : ∃ i, q = 6 + i := ⟨q - 6, by omega⟩
      obtain ⟨x1, x2, rfl⟩ := c1
      have hj2 : j = 56 + 8 * k + i := by rcases hj with hj | hj | hj | hj | hj | hj | ⟨hj0, hj | hj | hj | hj | hj | hj | hj⟩ <;> omega
      subst hj2
      rcases (show i = 0 ∨ i = 1 ∨ i = 2 ∨ i = 3 ∨ i = 4 ∨ i = 5 ∨ i = 6 ∨ i = 7 by omega) with rfl | rfl | rfl | rfl | rfl | rfl | rfl | rfl
      · rw [if_neg (by omega), if_neg (by omega), if_neg (by omega), if_neg (by omega), if_neg (by omega), if_neg (by omega), if_neg (by omega), if_pos (by omega), if_neg (by omega), if_neg (by omega), if_neg (by omega), if_neg (by omega), if_pos (by omega)]
      · rw [if_neg (by omega), if_neg (by omega), if_neg (by omega), if_neg (by omega), if_neg (by omega), if_neg (by omega), if_pos (by omega), if_neg (by omega), if_neg (by omega), if_neg (by omega), if_pos (by omega)]
      · rw [if_neg (by omega), if_neg (by omega), if_neg (by omega), if_neg (by omega), if_neg (by omega), if_pos (by omega), if_neg (by omega), if_neg (by omega), if_pos (by omega)]
      · rw [if_neg (by omega), if_neg (by omega), if_neg (by omega), if_neg (by omega), if_pos (by omega), if_neg (by omega), if_pos (by omega)]
      · rw [if_neg (by omega), if_neg (by omega), if_neg (by omega), if_pos (by omega), if_pos (by omega)]
      · rw [if_neg (by omega), if_neg (by omega), if_pos (by omega), if_neg (by omega), if_neg (by omega), if_neg (by omega), if_neg (by omega), if_neg (by omega), if_pos (by omega)]
      · rw [if_neg (by omega), if_pos (by omega), if_neg (by omega), if_neg (by omega), if_neg (by omega), if_neg (by omega), if_neg (by omega), if_pos (by omega)]
      · rw [if_pos (by omega), if_neg (by omega), if_neg (by omega), if_neg (by omega), if_neg (by omega), if_neg (by omega), if_pos (by omega)]
    · have c2 : kRl nF nS nY q k j := kRl_dn hj (fun _ _ _ => by omega) (fun _ _ _ => by omega) (fun _ _ _ => by omega)
      have hj2 : j < 56 + 8 * nF ∨ 56 + 8 * nF + 8 ≤ j := by rcases c2 with c2 | c2 | c2 | c2 | c2 | c2 | ⟨c20, c2 | c2 | c2 | c2 | c2 | c2 | c2⟩ <;> omega
      rw [if_neg (by omega), if_neg (by omega), if_neg (by omega), if_neg (by omega), if_neg (by omega), if_neg (by omega), if_neg (by omega), if_neg (by omega)]
      rw [if_neg (by omega), if_neg (by omega), if_neg (by omega), if_neg (by omega), if_neg (by omega), if_neg (by omega)]
      exact h q k j c2
def aField (s : kS) (g t p b : Int32) : Int32 × kS := if mMayCome s g t p b = 0 then (nI (mF s), mComes s g t p b) else (mMayCome s g t p b, s)
theorem aField_sim {M : kN} {s : kS} (h : kOK M s) (g t p b : Int32) : kOut M s (cField M g t p b) (aField s g t p b) := by
  obtain ⟨hS, hX, hQ, hG, hH, hN⟩ := id h
  have h30 := hX.f30
  unfold cField aField mMayCome cAddF
  by_cases c1 : pIn g 0 5
  · rw [if_pos c1, if_pos c1]
    by_cases c2 : pIn t 1 300
    · rw [if_pos c2, if_pos c2]
      by_cases c3 : pIn p 1 100
      · rw [if_pos c3, if_pos c3, hS.1.now]
        by_cases c4 : pIn b (s 0) 999
        · rw [if_pos c4, if_pos c4, hS.1.cF, hX.f]
          by_cases c5 : mF s = 30
          · rw [if_pos c5, if_neg (by rw [c5]; decide), if_neg (by decide)]; exact kOut_err h _
          · rw [if_neg c5, if_pos rfl, if_pos (show nI (mF s) < (30 : Int32) from (nI_ltI (a := mF s) (b := 30) (by omega) (by omega)).mpr (by omega)), (kSim_n hS).1]
            have hlt : mF s < 30 := by omega
            have e := fun j => mComes_at (s := s) (g := g) (t := t) (p := p) (b := b) j
            obtain ⟨x1, x2⟩ := mComes_X hX (g := g) (t := t) (p := p) (b := b) c1 hlt
            obtain ⟨t1, t2⟩ := pIn_int c2
            obtain ⟨b1, b2⟩ := pIn_int c4
            have i1 : (1 : Int32).toInt = 1 := by decide
            have i3 : (300 : Int32).toInt = 300 := by decide
            have i9 : (999 : Int32).toInt = 999 := by decide
            have k1 := hS.1.field (g := g) (t := t) (p := p) (b := b) hlt hX.s5 e (M1 := sM (sM (sM (sM (sM (sM (sM (sM (sM M 6 (mF s) g) 7 (mF s) t) 8 (mF s) p) 9 (mF s) b) 10 (mF s) t) 11 (mF s) 0) 12 (mF s) 0) 13 (mF s) 0) 19 4 (nI (mF s) + 1)) (fun q k => by simp only [sM_at, nI_1])
            have lo : ∀ j, j ≠ 1 → (j < 56 ∨ 56 + 8 * mF s + 8 ≤ j) → mComes s g t p b j = s j := fun j h1 h2 => by
              rw [e, if_neg h1, if_neg (by omega), if_neg (by omega), if_neg (by omega), if_neg (by omega), if_neg (by omega), if_neg (by omega)]
            have eS : mS (mComes s g t p b) = mS s := by unfold mS; rw [lo 2 (by omega) (by omega)]
            have eY : mY (mComes s g t p b) = mY s := by unfold mY; rw [lo 296 (by omega) (by omega)]
            have ef : ∀ f i, f < mF s → i < 8 → mComes s g t p b (56 + 8 * f + i) = s (56 + 8 * f + i) := fun f i hf hi => by
              rw [e, if_neg (by omega), if_neg (by omega), if_neg (by omega), if_neg (by omega), if_neg (by omega), if_neg (by omega), if_neg (by omega)]
            have e3 : mComes s g t p b (56 + 8 * mF s + 3) = b := by rw [e, if_neg (by omega), if_neg (by omega), if_pos rfl]
            have e4 : mComes s g t p b (56 + 8 * mF s + 4) = t := by rw [e, if_neg (by omega), if_pos rfl]
            obtain ⟨⟨g1, g2⟩, g3, g4, g5⟩ := hG
            refine kOut_ok rfl ⟨?_, x1, mComes_Q hQ hlt, ⟨⟨by rw [lo 6 (by omega) (by omega)]; exact g1, by rw [lo 8 (by omega) (by omega)]; exact g2⟩, fun f hf => ?_, by rw [lo 28 (by omega) (by omega)]; exact g4, ?_⟩, mH_of hH (fun j h1 h2 => lo j (by omega) (by omega)), by unfold mNw; rw [lo 0 (by omega) (by omega)]; exact hN⟩ (kI_ge _ (by omega))
            · unfold kSim
              rw [x2, eS, eY]
              exact ⟨k1, mLost_kp hS.2 rfl rfl rfl rfl (fun j hj => lo j (by omega) (by omega))⟩
            · rw [x2] at hf
              by_cases cf : f = mF s
              · subst cf
                rw [e3, e4]
                rw [i9] at b2
                rw [i1] at t1
                exact ⟨⟨by have := hN.1; omega, b2⟩, by omega⟩
              · rw [ef f 3 (by omega) (by omega), ef f 4 (by omega) (by omega)]
                exact g3 f (by omega)
            · rw [x2, lo 28 (by omega) (by omega)]
              show mOn (mComes s g t p b) (mF s) + (mComes s g t p b (56 + 8 * mF s + 4)).toInt + _ ≤ _
              rw [mOn_cong _ (fun f hf => ef f 4 hf (by omega)), e4]
              rw [i3] at t2
              omega
        · rw [if_neg c4, if_neg c4, if_neg (by decide)]; exact kOut_err h _
      · rw [if_neg c3, if_neg c3, if_neg (by decide)]; exact kOut_err h _
    · rw [if_neg c2, if_neg c2, if_neg (by decide)]; exact kOut_err h _
  · rw [if_neg c1, if_neg c1, if_neg (by decide)]; exact kOut_err h _
theorem mG_kp2 {s u : kS} (hG : mG s) (hX : mX s) (e : ∀ j, j ≠ 2 → (j < 16 ∨ 26 ≤ j) → u j = s j) : mG u := by
  obtain ⟨⟨g1, g2⟩, g3, g4, g5⟩ := hG
  have e1 : mF u = mF s := by unfold mF; rw [e 1 (by omega) (by omega)]
  refine ⟨⟨by rw [e 6 (by omega) (by omega)]; exact g1, by rw [e 8 (by omega) (by omega)]; exact g2⟩, fun f hf => ?_, by rw [e 28 (by omega) (by omega)]; exact g4, ?_⟩
  · rw [e1] at hf
    rw [e _ (by omega) (by omega), e _ (by omega) (by omega)]
    exact g3 f hf
  · rw [e1, e 28 (by omega) (by omega), mOn_cong _ (fun f _ => e _ (by omega) (by omega))]
    exact g5
/-- a change of stops alone -/
theorem kOK_stops {M M1 : kN} {s u : kS} (h : kOK M s) (hl : ∀ j, j ≠ 2 → (j < 16 ∨ 26 ≤ j) → u j = s j) (h2 : u 2 = nI (mS u)) (h5 : mS u ≤ 5) (k1 : kSm (mF s) (mS u) (mY s) M1 u) (r3 : M1 3 = M 3) (r4 : M1 4 = M 4) (r5 : M1 5 = M 5) (r7 : M1 19 7 = M 19 7) : kOK M1 u := by
  obtain ⟨hS, hX, hQ, hG, hH, hN⟩ := h
  have h30 := hX.f30
  have eF : mF u = mF s := by unfold mF; rw [hl 1 (by omega) (by omega)]
  have eY : mY u = mY s := by unfold mY; rw [hl 296 (by omega) (by omega)]
  have eT : mT u = mT s := by unfold mT; rw [hl 3 (by omega) (by omega)]
  refine ⟨?_, ⟨?_, ⟨h2, h5⟩, ?_, ?_, ?_, ?_⟩, hQ.of (fun j hj => hl j (by omega) (by omega)), mG_kp2 hG hX (fun j h1 h2 => hl j h1 h2), mH_of hH (fun j h1 h3 => hl j (by omega) (by omega)), by unfold mNw; rw [hl 0 (by omega) (by omega)]; exact hN⟩
  · unfold kSim
    rw [eF, eY]
    exact ⟨k1, mLost_kp hS.2 r3 r4 r5 r7 (fun j hj => hl j (by omega) (by omega))⟩
  · rw [eF, hl 1 (by omega) (by omega)]; exact hX.1
  · rw [eY, hl 296 (by omega) (by omega)]; exact hX.2.2.1
  · rw [eT, hl 3 (by omega) (by omega)]; exact hX.2.2.2.1
  · intro f hf
    rw [eF] at hf
    unfold mg
    rw [hl _ (by omega) (by omega)]
    exact hX.g hf
  · intro k hk
    rw [eY] at hk
    unfold ml
    rw [hl _ (by omega) (by omega), eF]
    exact hX.l hk
def aStop (s : kS) (f l : Int32) : Int32 × kS := if mMayStop s f l = 0 then (nI (mS s), mStops s f l) else (mMayStop s f l, s)
theorem aStop_sim {M : kN} {s : kS} (h : kOK M s) (f l : Int32) : kOut M s (cStop M f l) (aStop s f l) := by
  obtain ⟨hS, hX, hQ, hG, hH, hN⟩ := id h
  have h5 := hX.s5
  unfold cStop aStop mMayStop
  by_cases c1 : pIn f 0 999
  · rw [if_pos c1, if_pos c1]
    by_cases c2 : pIn l f 999
    · rw [if_pos c2, if_pos c2, hS.1.cS, hX.s]
      by_cases c3 : mS s = 5
      · rw [if_pos c3, if_neg (by rw [c3]; decide), if_neg (by decide)]; exact kOut_err h _
      · rw [if_neg c3, if_pos rfl, if_pos (show nI (mS s) < (5 : Int32) from (nI_ltI (a := mS s) (b := 5) (by omega) (by omega)).mpr (by omega)), (kSim_n hS).2.1]
        have e := fun j => mStops_at (s := s) (f := f) (l := l) j
        obtain ⟨x1, x2⟩ := mStops_X hX (f := f) (l := l) (by omega)
        refine kOut_ok rfl (kOK_stops h (fun j h1 h2 => by rw [e, if_neg h1, if_neg (by omega), if_neg (by omega)]) x1.s x1.s5 ?_ rfl rfl rfl rfl) (kI_ge _ (by omega))
        rw [x2]
        intro q k j hj
        rw [e]
        simp only [sM_at]
        by_cases d1 : q = 19 ∧ k = 5
        · have : j = 2 := by rcases hj with hj | hj | hj | hj | hj | hj | ⟨hj0, hj | hj | hj | hj | hj | hj | hj⟩ <;> omega
          rw [if_pos d1, if_pos this, nI_1]
        · have n2 : j ≠ 2 := by rcases hj with hj | hj | hj | hj | hj | hj | ⟨hj0, hj | hj | hj | hj | hj | hj | hj⟩ <;> omega
          rw [if_neg d1, if_neg n2]
          by_cases d2 : q = 15 ∧ k = mS s
          · have : j = 16 + 2 * mS s + 1 := by rcases hj with hj | hj | hj | hj | hj | hj | ⟨hj0, hj | hj | hj | hj | hj | hj | hj⟩ <;> omega
            rw [if_pos d2, if_pos this]
          · rw [if_neg d2]
            by_cases d3 : q = 14 ∧ k = mS s
            · have : j = 16 + 2 * mS s := by rcases hj with hj | hj | hj | hj | hj | hj | ⟨hj0, hj | hj | hj | hj | hj | hj | hj⟩ <;> omega
              rw [if_pos d3, if_neg (by omega), if_pos this]
            · have c9 : kRl (mF s) (mS s) (mY s) q k j := kRl_dn hj (fun _ _ _ => by omega) (fun _ _ _ => by omega) (fun _ _ _ => by omega)
              have hj3 : j ≠ 16 + 2 * mS s + 1 ∧ j ≠ 16 + 2 * mS s := by
                have h30 := hX.f30
                rcases c9 with c9 | c9 | c9 | c9 | c9 | c9 | ⟨c90, c9 | c9 | c9 | c9 | c9 | c9 | c9⟩ <;> omega
              have hj2 : kRl (mF s) (mS s) (mY s) q k j ∧ j ≠ 16 + 2 * mS s + 1 ∧ j ≠ 16 + 2 * mS s := ⟨c9, hj3⟩
              rw [if_neg d3, if_neg hj2.2.1, if_neg hj2.2.2]
              exact hS.1 q k j hj2.1
    · rw [if_neg c2, if_neg c2, if_neg (by decide)]; exact kOut_err h _
  · rw [if_neg c1, if_neg c1, if_neg (by decide)]; exact kOut_err h _
theorem cDropSTo_q (M : kN) (d : Nat) {q : Nat} (hq : q = 14 ∨ q = 15) : ∀ j k, cDropSTo M d j q k = if d ≤ k ∧ k < d + j then M q (k + 1) else M q k
  | 0, k => by rw [if_neg (by omega)]; rfl
  | j + 1, k => by
    have ih := cDropSTo_q M d hq j
    have e : cDropSTo M d (j + 1) q k = upd (cDropSTo M d j q) (d + j) (cDropSTo M d j q (d + 1 + j)) k := by
      rcases hq with rfl | rfl <;> rfl
    rw [e, upd]
    split
    · rename_i hk
      subst hk
      rw [ih, if_neg (by omega), if_pos (by omega), show d + 1 + j = d + j + 1 by omega]
    · rw [ih]
      by_cases hk : d ≤ k ∧ k < d + j
      · rw [if_pos hk, if_pos (by omega)]
      · rw [if_neg hk, if_neg (by omega)]
def aDrop (s : kS) (k : Int32) : Int32 × kS := if pIn k 0 (s 2 - 1) then (nI (mS s - 1), mDropRow s k.toNatClampNeg) else (-1, s)
theorem aDrop_sim {M : kN} {s : kS} (h : kOK M s) (k : Int32) : kOut M s (cDropStop M k) (aDrop s k) := by
  obtain ⟨hS, hX, hQ, hG, hH, hN⟩ := id h
  have h5 := hX.s5
  have h30 := hX.f30
  unfold cDropStop aDrop
  rw [hS.1.cS]
  by_cases c1 : pIn k 0 (s 2 - 1)
  · rw [if_pos c1, if_pos c1]
    rw [hX.s] at c1
    obtain ⟨j, rfl, hj⟩ := pIn_lt (by omega) c1
    have e1 : s 2 - 1 = nI (mS s - 1) := by
      rw [hX.s]
      exact pk_sub (a := mS s) (b := 1) (by omega)
    rw [e1, nI_clamp (by omega), (kSim_n hS).2.1]
    have e : ∀ i, mDropRow s j i = if 16 + 2 * j ≤ i ∧ i < 16 + 2 * j + 2 * (mS s - 1 - j) then upd s 2 (nI (mS s - 1)) (i + 2) else upd s 2 (nI (mS s - 1)) i := fun i => mDropTo_at _ _ _ _
    have e2 : mDropRow s j 2 = nI (mS s - 1) := by rw [e, if_neg (by omega), upd_s]
    have eS : mS (mDropRow s j) = mS s - 1 := by
      show (mDropRow s j 2).toNatClampNeg = _
      rw [e2]; exact nI_clamp (by omega)
    refine kOut_ok rfl (kOK_stops h (fun i h1 h2 => by rw [e, if_neg (by omega), upd_o h1]) (by rw [eS]; exact e2) (by omega) ?_ ?_ ?_ ?_ ?_) (kI_ge _ (by omega))
    · rw [eS]
      intro q i n hq
      by_cases d1 : q = 19 ∧ i = 5
      · obtain ⟨rfl, rfl⟩ := d1
        have : n = 2 := by rcases hq with hq | hq | hq | hq | hq | hq | ⟨hq0, hq | hq | hq | hq | hq | hq | hq⟩ <;> omega
        subst this
        rw [sM_at, if_pos ⟨rfl, rfl⟩, e2]
      · rw [sM_at, if_neg d1]
        have n2 : n ≠ 2 := by rcases hq with hq | hq | hq | hq | hq | hq | ⟨hq0, hq | hq | hq | hq | hq | hq | hq⟩ <;> omega
        by_cases d2 : 14 ≤ q ∧ q < 16
        · obtain ⟨a, rfl⟩ : ∃ a, q = 14 + a := ⟨q - 14, by omega⟩
          have hn : n = 16 + 2 * i + a ∧ i < mS s - 1 := by rcases hq with hq | hq | hq | hq | hq | hq | ⟨hq0, hq | hq | hq | hq | hq | hq | hq⟩ <;> omega
          obtain ⟨rfl, hi⟩ := hn
          rw [cDropSTo_q M j (by omega), e]
          by_cases d3 : j ≤ i ∧ i < j + (mS s - (j + 1))
          · rw [if_pos d3, if_pos (by omega), upd_o (by omega)]
            have := hS.1.st (k := i + 1) (i := a) (by omega) (by omega)
            rw [this]
            congr 1
            omega
          · rw [if_neg d3, if_neg (by omega), upd_o (by omega)]
            exact hS.1.st (k := i) (i := a) (by omega) (by omega)
        · rw [cDropSTo_o M j (by omega) (by omega), e, if_neg (by rcases hq with hq | hq | hq | hq | hq | hq | ⟨hq0, hq | hq | hq | hq | hq | hq | hq⟩ <;> omega), upd_o n2]
          exact hS.1 q i n (kRl_dn hq (fun _ _ _ => by omega) (fun _ _ _ => by omega) (fun _ _ _ => by omega))
    · show cDropSTo M j _ 3 = _
      rw [cDropSTo_o M j (by omega) (by omega)]
    · show cDropSTo M j _ 4 = _
      rw [cDropSTo_o M j (by omega) (by omega)]
    · show cDropSTo M j _ 5 = _
      rw [cDropSTo_o M j (by omega) (by omega)]
    · show cDropSTo M j _ 19 7 = _
      rw [cDropSTo_o M j (by omega) (by omega)]
  · rw [if_neg c1, if_neg c1]; exact kOut_err h _
def aPass (s : kS) (d : Int32) : Int32 × kS := if mMayPass s d = 0 then (mDays s 0 d.toNatClampNeg 0, mDays s 0 d.toNatClampNeg) else (mMayPass s d, s)
theorem aPass_sim {M : kN} {s : kS} (h : kOK M s) (d : Int32) : kOut M s (cPass M d) (aPass s d) := by
  obtain ⟨hS, hX, hQ, hG, hH, hN⟩ := id h
  unfold cPass aPass mMayPass
  by_cases c1 : pIn d 1 99
  · rw [if_pos c1, if_pos c1, hS.1.now]
    by_cases c2 : s 0 + d ≤ 1000
    · rw [if_pos c2, if_pos c2, if_pos rfl]
      obtain ⟨j, rfl, j1, j2⟩ := pIn_nat c1 (show (1 : Int32) = nI 1 from rfl) (show (99 : Int32) = nI 99 from rfl) (by omega) (by omega)
      rw [nI_clamp (by omega)]
      obtain ⟨n1, n2⟩ := hN
      have i1000 : (1000 : Int32).toInt = 1000 := by decide
      rw [i_le, i1000, i_add (by rw [nI_toInt (by omega)]; omega) (by rw [nI_toInt (by omega)]; omega), nI_toInt (by omega)] at c2
      obtain ⟨z1, z2, z3, z4⟩ := mDays_sim hS hX hQ hG (b := (s 0).toInt) ⟨n1, Int.le_refl _⟩ 0 j (by omega)
      obtain ⟨y1, y2⟩ := mDays_I hX hQ 0 j
      exact kOut_ok z1.1.now ⟨z1, y1, y2, z2, mDays_H hX hQ hH 0 j, ⟨z3.1, by have := z3.2; omega⟩⟩ z3.1
    · rw [if_neg c2, if_neg c2, if_neg (by decide)]; exact kOut_err h _
  · rw [if_neg c1, if_neg c1, if_neg (by decide)]; exact kOut_err h _
