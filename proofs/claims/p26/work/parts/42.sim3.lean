/-! a load is brought -/
theorem mBrings_sim {M : kN} {s : kS} {f : Nat} (h : kSim M s) (hX : mX s) (hQ : mQ s) (hG : mG s) (hn : mNextO s = some f) : kSim (cBringLoad M f) (mBrings s f) := by
  obtain ⟨hf, hc, hr⟩ := mNextO_can hn
  have h30 := hX.f30
  have h5 := hX.s5
  obtain ⟨-, hroom⟩ := mNextO_m h hX hQ hG
  obtain ⟨er, hlt⟩ := hroom hr
  have hg := (hX.g hf).2
  have eg := kSm_gr h.1 hf
  have e4 : M 10 f = s (56 + 8 * f + 4) := h.1.fd (i := 4) hf (by omega)
  have e5 : M 11 f = s (56 + 8 * f + 5) := h.1.fd (i := 5) hf (by omega)
  have eq' : M 1 (mg s f) = s (10 + mg s f) := h.1.qu hg
  have ew : M 2 (mg s f) = s (32 + 4 * mg s f) := h.1.gw (i := 0) hg (by omega)
  have e01 : M 0 1 = s 4 := h.1.se (k := 1) (by omega)
  have eT : cTonnes M f = mTon s f := by
    unfold cTonnes mTon
    rw [kmin_m, kmin_m, kmin_m, eg, e4, eq', e01, er]
  have eYn := (kSim_n h).2.2.1
  have k1 := h.1.put h30 h5 10 f (56 + 8 * f + 4) (v := s (56 + 8 * f + 4) - mTon s f) (kRl_fd 4 (by omega) (by omega)) rfl
  have k2 := k1.put h30 h5 11 f (56 + 8 * f + 5) (v := s (56 + 8 * f + 5) + mTon s f) (kRl_fd 5 (by omega) (by omega)) rfl
  have k3 := k2.put h30 h5 1 (mg s f) (10 + mg s f) (v := s (10 + mg s f) - mTon s f) (kRl_qu (by omega)) rfl
  have k4 := k3.put h30 h5 2 (mg s f) (32 + 4 * mg s f) (v := s (32 + 4 * mg s f) + mTon s f) (kRl_gw 0 (by omega) (by omega)) rfl
  have x2 : mBr1 s f (56 + 8 * f + 5) = s (56 + 8 * f + 5) := by unfold mBr1; rw [upd_o (by omega)]
  have x3 : mBr2 s f (10 + mg s f) = s (10 + mg s f) := by unfold mBr2 mBr1; rw [upd_o (by omega), upd_o (by omega)]
  have x4 : mBr3 s f (32 + 4 * mg s f) = s (32 + 4 * mg s f) := by unfold mBr3 mBr2 mBr1; rw [upd_o (by omega), upd_o (by omega), upd_o (by omega)]
  have em4 : mBr4 s f = upd (upd (upd (upd s (56 + 8 * f + 4) (s (56 + 8 * f + 4) - mTon s f)) (56 + 8 * f + 5) (s (56 + 8 * f + 5) + mTon s f)) (10 + mg s f) (s (10 + mg s f) - mTon s f)) (32 + 4 * mg s f) (s (32 + 4 * mg s f) + mTon s f) := by
    show upd (mBr3 s f) _ (mBr3 s f _ + _) = _
    rw [x4]
    show upd (upd (mBr2 s f) _ (mBr2 s f _ - _)) _ _ = _
    rw [x3]
    show upd (upd (upd (mBr1 s f) _ (mBr1 s f _ + _)) _ _) _ _ = _
    rw [x2]
    rfl
  rw [← em4] at k4
  have eL : cLeaves M f = sM (sM (sM (sM M 10 f (s (56 + 8 * f + 4) - mTon s f)) 11 f (s (56 + 8 * f + 5) + mTon s f)) 1 (mg s f) (s (10 + mg s f) - mTon s f)) 2 (mg s f) (s (32 + 4 * mg s f) + mTon s f) := by
    unfold cLeaves
    rw [eT, eg, e4, e5, eq', ew]
    rw [sM_comm (q := 2) (q' := 10) (by decide), sM_comm (q := 1) (q' := 10) (by decide), sM_comm (q := 2) (q' := 11) (by decide), sM_comm (q := 1) (q' := 11) (by decide)]
  rw [← eL] at k4
  have l0 : cLeaves M f 19 = M 19 := rfl
  have l3 : cLeaves M f 3 = M 3 ∧ cLeaves M f 4 = M 4 ∧ cLeaves M f 5 = M 5 := ⟨rfl, rfl, rfl⟩
  have lY : nY (cLeaves M f) = mY s := eYn
  have x0 : upd (upd (mBr4 s f) (297 + 3 * mY s) (nI f)) (297 + 3 * mY s + 1) (mTon s f) 0 = s 0 := by
    rw [upd_o (by omega), upd_o (by omega), mBr4_at (by omega) hg (by omega) (by omega) (by omega) (by omega)]
  have k5 := k4.queue h30 h5 (nI f) (mTon s f) (s 0)
  have e5' : mBr5 s f = upd (upd (upd (mBr4 s f) (297 + 3 * mY s) (nI f)) (297 + 3 * mY s + 1) (mTon s f)) (297 + 3 * mY s + 2) (s 0) := by
    unfold mBr5
    rw [x0]
  rw [← e5'] at k5
  have y5 : ∀ j, j < 297 → mBr5 s f j = mBr4 s f j := fun j hj => by rw [e5', upd_o (by omega), upd_o (by omega), upd_o (by omega)]
  have z4 : ∀ j, j = 1 ∨ j = 2 ∨ j = 296 ∨ j = 30 ∨ j = 26 ∨ j = 28 ∨ j = 29 → mBr4 s f j = s j := fun j hj => mBr4_at (by omega) hg (by omega) (by omega) (by omega) (by omega)
  have k6 := k5.put h30 h5 19 6 296 (v := s 296 + 1) (w := mBr5 s f 296 + 1) (kRl_6) (by rw [y5 _ (by omega), z4 296 (by omega)])
  have k7 := k6.putM (v := M 19 7 + mTon s f)
  have y30 : upd (mBr5 s f) 296 (mBr5 s f 296 + 1) 30 = s 30 := by rw [upd_o (by omega), y5 _ (by omega), z4 30 (by omega)]
  have k8 := k7.put h30 h5 19 2 30 (v := s 30 + 1) (w := mBr6 s f 30 + 1) (kRl_2) (by show _ = upd (mBr5 s f) 296 (mBr5 s f 296 + 1) 30 + 1; rw [y30])
  have eA : cArr M f = sM (sM (sM (sM (sM (cLeaves M f) 16 (mY s) (nI f)) 17 (mY s) (mTon s f)) 18 (mY s) (s 0)) 19 6 (s 296 + 1)) 19 7 (M 19 7 + mTon s f) := by
    unfold cArr cAppend
    have c400 : cLeaves M f 19 6 < 400 := by
      rw [l0, h.1.cY, hX.y]
      exact (nI_ltI (a := mY s) (b := 400) (by omega) (by omega)).mpr hlt
    rw [if_pos c400, lY, eT, l0, h.1.now, h.1.cY]
  have eB : cBringLoad M f = sM (cArr M f) 19 2 (s 30 + 1) := by
    unfold cBringLoad
    have : cArr M f 19 2 = s 30 := by
      rw [eA, sM_at, if_neg (by omega), sM_at, if_neg (by omega)]
      exact h.1.lo
    rw [this]
  rw [← eA, ← eB] at k8
  have k9 : kSm (mF s) (mS s) (mY s + 1) (cBringLoad M f) (mBrings s f) := k8
  have w : ∀ j, j = 1 ∨ j = 2 ∨ j = 26 ∨ j = 28 ∨ j = 29 → mBrings s f j = s j := fun j hj => by
    show upd (upd (mBr5 s f) 296 _) 30 _ j = _
    rw [upd_o (by omega), upd_o (by omega), y5 j (by omega), z4 j (by omega)]
  have w296 : mBrings s f 296 = nI (mY s + 1) := by
    show upd (upd (mBr5 s f) 296 _) 30 _ 296 = _
    rw [upd_o (by omega), upd_s, y5 296 (by omega), z4 296 (by omega), hX.y, nI_1]
  have eF : mF (mBrings s f) = mF s := by unfold mF; rw [w 1 (by omega)]
  have eS : mS (mBrings s f) = mS s := by unfold mS; rw [w 2 (by omega)]
  have eY : mY (mBrings s f) = mY s + 1 := by
    show (mBrings s f 296).toNatClampNeg = _
    rw [w296]; exact nI_clamp (by omega)
  obtain ⟨t1, t2, t3, t4⟩ := h.2
  have r3 : cBringLoad M f 3 = M 3 ∧ cBringLoad M f 4 = M 4 ∧ cBringLoad M f 5 = M 5 := by rw [eB, eA]; exact ⟨rfl, rfl, rfl⟩
  refine ⟨by rw [eF, eS, eY]; exact k9, ?_, by rw [r3.1, w 26 (by omega)]; exact t2, by rw [r3.2.1, w 28 (by omega)]; exact t3, by rw [r3.2.2, w 29 (by omega)]; exact t4⟩
  rw [eY]
  have a7 : cBringLoad M f 19 7 = M 19 7 + mTon s f := by
    rw [eB, sM_at, if_neg (by omega), eA, sM_at, if_pos ⟨rfl, rfl⟩]
  rw [a7, t1]
  obtain ⟨z0, z1, z2⟩ := mBrings_q (s := s) (f := f) (by omega) hg
  show _ = mYd (mBrings s f) (mY s) + mBrings s f (297 + 3 * mY s + 1)
  rw [z1]
  congr 1
  refine (mYd_cong _ (fun k hk => ?_)).symm
  rw [mBrings_at (by omega) hg (by omega) (by omega) (by omega) (by omega) (by omega) (by omega), if_neg (by omega)]
theorem mBrings_G {s : kS} {f : Nat} (hX : mX s) (hQ : mQ s) (hG : mG s) (hn : mNextO s = some f) : mG (mBrings s f) ∧ mBrings s f 0 = s 0 ∧ mBrings s f 28 = s 28 := by
  obtain ⟨hf, hc, hr⟩ := mNextO_can hn
  have h30 := hX.f30
  have hg := (hX.g hf).2
  obtain ⟨t1, t2, t3, t4⟩ := mTon_b hQ hc hr
  obtain ⟨⟨g1, g2⟩, g3, g4, g5⟩ := hG
  have at_ : ∀ j, j ≠ 56 + 8 * f + 4 → j ≠ 56 + 8 * f + 5 → (j < 10 ∨ (16 ≤ j ∧ j < 30) ∨ 56 ≤ j) → j < 296 → mBrings s f j = s j := fun j a b c d => by
    rw [mBrings_at (by omega) hg a b (by omega) (by omega) (by omega) (by omega), if_neg (by omega)]
  have a4 : mBrings s f (56 + 8 * f + 4) = s (56 + 8 * f + 4) - mTon s f := by
    unfold mBrings mBr6 mBr5 mBr4 mBr3 mBr2
    rw [upd_o (by omega), upd_o (by omega), upd_o (by omega), upd_o (by omega), upd_o (by omega), upd_o (by omega), upd_o (by omega), upd_o (by omega)]
    unfold mBr1
    rw [upd_s]
  have i4 : (s (56 + 8 * f + 4) - mTon s f).toInt = (s (56 + 8 * f + 4)).toInt - (mTon s f).toInt := by
    have := i_rng (s (56 + 8 * f + 4))
    exact i_sub (by omega) (by omega)
  have eF : mF (mBrings s f) = mF s := by unfold mF; rw [at_ 1 (by omega) (by omega) (by omega) (by omega)]
  refine ⟨⟨⟨by rw [at_ 6 (by omega) (by omega) (by omega) (by omega)]; exact g1, by rw [at_ 8 (by omega) (by omega) (by omega) (by omega)]; exact g2⟩, fun j hj => ?_, by rw [at_ 28 (by omega) (by omega) (by omega) (by omega)]; exact g4, ?_⟩, at_ 0 (by omega) (by omega) (by omega) (by omega), at_ 28 (by omega) (by omega) (by omega) (by omega)⟩
  · rw [eF] at hj
    rw [at_ (56 + 8 * j + 3) (by omega) (by omega) (by omega) (by omega)]
    refine ⟨(g3 j hj).1, ?_⟩
    by_cases c : j = f
    · subst c; rw [a4, i4]; omega
    · rw [at_ (56 + 8 * j + 4) (by omega) (by omega) (by omega) (by omega)]; exact (g3 j hj).2
  · rw [eF, at_ 28 (by omega) (by omega) (by omega) (by omega)]
    have e : mOn (mBrings s f) (mF s) = mOn (upd s (56 + 8 * f + 4) (s (56 + 8 * f + 4) - mTon s f)) (mF s) := mOn_cong _ (fun j hj => by
      by_cases c : j = f
      · subst c; rw [a4, upd_s]
      · rw [at_ (56 + 8 * j + 4) (by omega) (by omega) (by omega) (by omega), upd_o (by omega)])
    rw [e, mOn_upd, if_pos hf, i4]
    omega
theorem mStep_sim {M : kN} {s : kS} (h : kSim M s) (hX : mX s) (hQ : mQ s) (hG : mG s) : kSim (cBringStep M) (mStep s) ∧ mG (mStep s) ∧ mStep s 0 = s 0 ∧ mStep s 28 = s 28 := by
  obtain ⟨hn, -⟩ := mNextO_m h hX hQ hG
  cases hc : mNextO s with
  | none => rw [mStep_n hc, cBringStep_n (hn.trans hc)]; exact ⟨h, hG, rfl, rfl⟩
  | some f =>
    rw [mStep_s hc, cBringStep_s (hn.trans hc)]
    exact ⟨mBrings_sim h hX hQ hG hc, mBrings_G hX hQ hG hc⟩
theorem mBringTo_sim {M : kN} {s : kS} (h : kSim M s) (hX : mX s) (hQ : mQ s) (hG : mG s) : ∀ t, kSim (cBringTo M t) (mBringTo s t) ∧ mG (mBringTo s t) ∧ mBringTo s t 0 = s 0 ∧ mBringTo s t 28 = s 28
  | 0 => ⟨h, hG, rfl, rfl⟩
  | t + 1 => by
    obtain ⟨h1, h2, h3, h3b⟩ := mBringTo_sim h hX hQ hG t
    obtain ⟨h4, h5, -⟩ := mBringTo_I hX hQ t
    obtain ⟨h6, h7, h8, h8b⟩ := mStep_sim h1 h4 h5 h2
    exact ⟨h6, h7, h8.trans h3, h8b.trans h3b⟩
theorem mBring_sim {M : kN} {s : kS} (h : kSim M s) (hX : mX s) (hQ : mQ s) (hG : mG s) : kSim (cBring M) (mBring s) ∧ mG (mBring s) ∧ mBring s 0 = s 0 ∧ mBring s 28 = s 28 := by
  unfold cBring
  rw [(kSim_n h).2.2.2]
  exact mBringTo_sim h hX hQ hG _
