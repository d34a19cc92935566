/-! cane is lost, and brought -/
theorem sPur_m {M : kN} {s : kS} {nF nS nY f : Nat} (h : kSm nF nS nY M s) (hf : f < nF) : sPur (M 9 f) (M 8 f) (M 19 0) (M 0 4) = mPur s f := by
  have e2 := h.fd (f := f) (i := 2) hf (by omega)
  have e3 := h.fd (f := f) (i := 3) hf (by omega)
  have e7 := h.se (k := 4) (by omega)
  rw [h.now, show M 9 f = s (56 + 8 * f + 3) from e3, show M 8 f = s (56 + 8 * f + 2) from e2, show M 0 4 = s 7 from e7]
  unfold sPur mPur
  have z : ∀ x : Int32, kmax 0 x = if x ≤ 0 then 0 else x := fun x => by
    unfold kmax
    by_cases c : (0 : Int32) < x
    · rw [if_pos c, if_neg (Int32.not_le.mpr c)]
    · rw [if_neg c, if_pos (Int32.not_lt.mp c)]
  rw [z, z]
  by_cases c : s 0 - s (56 + 8 * f + 3) ≤ 0
  · rw [if_pos c, if_pos c, Int32.mul_zero]
  · rw [if_neg c, if_neg c]
theorem cHow_m {M : kN} {s : kS} {nF nS nY f : Nat} (h : kSm nF nS nY M s) (hf : f < nF) : cHow M f (M 19 0) = mHow s f := by
  have e3 := h.fd (f := f) (i := 3) hf (by omega)
  have e4 := h.fd (f := f) (i := 4) hf (by omega)
  have e7 := h.fd (f := f) (i := 7) hf (by omega)
  unfold cHow mHow
  rw [h.now, show M 9 f = s (56 + 8 * f + 3) from e3, show M 10 f = s (56 + 8 * f + 4) from e4, show M 13 f = s (56 + 8 * f + 7) from e7]
theorem sHow_1 {now b on g : Int32} : sHow now b on g = 1 ↔ b ≤ now ∧ ¬ on ≤ 0 := by
  unfold sHow
  split
  · split
    · rename_i h1 h2
      constructor
      · intro z; split at z <;> exact absurd z (by decide)
      · intro z; exact absurd h2 z.2
    · rename_i h1 h2
      exact ⟨fun _ => ⟨h1, h2⟩, fun _ => rfl⟩
  · rename_i h1
    exact ⟨fun z => absurd z (by decide), fun z => absurd z.1 h1⟩
theorem sM_self {M : kN} {q k : Nat} {v : Int32} (h : M q k = v) : sM M q k v = M := sM_id h
theorem i_zero {x : Int32} (h : x ≤ 0) (h0 : 0 ≤ x.toInt) : x = 0 := by
  rw [i_le, i_0] at h
  exact Int32.toInt_inj.mp (by rw [i_0]; omega)
theorem mLoseStep_sim {M : kN} {s : kS} {f : Nat} {b : Int} (h : kSim M s) (hX : mX s) (hG : mG s) (hN : mNw s b) (hb : b ≤ 1000000) (hf : f < mF s) : kSim (cLoseStep M f) (mLoseStep s f) := by
  have h30 := hX.f30
  have h5 := hX.s5
  obtain ⟨⟨g1, g2⟩, g3, g4, g5⟩ := hG
  obtain ⟨⟨b1, b2⟩, o1⟩ := g3 f hf
  have e3 : M 9 f = s (56 + 8 * f + 3) := h.1.fd (i := 3) hf (by omega)
  have e4 : M 10 f = s (56 + 8 * f + 4) := h.1.fd (i := 4) hf (by omega)
  have e7 : M 13 f = s (56 + 8 * f + 7) := h.1.fd (i := 7) hf (by omega)
  have e5 : M 0 5 = s 8 := h.1.se (k := 5) (by omega)
  have eg := kSm_gr h.1 hf
  have hg := (hX.g hf).2
  unfold cLoseStep mLoseStep
  rw [h.1.now, e3, e5]
  by_cases c : s 0 - s (56 + 8 * f + 3) ≤ s 8
  · rw [if_pos c, if_pos c]
    split <;> exact h
  · rw [if_neg c, if_neg c]
    have hn := hN.1
    have hn2 := hN.2
    have hle : s (56 + 8 * f + 3) ≤ s 0 := by
      rw [i_le] at c ⊢
      rw [i_sub (by omega) (by omega)] at c
      omega
    by_cases c2 : s (56 + 8 * f + 4) ≤ 0
    · have hz := i_zero c2 o1
      have hh : ¬ mHow s f = 1 := fun z => absurd c2 (sHow_1.mp z).2
      rw [if_neg hh]
      have e : sM (cLoseCane M f) 4 (gr M f) (M 4 (gr M f) + M 10 f) = M := by
        unfold cLoseCane
        rw [e4, hz, Int32.add_zero, Int32.add_zero, sM_id (q := 13) rfl, sM_id (q := 10) (by rw [e4, hz])]
        exact sM_id rfl
      rw [e]
      exact h
    · have hh : mHow s f = 1 := sHow_1.mpr ⟨hle, c2⟩
      rw [if_pos hh]
      unfold cLoseCane mLost
      rw [eg, e4, e7, sM_comm (q := 13) (q' := 10) (by decide)]
      have q1 : M 4 (mg s f) = s (32 + 4 * mg s f + 2) := h.1.gw (i := 2) hg (by omega)
      have x7 : upd s (56 + 8 * f + 4) 0 (56 + 8 * f + 7) = s (56 + 8 * f + 7) := upd_o (by omega)
      have x28 : upd (upd s (56 + 8 * f + 4) 0) (56 + 8 * f + 7) (s (56 + 8 * f + 7) + s (56 + 8 * f + 4)) 28 = s 28 := by rw [upd_o (by omega), upd_o (by omega)]
      rw [x7, x28]
      have x32 : upd (upd (upd s (56 + 8 * f + 4) 0) (56 + 8 * f + 7) (s (56 + 8 * f + 7) + s (56 + 8 * f + 4))) 28 (s 28 + s (56 + 8 * f + 4)) (32 + 4 * mg s f + 2) = s (32 + 4 * mg s f + 2) := by rw [upd_o (by omega), upd_o (by omega), upd_o (by omega)]
      rw [x32, q1]
      have k1 := h.1.put h30 h5 10 f (56 + 8 * f + 4) (v := 0) (w := 0) (kRl_fd 4 (by omega) (by omega)) rfl
      have k2 := k1.put h30 h5 13 f (56 + 8 * f + 7) (v := s (56 + 8 * f + 7) + s (56 + 8 * f + 4)) (kRl_fd 7 (by omega) (by omega)) rfl
      have k3 := k2.putR (j := 28) (w := s 28 + s (56 + 8 * f + 4)) (kRl_no h30 h5 (by omega))
      have k4 := k3.put h30 h5 4 (mg s f) (32 + 4 * mg s f + 2) (v := s (32 + 4 * mg s f + 2) + s (56 + 8 * f + 4)) (kRl_gw 2 (by omega) (by omega)) rfl
      have y : ∀ j, j = 1 ∨ j = 2 ∨ 296 ≤ j ∨ j = 26 ∨ j = 29 → upd (upd (upd (upd s (56 + 8 * f + 4) 0) (56 + 8 * f + 7) (s (56 + 8 * f + 7) + s (56 + 8 * f + 4))) 28 (s 28 + s (56 + 8 * f + 4))) (32 + 4 * mg s f + 2) (s (32 + 4 * mg s f + 2) + s (56 + 8 * f + 4)) j = s j := fun j hj => by rw [upd_o (by omega), upd_o (by omega), upd_o (by omega), upd_o (by omega)]
      have z28 : upd (upd (upd (upd s (56 + 8 * f + 4) 0) (56 + 8 * f + 7) (s (56 + 8 * f + 7) + s (56 + 8 * f + 4))) 28 (s 28 + s (56 + 8 * f + 4))) (32 + 4 * mg s f + 2) (s (32 + 4 * mg s f + 2) + s (56 + 8 * f + 4)) 28 = s 28 + s (56 + 8 * f + 4) := by rw [upd_o (by omega), upd_s]
      generalize upd (upd (upd (upd s (56 + 8 * f + 4) 0) (56 + 8 * f + 7) (s (56 + 8 * f + 7) + s (56 + 8 * f + 4))) 28 (s 28 + s (56 + 8 * f + 4))) (32 + 4 * mg s f + 2) (s (32 + 4 * mg s f + 2) + s (56 + 8 * f + 4)) = u at k4 y z28
      have eF : mF u = mF s := by unfold mF; rw [y 1 (by omega)]
      have eS : mS u = mS s := by unfold mS; rw [y 2 (by omega)]
      have eY : mY u = mY s := by unfold mY; rw [y 296 (by omega)]
      obtain ⟨t1, t2, t3, t4⟩ := h.2
      refine ⟨by rw [eF, eS, eY]; exact k4, ?_, ?_, ?_, ?_⟩
      · rw [eY, mYd_cong _ (fun k _ => y _ (by omega))]; exact t1
      · rw [y 26 (by omega)]; exact t2
      · rw [z28]
        show sTo (upd (M 4) (mg s f) (s (32 + 4 * mg s f + 2) + s (56 + 8 * f + 4))) 6 = _
        rw [← q1, sTo_upd, if_pos hg, t3]
      · rw [y 29 (by omega)]; exact t4
/-- what a day's losing keeps: ranges; what was lost grows, what is on the fields with it does not -/
theorem mLoseStep_G {s : kS} {f : Nat} (hX : mX s) (hG : mG s) (hf : f < mF s) : mG (mLoseStep s f) ∧ (s 28).toInt ≤ (mLoseStep s f 28).toInt := by
  have h30 := hX.f30
  obtain ⟨⟨g1, g2⟩, g3, g4, g5⟩ := id hG
  have hg := (hX.g hf).2
  unfold mLoseStep
  split
  · split
    · exact ⟨hG, Int.le_refl _⟩
    · obtain ⟨ge0, ge1⟩ := mOn_ge (mF s) (fun f hf => (g3 f hf).2)
      have hle := ge1 f hf
      have o1 := (g3 f hf).2
      have x28 : (s 28 + s (56 + 8 * f + 4)).toInt = (s 28).toInt + (s (56 + 8 * f + 4)).toInt := i_add (by omega) (by omega)
      have y : ∀ j, (j < 28 ∨ 56 ≤ j) → j ≠ 56 + 8 * f + 4 → j ≠ 56 + 8 * f + 7 → upd (mLost s f) (32 + 4 * mg s f + 2) (mLost s f (32 + 4 * mg s f + 2) + s (56 + 8 * f + 4)) j = s j := fun j h1 h2 h3 => by
        rw [upd_o (by omega), mLost_at (by omega) h2 h3 (by omega)]
      have z28 : upd (mLost s f) (32 + 4 * mg s f + 2) (mLost s f (32 + 4 * mg s f + 2) + s (56 + 8 * f + 4)) 28 = s 28 + s (56 + 8 * f + 4) := by
        rw [upd_o (by omega)]
        unfold mLost
        rw [upd_s, upd_o (by omega), upd_o (by omega)]
      have z4 : ∀ n, mOn (upd (mLost s f) (32 + 4 * mg s f + 2) (mLost s f (32 + 4 * mg s f + 2) + s (56 + 8 * f + 4))) n = mOn (upd s (56 + 8 * f + 4) 0) n := fun n => mOn_cong n (fun j hj => by
        rw [upd_o (by omega)]
        unfold mLost
        rw [upd_o (by omega), upd_o (by omega)])
      have z4' : upd (mLost s f) (32 + 4 * mg s f + 2) (mLost s f (32 + 4 * mg s f + 2) + s (56 + 8 * f + 4)) (56 + 8 * f + 4) = 0 := by
        rw [upd_o (by omega)]
        unfold mLost
        rw [upd_o (by omega), upd_o (by omega), upd_s]
      generalize upd (mLost s f) (32 + 4 * mg s f + 2) (mLost s f (32 + 4 * mg s f + 2) + s (56 + 8 * f + 4)) = u at y z28 z4 z4'
      have eF : mF u = mF s := by unfold mF; rw [y 1 (by omega) (by omega) (by omega)]
      refine ⟨⟨⟨by rw [y 6 (by omega) (by omega) (by omega)]; exact g1, by rw [y 8 (by omega) (by omega) (by omega)]; exact g2⟩, fun j hj => ?_, ?_, ?_⟩, ?_⟩
      · rw [eF] at hj
        rw [y (56 + 8 * j + 3) (by omega) (by omega) (by omega)]
        refine ⟨(g3 j hj).1, ?_⟩
        by_cases c : j = f
        · subst c; rw [z4', i_0]; exact Int.le_refl _
        · rw [y (56 + 8 * j + 4) (by omega) (by omega) (by omega)]; exact (g3 j hj).2
      · rw [z28, x28]; omega
      · rw [eF, z4, mOn_upd, if_pos hf, i_0, z28, x28]
        omega
      · rw [z28, x28]; omega
  · exact ⟨hG, Int.le_refl _⟩
theorem mLoseTo_sim {M : kN} {s : kS} {b : Int} (h : kSim M s) (hX : mX s) (hG : mG s) (hN : mNw s b) (hb : b ≤ 1000000) : ∀ k, k ≤ mF s → kSim (cLoseTo M k) (mLoseTo s k) ∧ mG (mLoseTo s k) ∧ mLoseTo s k 0 = s 0 ∧ (s 28).toInt ≤ (mLoseTo s k 28).toInt
  | 0, _ => ⟨h, hG, rfl, Int.le_refl _⟩
  | k + 1, hk => by
    obtain ⟨h1, h2, h3, h3b⟩ := mLoseTo_sim h hX hG hN hb k (by omega)
    obtain ⟨h4, h5⟩ := mLoseTo_X hX k (by omega)
    have h30 := hX.f30
    obtain ⟨h6, h7⟩ := mLoseStep_G h4 h2 (f := k) (by omega)
    refine ⟨mLoseStep_sim (b := b) h1 h4 h2 ?_ hb (by omega), h6, ?_, Int.le_trans h3b h7⟩
    · unfold mNw; rw [h3]; exact hN
    · show mLoseStep (mLoseTo s k) k 0 = _
      rw [mLoseStep_at (by omega) (h4.g (by omega)).2 (by omega) (by omega) (by omega) (by omega), h3]
theorem mLose_sim {M : kN} {s : kS} {b : Int} (h : kSim M s) (hX : mX s) (hG : mG s) (hN : mNw s b) (hb : b ≤ 1000000) : kSim (cLose M) (mLose s) ∧ mG (mLose s) ∧ mLose s 0 = s 0 ∧ (s 28).toInt ≤ (mLose s 28).toInt := by
  have := mLoseTo_sim h hX hG hN hb (mF s) (Nat.le_refl _)
  unfold cLose
  rw [(kSim_n h).1]
  exact this
theorem mAhead_m {M : kN} {s : kS} {f g : Nat} (h : kSim M s) (hX : mX s) (hG : mG s) (hf : f < mF s) (hg : g < mF s) : pAheadM M f g ↔ mAheadP s f g := by
  have e1 : M 9 f = s (56 + 8 * f + 3) := h.1.fd (i := 3) hf (by omega)
  have e2 : M 9 g = s (56 + 8 * g + 3) := h.1.fd (i := 3) hg (by omega)
  have e3 : M 1 (mg s f) = s (10 + mg s f) := h.1.qu (hX.g hf).2
  have e4 : M 1 (mg s g) = s (10 + mg s g) := h.1.qu (hX.g hg).2
  unfold pAheadM mAheadP pAhead
  rw [kSm_gr h.1 hf, kSm_gr h.1 hg, e1, e2, e3, e4]
  obtain ⟨⟨b1, b2⟩, -⟩ := hG.2.1 f hf
  obtain ⟨⟨b3, b4⟩, -⟩ := hG.2.1 g hg
  have d : (s (56 + 8 * f + 3) - s (56 + 8 * g + 3)).toInt = (s (56 + 8 * f + 3)).toInt - (s (56 + 8 * g + 3)).toInt := i_sub (by omega) (by omega)
  have d1 : s (56 + 8 * f + 3) - s (56 + 8 * g + 3) < 0 ↔ s (56 + 8 * f + 3) < s (56 + 8 * g + 3) := by
    rw [i_lt, i_lt, d, i_0]; omega
  rw [i_sub0, d1]
  constructor
  · rintro (⟨z1, z2⟩ | ⟨z1, z2⟩)
    · exact Or.inr ⟨z1, z2⟩
    · exact Or.inl z2
  · rintro (z | ⟨z1, z2⟩)
    · exact Or.inr ⟨fun q => by rw [q] at z; exact Int32.lt_irrefl z, z⟩
    · exact Or.inl ⟨z1, z2⟩
theorem mBest_m {M : kN} {s : kS} (h : kSim M s) (hX : mX s) (hG : mG s) : ∀ k, k ≤ mF s → cBest M k = mBest s k
  | 0, _ => rfl
  | k + 1, hk => by
    have ih := mBest_m h hX hG k (by omega)
    have hkf : k < mF s := by omega
    have e3 : M 1 (mg s k) = s (10 + mg s k) := h.1.qu (hX.g hkf).2
    have hc : pCan M k ↔ mCan s k := by
      unfold pCan mCan
      rw [cHow_m h.1 hkf, kSm_gr h.1 hkf, e3]
    unfold cBest mBest
    rw [ih]
    by_cases c : mCan s k
    · rw [if_pos c, if_pos (hc.mpr c)]
      unfold cBetter mBetter
      cases hb : mBest s k with
      | none => rfl
      | some g =>
        have := (mBest_can hb).1
        have ha := mAhead_m h hX hG (f := k) (g := g) hkf (by omega)
        dsimp only
        by_cases c2 : mAheadP s k g
        · rw [if_pos c2, if_pos (ha.mpr c2)]
        · rw [if_neg c2, if_neg (fun z => c2 (ha.mp z))]
    · rw [if_neg c, if_neg (fun z => c (hc.mp z))]
theorem mNextO_m {M : kN} {s : kS} (h : kSim M s) (hX : mX s) (hQ : mQ s) (hG : mG s) : cNextO M = mNextO s ∧ (¬ s 6 ≤ mYd s (mY s) → cRoom M = s 6 - mYd s (mY s) ∧ mY s < 400) := by
  obtain ⟨⟨q1, q2⟩, q3, q4⟩ := hQ
  obtain ⟨y1, y2⟩ := mYd_sum (mY s) q3 q4
  have hge := mSum_ge (mY s) q3
  have h400 := hX.y400
  have eb := mBest_m h hX hG (mF s) (Nat.le_refl _)
  have er : cRoom M = if 400 ≤ mY s then 0 else s 6 - mYd s (mY s) := by
    unfold cRoom
    have e6 : M 0 3 = s 6 := h.1.se (k := 3) (by omega)
    rw [h.1.cY, e6, h.2.1, hX.y]
    by_cases c : 400 ≤ mY s
    · rw [if_pos c, if_pos (show (400 : Int32) ≤ nI (mY s) from (nI_leI (a := 400) (b := mY s) (by omega) (by omega)).mpr c)]
    · rw [if_neg c, if_neg (fun (z : (400 : Int32) ≤ nI (mY s)) => c ((nI_leI (a := 400) (b := mY s) (by omega) (by omega)).mp z))]
  have g1 := hG.1.1
  have ed : (s 6 - mYd s (mY s)).toInt = (s 6).toInt - mSum s (mY s) := by rw [i_sub (by rw [y1]; omega) (by rw [y1]; omega), y1]
  refine ⟨?_, fun hc => ?_⟩
  · unfold cNextO mNextO
    rw [er, (kSim_n h).1, eb]
    by_cases c : s 6 ≤ mYd s (mY s)
    · rw [if_pos c, if_neg]
      intro z
      rw [i_le, y1] at c
      split at z
      · exact absurd z (by decide)
      · rw [i_lt, ed, i_0] at z; omega
    · rw [if_neg c]
      rw [i_le, y1] at c
      rw [if_neg (show ¬ 400 ≤ mY s by omega), if_pos]
      rw [i_lt, ed, i_0]; omega
  · rw [i_le, y1] at hc
    refine ⟨?_, by omega⟩
    rw [er, if_neg (by omega)]
theorem kmin_m (a b : Int32) : kmin a b = mLeast a b := by
  unfold kmin mLeast
  by_cases c : b < a
  · rw [if_pos c, if_pos (Int32.le_of_lt c)]
  · rw [if_neg c]
    by_cases c2 : b ≤ a
    · rw [if_pos c2]; exact Int32.le_antisymm (Int32.not_lt.mp c) c2
    · rw [if_neg c2]
theorem kSm.queue {nF nS nY : Nat} {M : kN} {s : kS} (h : kSm nF nS nY M s) (hF : nF ≤ 30) (hS : nS ≤ 5) (a b c : Int32) : kSm nF nS (nY + 1) (sM (sM (sM M 16 nY a) 17 nY b) 18 nY c) (upd (upd (upd s (297 + 3 * nY) a) (297 + 3 * nY + 1) b) (297 + 3 * nY + 2) c) := by
  intro q k j hj
  rw [sM_at, sM_at, sM_at]
  by_cases c0 : 16 ≤ q ∧ q < 19 ∧ k = nY
  · have n1 : k = nY ∧ ((q = 16 ∧ j = 297 + 3 * nY) ∨ (q = 17 ∧ j = 297 + 3 * nY + 1) ∨ (q = 18 ∧ j = 297 + 3 * nY + 2)) := by
      rcases hj with hj | hj | hj | hj | hj | hj | ⟨hj0, hj | hj | hj | hj | hj | hj | hj⟩ <;> omega
    obtain ⟨rfl, ⟨rfl, rfl⟩ | ⟨rfl, rfl⟩ | ⟨rfl, rfl⟩⟩ := n1
    · rw [if_neg (by omega), if_neg (by omega), if_pos ⟨rfl, rfl⟩, upd_o (by omega), upd_o (by omega), upd_s]
    · rw [if_neg (by omega), if_pos ⟨rfl, rfl⟩, upd_o (by omega), upd_s]
    · rw [if_pos ⟨rfl, rfl⟩, upd_s]
  · have c1 : kRl nF nS nY q k j := kRl_dn hj (fun _ _ _ => by omega) (fun _ _ _ => by omega) (fun _ _ _ => by omega)
    have n1 : j ≠ 297 + 3 * nY ∧ j ≠ 297 + 3 * nY + 1 ∧ j ≠ 297 + 3 * nY + 2 := by
      rcases c1 with c1 | c1 | c1 | c1 | c1 | c1 | ⟨c10, c1 | c1 | c1 | c1 | c1 | c1 | c1⟩ <;> omega
    rw [if_neg (by omega), if_neg (by omega), if_neg (by omega), upd_o n1.2.2, upd_o n1.2.1, upd_o n1.1]
    exact h q k j c1
