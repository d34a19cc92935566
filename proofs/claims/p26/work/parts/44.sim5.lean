/-! a day, days -/
def mKp (j : Nat) : Prop := j < 26 ∨ j = 28 ∨ j = 30 ∨ j = 31 ∨ ∃ f, f < 30 ∧ (j = 56 + 8 * f + 3 ∨ j = 56 + 8 * f + 4)
theorem mMillStep_kp {x : kS × Int32 × Nat} (hX : mX x.1) (hk : ∀ k, k < mY x.1 → x.2.2 < mY x.1 ∨ mY x.1 ≤ x.2.2) {j : Nat} (hj : mKp j) : (mMillStep x).1 j = x.1 j := by
  unfold mMillStep
  split
  · rfl
  · split
    · rfl
    · rename_i c1 c2
      have h2 := (hX.l (k := x.2.2) (by omega)).2
      have hg := (hX.g h2).2
      have h30 := hX.f30
      have hj2 : j < 296 ∧ (∀ f, f < 30 → j ≠ 56 + 8 * f + 5 ∧ j ≠ 56 + 8 * f + 6) ∧ j ≠ 26 ∧ j ≠ 27 ∧ j ≠ 29 ∧ (j < 32 ∨ 56 ≤ j) := by
        rcases hj with h | h | h | h | ⟨f, hf, h | h⟩
        · exact ⟨by omega, fun f _ => by omega, by omega, by omega, by omega, by omega⟩
        · exact ⟨by omega, fun f _ => by omega, by omega, by omega, by omega, by omega⟩
        · exact ⟨by omega, fun f _ => by omega, by omega, by omega, by omega, by omega⟩
        · exact ⟨by omega, fun f _ => by omega, by omega, by omega, by omega, by omega⟩
        · exact ⟨by omega, fun f _ => by omega, by omega, by omega, by omega, by omega⟩
        · exact ⟨by omega, fun f _ => by omega, by omega, by omega, by omega, by omega⟩
      obtain ⟨z1, z2, z3, z4, z5, z6⟩ := hj2
      have z2' := z2 (ml x.1 x.2.2) (by omega)
      dsimp only
      rw [upd_o (by omega), mCrushes_at hg z2'.1 z2'.2 z3 z4 z5 z6]
theorem mMillTo_kp {s : kS} (hX : mX s) {j : Nat} (hj : mKp j) : ∀ i, (mMillTo s i).1 j = s j
  | 0 => rfl
  | i + 1 => by
    have ih := mMillTo_kp hX hj i
    rcases mMillTo_I hX i with h1 | ⟨n, h1, h2, h3⟩
    · have := mMillStep_kp (x := mMillTo s i) h1.1 (fun k _ => by omega) hj
      exact this.trans ih
    · have e1 := mMillTo_stop h3 (i - n)
      have e2 := mMillTo_stop h3 (i + 1 - n)
      rw [show n + (i - n) = i by omega] at e1
      rw [show n + (i + 1 - n) = i + 1 by omega] at e2
      rw [e2, ← e1]
      exact ih
theorem mMills_kp {s : kS} (hX : mX s) {j : Nat} (hj : mKp j) : mMills s j = s j := by
  unfold mMills
  rw [mDropped_at]
  have : j < 296 := by
    rcases hj with h | h | h | h | ⟨f, hf, h | h⟩ <;> omega
  rw [if_neg (by omega), if_neg (by omega)]
  exact mMillTo_kp hX hj _
theorem mG_kp {s u : kS} (hG : mG s) (hX : mX s) (e : ∀ j, mKp j → j ≠ 31 → j ≠ 0 → u j = s j) : mG u := by
  obtain ⟨⟨g1, g2⟩, g3, g4, g5⟩ := hG
  have h30 := hX.f30
  have e1 : mF u = mF s := by unfold mF; rw [e 1 (Or.inl (by omega)) (by omega) (by omega)]
  have e28 := e 28 (Or.inr (Or.inl rfl)) (by omega) (by omega)
  have e3 : ∀ f, f < 30 → u (56 + 8 * f + 3) = s (56 + 8 * f + 3) := fun f hf => e _ (Or.inr (Or.inr (Or.inr (Or.inr ⟨f, hf, Or.inl rfl⟩)))) (by omega) (by omega)
  have e4 : ∀ f, f < 30 → u (56 + 8 * f + 4) = s (56 + 8 * f + 4) := fun f hf => e _ (Or.inr (Or.inr (Or.inr (Or.inr ⟨f, hf, Or.inr rfl⟩)))) (by omega) (by omega)
  refine ⟨⟨by rw [e 6 (Or.inl (by omega)) (by omega) (by omega)]; exact g1, by rw [e 8 (Or.inl (by omega)) (by omega) (by omega)]; exact g2⟩, fun f hf => ?_, by rw [e28]; exact g4, ?_⟩
  · rw [e1] at hf
    rw [e3 f (by omega), e4 f (by omega)]
    exact g3 f hf
  · rw [e1, e28, mOn_cong _ (fun f hf => e4 f (by omega))]
    exact g5
theorem cStopTo_m {M : kN} {s : kS} (h : kSim M s) : ∀ k, k ≤ mS s → cStopTo M (M 19 0) k = mStopTo s k
  | 0, _ => rfl
  | k + 1, hk => by
    have e0 : M 14 k = s (16 + 2 * k) := h.1.st (k := k) (i := 0) (by omega) (by omega)
    have e1 : M 15 k = s (16 + 2 * k + 1) := h.1.st (k := k) (i := 1) (by omega) (by omega)
    unfold cStopTo mStopTo
    rw [cStopTo_m h k (by omega), e0, e1, h.1.now]
theorem cStopped_m {M : kN} {s : kS} (h : kSim M s) : cStopped M (M 19 0) = mStopped s := by
  unfold cStopped mStopped
  rw [(kSim_n h).2.1]
  exact cStopTo_m h _ (Nat.le_refl _)
theorem mRest_sim {M : kN} {s : kS} (h : kSim M s) (hX : mX s) (hG : mG s) (P : Prop) [Decidable P] : kSim (cRest M P) (mRest s P) ∧ mG (mRest s P) ∧ mRest s P 0 = s 0 ∧ mRest s P 28 = s 28 := by
  unfold cRest mRest
  rw [cStopped_m h]
  by_cases c : P ∨ mStopped s = true
  · rw [if_pos c, if_pos c]
    have k1 := h.1.put hX.f30 hX.s5 19 3 31 (v := M 19 3 + 1) (w := s 31 + 1) (kRl_3) (by rw [h.1.idl])
    obtain ⟨t1, t2, t3, t4⟩ := h.2
    exact ⟨⟨k1, by rw [mYd_cong _ (fun k _ => upd_o (by omega))]; exact t1, t2, t3, t4⟩, mG_kp hG hX (fun j _ h31 _ => upd_o h31), upd_o (by omega), upd_o (by omega)⟩
  · rw [if_neg c, if_neg c]
    exact ⟨mMills_sim h hX, mG_kp hG hX (fun j hj _ _ => mMills_kp hX hj), mMills_kp hX (Or.inl (by omega)), mMills_kp hX (Or.inr (Or.inl rfl))⟩
theorem kSim_now {M : kN} {s : kS} (h : kSim M s) (hX : mX s) {v w : Int32} (e : v = w) : kSim (sM M 19 0 v) (upd s 0 w) := by
  have k1 := h.1.put hX.f30 hX.s5 19 0 0 (v := v) (w := w) (kRl_0) e
  obtain ⟨t1, t2, t3, t4⟩ := h.2
  exact ⟨k1, by rw [mYd_cong _ (fun k _ => upd_o (by omega))]; exact t1, t2, t3, t4⟩
theorem mDay_sim {M : kN} {s : kS} {b : Int} (h : kSim M s) (hX : mX s) (hQ : mQ s) (hG : mG s) (hN : mNw s b) (hb : b ≤ 1000000) (P : Prop) [Decidable P] : kSim (cDay M P) (mDay s P) ∧ mG (mDay s P) ∧ mNw (mDay s P) (b + 1) ∧ (s 28).toInt ≤ (mDay s P 28).toInt := by
  obtain ⟨l1, l2, l3, l4⟩ := mLose_sim h hX hG hN hb
  obtain ⟨b1, b2, b3, b4⟩ := mBring_sim l1 (mLose_X hX) (mLose_Q hX hQ) l2
  obtain ⟨x1, x2⟩ := mBring_I (mLose_X hX) (mLose_Q hX hQ)
  obtain ⟨r1, r2, r3, r4⟩ := mRest_sim b1 x1 b2 P
  obtain ⟨y1, y2⟩ := mRest_I x1 x2 P
  unfold cDay mDay
  have e0 : mRest (mBring (mLose s)) P 0 = s 0 := r3.trans (b3.trans l3)
  refine ⟨kSim_now r1 y1 (by rw [r1.1.now]), mG_kp r2 y1 (fun j _ _ h0 => upd_o h0), ?_, ?_⟩
  · unfold mNw
    rw [upd_s, e0]
    obtain ⟨n1, n2⟩ := hN
    have e1 : (1 : Int32).toInt = 1 := by decide
    rw [i_add (by omega) (by omega), e1]
    omega
  · rw [upd_o (by omega), r4, b4]; exact l4
theorem mDays_sim {M : kN} {s : kS} {b : Int} (h : kSim M s) (hX : mX s) (hQ : mQ s) (hG : mG s) (hN : mNw s b) (idle : Int32) : ∀ k : Nat, b + k ≤ 1000000 → kSim (cDays M idle k) (mDays s idle k) ∧ mG (mDays s idle k) ∧ mNw (mDays s idle k) (b + k) ∧ (s 28).toInt ≤ (mDays s idle k 28).toInt
  | 0, _ => ⟨h, hG, by rw [show b + ((0 : Nat) : Int) = b by omega]; exact hN, Int.le_refl _⟩
  | k + 1, hk => by
    obtain ⟨h1, h2, h3, h4⟩ := mDays_sim h hX hQ hG hN idle k (by omega)
    obtain ⟨h5, h6⟩ := mDays_I hX hQ idle k
    obtain ⟨z1, z2, z3, z4⟩ := mDay_sim h1 h5 h6 h2 h3 (by omega) (nI k < idle)
    exact ⟨z1, z2, by rw [show b + ((k + 1 : Nat) : Int) = b + k + 1 by omega]; exact z3, Int.le_trans h4 z4⟩
