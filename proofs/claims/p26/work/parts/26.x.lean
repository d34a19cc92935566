theorem mComes_at {s : kS} {g t p b : Int32} (j : Nat) : mComes s g t p b j = if j = 1 then nI (mF s + 1) else (if j = 56 + 8 * mF s + 4 then t else (if j = 56 + 8 * mF s + 3 then b else (if j = 56 + 8 * mF s + 2 then p else (if j = 56 + 8 * mF s + 1 then t else (if j = 56 + 8 * mF s + 0 then g else (if 56 + 8 * mF s ≤ j ∧ j < 56 + 8 * mF s + 8 then 0 else s j)))))) := by
  unfold mComes mComesRow
  simp only [upd, mZero_at]
theorem mComes_X {s : kS} (h : mX s) {g t p b : Int32} (hg : pIn g 0 5) (hF : mF s < 30) : mX (mComes s g t p b) ∧ mF (mComes s g t p b) = mF s + 1 := by
  have e := fun j => mComes_at (s := s) (g := g) (t := t) (p := p) (b := b) j
  have eF : mF (mComes s g t p b) = mF s + 1 := by
    show (mComes s g t p b 1).toNatClampNeg = _
    rw [e, if_pos rfl]
    exact nI_clamp (by omega)
  have lo : ∀ j, j ≠ 1 → (j < 56 + 8 * mF s ∨ 56 + 8 * mF s + 8 ≤ j) → mComes s g t p b j = s j := fun j h1 h2 => by
    rw [e, if_neg h1, if_neg (by omega), if_neg (by omega), if_neg (by omega), if_neg (by omega), if_neg (by omega), if_neg (by omega)]
  have eS : mS (mComes s g t p b) = mS s := by unfold mS; rw [lo 2 (by omega) (by omega)]
  have eT : mT (mComes s g t p b) = mT s := by unfold mT; rw [lo 3 (by omega) (by omega)]
  have eY : mY (mComes s g t p b) = mY s := by unfold mY; rw [lo 296 (by omega) (by omega)]
  obtain ⟨j, rfl, j0, j5⟩ := pIn_nat hg (show (0 : Int32) = nI 0 from rfl) (show (5 : Int32) = nI 5 from rfl) (by omega) (by omega)
  refine ⟨⟨?_, ?_, ?_, ?_, ?_, ?_⟩, eF⟩
  · rw [eF, e, if_pos rfl]; exact ⟨rfl, by omega⟩
  · rw [eS, lo 2 (by omega) (by omega)]; exact h.2.1
  · rw [eY, lo 296 (by omega) (by omega)]; exact h.2.2.1
  · rw [eT, lo 3 (by omega) (by omega)]; exact h.2.2.2.1
  · intro f hf
    rw [eF] at hf
    unfold mg
    by_cases hf2 : f = mF s
    · subst hf2
      rw [e, if_neg (by omega), if_neg (by omega), if_neg (by omega), if_neg (by omega), if_neg (by omega), if_pos rfl]
      rw [nI_clamp (by omega)]
      exact ⟨rfl, by omega⟩
    · rw [lo _ (by omega) (by omega)]
      exact h.g (by omega)
  · intro k hk
    rw [eY] at hk
    unfold ml
    rw [lo _ (by omega) (by omega), eF]
    have := h.l hk
    exact ⟨this.1, by have := this.2; unfold ml at this; omega⟩
theorem mComes_Q {s : kS} (h : mQ s) {g t p b : Int32} (hF : mF s < 30) : mQ (mComes s g t p b) := h.of (fun j hj => by
  rw [mComes_at, if_neg (by omega), if_neg (by omega), if_neg (by omega), if_neg (by omega), if_neg (by omega), if_neg (by omega), if_neg (by omega)])
theorem mStops_at {s : kS} {f l : Int32} (j : Nat) : mStops s f l j = if j = 2 then nI (mS s + 1) else (if j = 16 + 2 * mS s + 1 then l else (if j = 16 + 2 * mS s then f else s j)) := by
  unfold mStops
  simp only [upd]
theorem mStops_X {s : kS} (h : mX s) {f l : Int32} (hS : mS s < 5) : mX (mStops s f l) ∧ mS (mStops s f l) = mS s + 1 := by
  have e := fun j => mStops_at (s := s) (f := f) (l := l) j
  have eS : mS (mStops s f l) = mS s + 1 := by
    show (mStops s f l 2).toNatClampNeg = _
    rw [e, if_pos rfl]
    exact nI_clamp (by omega)
  have lo : ∀ j, j ≠ 2 → (j < 16 ∨ 26 ≤ j) → mStops s f l j = s j := fun j h1 h2 => by
    rw [e, if_neg h1, if_neg (by omega), if_neg (by omega)]
  have eF : mF (mStops s f l) = mF s := by unfold mF; rw [lo 1 (by omega) (by omega)]
  have eT : mT (mStops s f l) = mT s := by unfold mT; rw [lo 3 (by omega) (by omega)]
  have eY : mY (mStops s f l) = mY s := by unfold mY; rw [lo 296 (by omega) (by omega)]
  refine ⟨⟨?_, ?_, ?_, ?_, ?_, ?_⟩, eS⟩
  · rw [eF, lo 1 (by omega) (by omega)]; exact h.1
  · rw [eS, e, if_pos rfl]; exact ⟨rfl, by omega⟩
  · rw [eY, lo 296 (by omega) (by omega)]; exact h.2.2.1
  · rw [eT, lo 3 (by omega) (by omega)]; exact h.2.2.2.1
  · intro g hg
    have h30 := h.f30
    rw [eF] at hg
    unfold mg
    rw [lo _ (by omega) (by omega)]
    exact h.g hg
  · intro k hk
    rw [eY] at hk
    unfold ml
    rw [lo _ (by omega) (by omega), eF]
    exact h.l hk
theorem mStops_Q {s : kS} (h : mQ s) {f l : Int32} (hS : mS s < 5) : mQ (mStops s f l) := h.of (fun j hj => by
  rw [mStops_at, if_neg (by omega), if_neg (by omega), if_neg (by omega)])
theorem mKx_q {g : Nat} (h : g < 6) : ¬ mKx (10 + g) := fun z => by have := (mKx_no z).2.1 (by omega); omega
theorem mLendRow_I {s : kS} (h : mX s) (hQ : mQ s) {g o : Nat} {t : Int32} (hg : g < 6) (ho : o < 6) : mX (mLendRow s g o t) ∧ mQ (mLendRow s g o t) := ⟨mX_upd (mX_upd h (mKx_q hg)) (mKx_q ho), mQ_upd (mQ_upd hQ (by omega) (by omega) (by omega)) (by omega) (by omega) (by omega)⟩
theorem pIn_n5 {g : Int32} (h : pIn g 0 5) : g.toNatClampNeg < 6 := by
  obtain ⟨j, rfl, j0, j5⟩ := pIn_nat h (show (0 : Int32) = nI 0 from rfl) (show (5 : Int32) = nI 5 from rfl) (by omega) (by omega)
  rw [nI_clamp (by omega)]
  omega
theorem mAct_I {s : kS} (h : mX s) (hQ : mQ s) {k a b c d : Int32} (hm : mMayDo s k a b c d = 0) : mX (mAct s k a b c d) ∧ mQ (mAct s k a b c d) := by
  unfold mMayDo at hm
  unfold mAct
  split
  · rename_i c1
    rw [if_pos c1] at hm
    have h1 := mMayCome_0 hm
    have h30 := h.f30
    exact ⟨(mComes_X h h1.1 (by have := h1.2.2.2.2; omega)).1, mComes_Q hQ (by have := h1.2.2.2.2; omega)⟩
  · rename_i c1
    rw [if_neg c1] at hm
    split
    · rename_i c2
      rw [if_pos c2] at hm
      have h1 := mMayLend_0 hm
      exact mLendRow_I h hQ (pIn_n5 h1.1) (pIn_n5 h1.2)
    · rename_i c2
      rw [if_neg c2] at hm
      split
      · rename_i c3
        rw [if_pos c3] at hm
        have h1 := pIn_n5 (mMayQuota_0 hm).1
        exact ⟨mX_upd h (mKx_q h1), mQ_upd hQ (by omega) (by omega) (by omega)⟩
      · rename_i c3
        rw [if_neg c3] at hm
        split
        · rename_i c4
          rw [if_pos c4] at hm
          have h1 := (mMayStop_0 hm).2.2
          have h5 := h.s5
          exact ⟨(mStops_X h (by omega)).1, mStops_Q hQ (by omega)⟩
        · exact mDays_I h hQ _ _
