theorem mQ.of {s u : kS} (h : mQ s) (e : ∀ j, (j = 4 ∨ j = 6 ∨ j = 296 ∨ 297 ≤ j) → u j = s j) : mQ u := by
  have e4 := e 4 (by omega)
  have e6 := e 6 (by omega)
  have eY : mY u = mY s := by unfold mY; rw [e 296 (by omega)]
  refine ⟨by rw [e4, e6]; exact h.1, fun k hk => ?_, ?_⟩
  · rw [e _ (by omega)]; exact h.2.1 k (by rw [← eY]; exact hk)
  · rw [eY, mSum_cong _ (fun k _ => e _ (by omega))]; exact h.2.2
theorem mLoseTo_Q {s : kS} (h : mX s) (hQ : mQ s) : ∀ k, k ≤ mF s → mQ (mLoseTo s k)
  | 0, _ => hQ
  | k + 1, hk => by
    obtain ⟨h1, h2⟩ := mLoseTo_X h k (by omega)
    have h30 := h.f30
    refine (mLoseTo_Q h hQ k (by omega)).of (fun j hj => mLoseStep_at (by omega) (h1.g (by omega)).2 (by omega) (by omega) (by omega) (by omega))
theorem mLose_Q {s : kS} (h : mX s) (hQ : mQ s) : mQ (mLose s) := mLoseTo_Q h hQ _ (Nat.le_refl _)
def mStopTo (s : kS) : Nat → Bool
  | 0 => false
  | k + 1 => mStopTo s k || decide (pIn (s 0) (s (16 + 2 * k)) (s (16 + 2 * k + 1)))
def mStopped (s : kS) : Bool := mStopTo s (mS s)
def mPaid (s : kS) (f : Nat) (t : Int32) : Int32 := t * mPur s f * s 9 / 100
def mCr1 (s : kS) (f : Nat) (t : Int32) : kS := upd s (56 + 8 * f + 5) (s (56 + 8 * f + 5) - t)
def mCr2 (s : kS) (f : Nat) (t : Int32) : kS := upd (mCr1 s f t) (56 + 8 * f + 6) (mCr1 s f t (56 + 8 * f + 6) + t)
def mCr3 (s : kS) (f : Nat) (t : Int32) : kS := upd (mCr2 s f t) 26 (mCr2 s f t 26 + t)
def mCr4 (s : kS) (f : Nat) (t : Int32) : kS := upd (mCr3 s f t) 27 (mCr3 s f t 27 + t * mPur s f / 100)
def mCr5 (s : kS) (f : Nat) (t : Int32) : kS := upd (mCr4 s f t) 29 (mCr4 s f t 29 + mPaid s f t)
def mCr6 (s : kS) (f : Nat) (t : Int32) : kS := upd (mCr5 s f t) (32 + 4 * mg s f + 1) (mCr5 s f t (32 + 4 * mg s f + 1) + t)
def mCrushes (s : kS) (f : Nat) (t : Int32) : kS := upd (mCr6 s f t) (32 + 4 * mg s f + 3) (mCr6 s f t (32 + 4 * mg s f + 3) + mPaid s f t)
theorem mCrushes_at {s : kS} {f j : Nat} {t : Int32} (hg : mg s f < 6) (h5 : j ≠ 56 + 8 * f + 5) (h6 : j ≠ 56 + 8 * f + 6) (h26 : j ≠ 26) (h27 : j ≠ 27) (h29 : j ≠ 29) (h32 : j < 32 ∨ 56 ≤ j) : mCrushes s f t j = s j := by
  unfold mCrushes mCr6 mCr5 mCr4 mCr3 mCr2 mCr1
  rw [upd_o (by omega), upd_o (by omega), upd_o h29, upd_o h27, upd_o h26, upd_o h6, upd_o h5]
theorem mCrushes_X {s : kS} (h : mX s) {f : Nat} (hf : f < mF s) (t : Int32) : mX (mCrushes s f t) ∧ mF (mCrushes s f t) = mF s ∧ ∀ j, 296 ≤ j → mCrushes s f t j = s j := by
  have h30 := h.f30
  have hg := (h.g hf).2
  have e : ∀ j, mKx j → mCrushes s f t j = s j := fun j hj => by
    obtain ⟨n1, n2, n3⟩ := mKx_no hj
    have := n1 f (by omega)
    refine mCrushes_at hg (by omega) (by omega) ?_ ?_ ?_ ?_ <;> omega
  exact ⟨h.of e, by unfold mF; rw [e 1 (Or.inl rfl)], fun j hj => mCrushes_at hg (by omega) (by omega) (by omega) (by omega) (by omega) (by omega)⟩
/-- one turn at the mill -/
def mMillStep (x : kS × Int32 × Nat) : kS × Int32 × Nat := if x.2.1 ≤ 0 then x else (if mY x.1 ≤ x.2.2 then x else
  (upd (mCrushes x.1 (ml x.1 x.2.2) (mLeast x.2.1 (x.1 (297 + 3 * x.2.2 + 1)))) (297 + 3 * x.2.2 + 1) (mCrushes x.1 (ml x.1 x.2.2) (mLeast x.2.1 (x.1 (297 + 3 * x.2.2 + 1))) (297 + 3 * x.2.2 + 1) - mLeast x.2.1 (x.1 (297 + 3 * x.2.2 + 1))),
   x.2.1 - mLeast x.2.1 (x.1 (297 + 3 * x.2.2 + 1)),
   if x.1 (297 + 3 * x.2.2 + 1) - mLeast x.2.1 (x.1 (297 + 3 * x.2.2 + 1)) = 0 then x.2.2 + 1 else x.2.2))
def mMillTo (s : kS) : Nat → kS × Int32 × Nat
  | 0 => (s, s 5, 0)
  | i + 1 => mMillStep (mMillTo s i)
theorem mMillStep_end {x : kS × Int32 × Nat} (h : x.2.1 ≤ 0 ∨ mY x.1 ≤ x.2.2) : mMillStep x = x := by
  unfold mMillStep
  rcases h with h | h
  · rw [if_pos h]
  · rw [if_pos h]
    split <;> rfl
theorem mMillTo_stop {s : kS} {i : Nat} (h : (mMillTo s i).2.1 ≤ 0 ∨ mY (mMillTo s i).1 ≤ (mMillTo s i).2.2) : ∀ j, mMillTo s (i + j) = mMillTo s i
  | 0 => rfl
  | j + 1 => by
    have ih := mMillTo_stop h j
    show mMillStep (mMillTo s (i + j)) = _
    rw [ih, mMillStep_end h]
theorem i_sub0 {a b : Int32} : a - b = 0 ↔ a = b := by
  constructor
  · intro h
    have := congrArg (fun z => z + b) h
    simpa using this
  · intro h; rw [h]; exact Int32.sub_self b
/-- what holds at the mill's turns: the indices; how many turns there were; the loads -/
def mMi (s : kS) (i : Nat) (x : kS × Int32 × Nat) : Prop := mX x.1 ∧ mF x.1 = mF s ∧ mY x.1 = mY s ∧ x.2.2 ≤ mY s ∧ i ≤ x.2.2 + 1 ∧ (¬ x.2.1 ≤ 0 → i = x.2.2) ∧
  (∀ j, j < 4 ∨ j = 6 → x.1 j = s j) ∧ x.1 4 = s 4 ∧
  ((∀ k, k < mY s → 1 ≤ (s (297 + 3 * k + 1)).toInt) → ∀ k, k < mY s → 0 ≤ (x.1 (297 + 3 * k + 1)).toInt ∧ (x.1 (297 + 3 * k + 1)).toInt ≤ (s (297 + 3 * k + 1)).toInt ∧ (x.2.2 ≤ k → 1 ≤ (x.1 (297 + 3 * k + 1)).toInt))
theorem mMi_0 {s : kS} (h : mX s) : mMi s 0 (s, s 5, 0) := ⟨h, rfl, rfl, Nat.zero_le _, by simp, fun _ => rfl, fun _ _ => rfl, rfl, fun q k hk => ⟨by have := q k hk; show 0 ≤ (s (297 + 3 * k + 1)).toInt; omega, Int.le_refl _, fun _ => q k hk⟩⟩
theorem mMi_step {s : kS} {i : Nat} {x : kS × Int32 × Nat} (h : mMi s i x) (h1 : ¬ x.2.1 ≤ 0) (h2 : ¬ mY x.1 ≤ x.2.2) : mMi s (i + 1) (mMillStep x) := by
  obtain ⟨N, left, k⟩ := x
  obtain ⟨a1, a2, a3, a4, a5, a6, a7, a8, a9⟩ := h
  dsimp only at *
  have hk : k < mY N := by omega
  have hfi := (a1.l hk).2
  obtain ⟨c1, c2, c3⟩ := mCrushes_X a1 hfi (mLeast left (N (297 + 3 * k + 1)))
  have hik := a6 h1
  have e : mMillStep (N, left, k) = (upd (mCrushes N (ml N k) (mLeast left (N (297 + 3 * k + 1)))) (297 + 3 * k + 1) (N (297 + 3 * k + 1) - mLeast left (N (297 + 3 * k + 1))), left - mLeast left (N (297 + 3 * k + 1)), if N (297 + 3 * k + 1) - mLeast left (N (297 + 3 * k + 1)) = 0 then k + 1 else k) := by
    unfold mMillStep
    rw [if_neg h1, if_neg h2]
    dsimp only
    rw [c3 _ (by omega)]
  rw [e]
  have hn : ∀ j, j ≠ 297 + 3 * k + 1 → upd (mCrushes N (ml N k) (mLeast left (N (297 + 3 * k + 1)))) (297 + 3 * k + 1) (N (297 + 3 * k + 1) - mLeast left (N (297 + 3 * k + 1))) j = mCrushes N (ml N k) (mLeast left (N (297 + 3 * k + 1))) j := fun j hj => upd_o hj
  have hx : mX (upd (mCrushes N (ml N k) (mLeast left (N (297 + 3 * k + 1)))) (297 + 3 * k + 1) (N (297 + 3 * k + 1) - mLeast left (N (297 + 3 * k + 1)))) := c1.of (fun j hj => hn j (fun z => by
    obtain ⟨n1, n2, n3⟩ := mKx_no hj
    exact (n3 (by omega) k).1 z))
  have hF : mF (upd (mCrushes N (ml N k) (mLeast left (N (297 + 3 * k + 1)))) (297 + 3 * k + 1) (N (297 + 3 * k + 1) - mLeast left (N (297 + 3 * k + 1)))) = mF s := by
    unfold mF; rw [hn 1 (by omega)]; exact c2.trans a2
  have hYY : mY (upd (mCrushes N (ml N k) (mLeast left (N (297 + 3 * k + 1)))) (297 + 3 * k + 1) (N (297 + 3 * k + 1) - mLeast left (N (297 + 3 * k + 1)))) = mY s := by
    unfold mY; rw [hn 296 (by omega), c3 296 (by omega)]; exact a3
  have h30 := a1.f30
  have hlow : ∀ j, j < 7 → mCrushes N (ml N k) (mLeast left (N (297 + 3 * k + 1))) j = N j := fun j hj => mCrushes_at (a1.g hfi).2 (by omega) (by omega) (by omega) (by omega) (by omega) (by omega)
  refine ⟨hx, hF, hYY, ?_, ?_, ?_, fun j hj => ?_, ?_, fun q j hj => ?_⟩
  · dsimp only; split <;> omega
  · dsimp only; split <;> omega
  · intro hl
    dsimp only at hl ⊢
    split
    · omega
    · rename_i hz
      exfalso
      apply hl
      have hmin : mLeast left (N (297 + 3 * k + 1)) = left := by
        unfold mLeast at hz ⊢
        split
        · rename_i hle
          rw [if_pos hle] at hz
          exact absurd (i_sub0.mpr rfl) hz
        · rfl
      rw [hmin, i_sub0.mpr rfl]
      rw [i_le]
      exact Int.le_refl _
  · dsimp only
    rw [hn j (by omega), hlow j (by omega)]
    exact a7 j hj
  · dsimp only
    rw [hn 4 (by omega), hlow 4 (by omega)]
    exact a8
  · dsimp only
    obtain ⟨b1, b2, b3⟩ := a9 q j hj
    by_cases hjk : j = k
    · subst hjk
      rw [upd_s]
      have b4 := b3 (Nat.le_refl _)
      have hm := mLeast_int left (N (297 + 3 * j + 1))
      rw [i_le, i_0] at h1
      have r1 := i_rng (N (297 + 3 * j + 1))
      have es : (N (297 + 3 * j + 1) - mLeast left (N (297 + 3 * j + 1))).toInt = (N (297 + 3 * j + 1)).toInt - min left.toInt (N (297 + 3 * j + 1)).toInt := by
        rw [i_sub (by omega) (by omega), hm]
      rw [es]
      refine ⟨by omega, by omega, fun hle => ?_⟩
      split at hle
      · omega
      · rename_i hz
        have : ¬ (N (297 + 3 * j + 1)).toInt - min left.toInt (N (297 + 3 * j + 1)).toInt = 0 := fun z => hz (Int32.toInt_inj.mp (by rw [es, z]; exact i_0.symm))
        omega
    · rw [hn _ (by omega), c3 _ (by omega)]
      refine ⟨b1, b2, fun hle => b3 ?_⟩
      split at hle <;> omega
theorem mMillTo_I {s : kS} (h : mX s) : ∀ i, mMi s i (mMillTo s i) ∨ ∃ j, j < i ∧ mMi s j (mMillTo s j) ∧ ((mMillTo s j).2.1 ≤ 0 ∨ mY (mMillTo s j).1 ≤ (mMillTo s j).2.2)
  | 0 => Or.inl (mMi_0 h)
  | i + 1 => by
    rcases mMillTo_I h i with h1 | ⟨j, h1, h2, h3⟩
    · by_cases hc : (mMillTo s i).2.1 ≤ 0 ∨ mY (mMillTo s i).1 ≤ (mMillTo s i).2.2
      · exact Or.inr ⟨i, by omega, h1, hc⟩
      · exact Or.inl (mMi_step h1 (fun z => hc (Or.inl z)) (fun z => hc (Or.inr z)))
    · exact Or.inr ⟨j, by omega, h2, h3⟩
/-- the mill's turns come to an end -/
theorem mMill_end {s : kS} (h : mX s) : ∃ i, mMi s i (mMillTo s (mY s + 1)) ∧ ((mMillTo s (mY s + 1)).2.1 ≤ 0 ∨ mY (mMillTo s (mY s + 1)).1 ≤ (mMillTo s (mY s + 1)).2.2) := by
  rcases mMillTo_I h (mY s + 1) with h1 | ⟨j, h1, h2, h3⟩
  · refine ⟨_, h1, ?_⟩
    obtain ⟨a1, a2, a3, a4, a5, a6, -⟩ := h1
    by_cases hl : (mMillTo s (mY s + 1)).2.1 ≤ 0
    · exact Or.inl hl
    · have := a6 hl
      exact Or.inr (by omega)
  · have e := mMillTo_stop h3 (mY s + 1 - j)
    rw [show j + (mY s + 1 - j) = mY s + 1 by omega] at e
    rw [e]
    exact ⟨j, h2, h3⟩
/-- the loads behind the first k move up -/
def mShift (s : kS) (k : Nat) : Nat → kS
  | 0 => s
  | q + 1 => upd (mShift s k q) (297 + q) (mShift s k q (297 + q + 3 * k))
theorem mShift_at (s : kS) (k : Nat) : ∀ q j, mShift s k q j = if 297 ≤ j ∧ j < 297 + q then s (j + 3 * k) else s j
  | 0, j => by rw [if_neg (by omega)]; rfl
  | q + 1, j => by
    have ih := mShift_at s k q
    show upd (mShift s k q) (297 + q) (mShift s k q (297 + q + 3 * k)) j = _
    by_cases hj : j = 297 + q
    · subst hj
      rw [upd_s, ih, if_neg (by omega), if_pos (by omega)]
    · rw [upd_o hj, ih]
      by_cases h : 297 ≤ j ∧ j < 297 + q
      · rw [if_pos h, if_pos (by omega)]
      · rw [if_neg h, if_neg (by omega)]
def mDropped (s : kS) (k : Nat) : kS := mShift (upd s 296 (nI (mY s - k))) k (3 * (mY s - k))
theorem mDropped_at (s : kS) (k j : Nat) : mDropped s k j = if j = 296 then nI (mY s - k) else if 297 ≤ j ∧ j < 297 + 3 * (mY s - k) then s (j + 3 * k) else s j := by
  unfold mDropped
  rw [mShift_at]
  by_cases h : j = 296
  · subst h
    rw [if_neg (by omega), if_pos rfl, upd_s]
  · rw [if_neg h, upd_o h]
    by_cases c : 297 ≤ j ∧ j < 297 + 3 * (mY s - k)
    · rw [if_pos c, if_pos c, upd_o (by omega)]
    · rw [if_neg c, if_neg c]
def mMills (s : kS) : kS := mDropped (mMillTo s (mY s + 1)).1 (mMillTo s (mY s + 1)).2.2
theorem mSum_le {s u : kS} (k : Nat) : ∀ n, (∀ j, j < n → (u (297 + 3 * j + 1)).toInt ≤ (s (297 + 3 * (j + k) + 1)).toInt) → (∀ j, j < n + k → 0 ≤ (s (297 + 3 * j + 1)).toInt) → mSum u n ≤ mSum s (n + k)
  | 0, _, h => by
    rw [Nat.zero_add]
    rw [Nat.zero_add] at h
    have : ∀ m, m ≤ k → 0 ≤ mSum s m := by
      intro m
      induction m with
      | zero => intro _; exact Int.le_refl _
      | succ m ih =>
        intro hm
        have := ih (by omega)
        have := h m (by omega)
        show 0 ≤ mSum s m + _
        omega
    exact this k (Nat.le_refl _)
  | n + 1, h1, h2 => by
    have ih := mSum_le k n (fun j hj => h1 j (by omega)) (fun j hj => h2 j (by omega))
    have := h1 n (by omega)
    rw [show n + 1 + k = (n + k) + 1 by omega]
    show mSum u n + _ ≤ mSum s (n + k) + _
    omega
theorem mMills_I {s : kS} (h : mX s) (hQ : mQ s) : mX (mMills s) ∧ mQ (mMills s) := by
  obtain ⟨i, ⟨a1, a2, a3, a4, a5, a6, a7, a8, a9⟩, -⟩ := mMill_end h
  unfold mMills
  generalize mMillTo s (mY s + 1) = x at a1 a2 a3 a4 a5 a6 a7 a8 a9
  obtain ⟨N, left, k⟩ := x
  dsimp only at *
  have h400 := a1.y400
  have e := mDropped_at N k
  have eY : mY (mDropped N k) = mY N - k := by
    show (mDropped N k 296).toNatClampNeg = _
    rw [e, if_pos rfl]
    exact nI_clamp (by omega)
  have lo : ∀ j, j < 296 → mDropped N k j = N j := fun j hj => by rw [e, if_neg (by omega), if_neg (by omega)]
  have eF : mF (mDropped N k) = mF N := by unfold mF; rw [lo 1 (by omega)]
  have eS : mS (mDropped N k) = mS N := by unfold mS; rw [lo 2 (by omega)]
  have eT : mT (mDropped N k) = mT N := by unfold mT; rw [lo 3 (by omega)]
  have hi : ∀ j i, j < mY N - k → i < 3 → mDropped N k (297 + 3 * j + i) = N (297 + 3 * (j + k) + i) := fun j i hj hi => by
    rw [e, if_neg (by omega), if_pos (by omega)]
    congr 1
    omega
  have q := a9 hQ.2.1
  refine ⟨⟨?_, ?_, ?_, ?_, ?_, ?_⟩, ⟨?_, ?_⟩, ?_, ?_⟩
  · rw [eF, lo 1 (by omega)]; exact a1.1
  · rw [eS, lo 2 (by omega)]; exact a1.2.1
  · rw [eY, e, if_pos rfl]; exact ⟨rfl, by omega⟩
  · rw [eT, lo 3 (by omega)]; exact a1.2.2.2.1
  · intro f hf
    have h30 := a1.f30
    rw [eF] at hf
    unfold mg
    rw [lo _ (by omega)]
    exact a1.g hf
  · intro j hj
    rw [eY] at hj
    rw [eF]
    unfold ml
    have := hi j 0 hj (by omega)
    rw [Nat.add_zero, Nat.add_zero] at this
    rw [this]
    exact a1.l (by omega)
  · rw [lo 4 (by omega), a8]; exact hQ.1.1
  · rw [lo 6 (by omega), a7 6 (by omega)]; exact hQ.1.2
  · intro j hj
    rw [eY] at hj
    rw [hi j 1 hj (by omega)]
    exact (q (j + k) (by omega)).2.2 (by omega)
  · rw [eY]
    have := mSum_le (s := s) (u := mDropped N k) k (mY N - k) (fun j hj => by rw [hi j 1 hj (by omega)]; exact (q (j + k) (by omega)).2.1) (fun j hj => by have := hQ.2.1 j (by omega); omega)
    rw [show mY N - k + k = mY s by omega] at this
    have := hQ.2.2
    omega
def mRest (s : kS) (idle : Prop) [Decidable idle] : kS := if idle ∨ mStopped s = true then upd s 31 (s 31 + 1) else mMills s
def mDay (s : kS) (idle : Prop) [Decidable idle] : kS := upd (mRest (mBring (mLose s)) idle) 0 (mRest (mBring (mLose s)) idle 0 + 1)
theorem mX_upd {s : kS} (h : mX s) {j : Nat} {x : Int32} (hj : ¬ mKx j) : mX (upd s j x) := h.of (fun i hi => upd_o (fun z => hj (z ▸ hi)))
theorem mQ_upd {s : kS} (h : mQ s) {j : Nat} {x : Int32} (hj : j < 296) (h4 : j ≠ 4) (h6 : j ≠ 6) : mQ (upd s j x) := h.of (fun i hi => upd_o (by omega))
theorem mKx_0 : ¬ mKx 0 := fun h => by have := (mKx_no h).2.1 (by omega); omega
theorem mKx_31 : ¬ mKx 31 := fun h => by have := (mKx_no h).2.1 (by omega); omega
theorem mRest_I {s : kS} (h : mX s) (hQ : mQ s) (idle : Prop) [Decidable idle] : mX (mRest s idle) ∧ mQ (mRest s idle) := by
  unfold mRest
  split
  · exact ⟨mX_upd h mKx_31, mQ_upd hQ (by omega) (by omega) (by omega)⟩
  · exact mMills_I h hQ
theorem mBring_I {s : kS} (h : mX s) (hQ : mQ s) : mX (mBring s) ∧ mQ (mBring s) := ⟨(mBringTo_I h hQ _).1, (mBringTo_I h hQ _).2.1⟩
theorem mDay_I {s : kS} (h : mX s) (hQ : mQ s) (idle : Prop) [Decidable idle] : mX (mDay s idle) ∧ mQ (mDay s idle) := by
  obtain ⟨b1, b2⟩ := mBring_I (mLose_X h) (mLose_Q h hQ)
  obtain ⟨r1, r2⟩ := mRest_I b1 b2 idle
  exact ⟨mX_upd r1 mKx_0, mQ_upd r2 (by omega) (by omega) (by omega)⟩
def mDays (s : kS) (idle : Int32) : Nat → kS
  | 0 => s
  | k + 1 => mDay (mDays s idle k) (nI k < idle)
theorem mDays_I {s : kS} (h : mX s) (hQ : mQ s) (idle : Int32) : ∀ k, mX (mDays s idle k) ∧ mQ (mDays s idle k)
  | 0 => ⟨h, hQ⟩
  | k + 1 => mDay_I (mDays_I h hQ idle k).1 (mDays_I h hQ idle k).2 _
