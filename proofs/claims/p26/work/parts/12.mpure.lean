/-! the reference, over its row of 1497 numbers -/
abbrev kS : Type := Nat → Int32
def mF (s : kS) : Nat := (s 1).toNatClampNeg
def mS (s : kS) : Nat := (s 2).toNatClampNeg
def mT (s : kS) : Nat := (s 3).toNatClampNeg
def mY (s : kS) : Nat := (s 296).toNatClampNeg
def mg (s : kS) (f : Nat) : Nat := (s (56 + 8 * f + 0)).toNatClampNeg
def ml (s : kS) (k : Nat) : Nat := (s (297 + 3 * k)).toNatClampNeg
/-- indices stay in their rows -/
def mX (s : kS) : Prop := (s 1 = nI (mF s) ∧ mF s ≤ 30) ∧ (s 2 = nI (mS s) ∧ mS s ≤ 5) ∧ (s 296 = nI (mY s) ∧ mY s ≤ 400) ∧ (s 3 = nI (mT s) ∧ mT s ≤ 20) ∧ (∀ f, f < mF s → s (56 + 8 * f + 0) = nI (mg s f) ∧ mg s f < 6) ∧ ∀ k, k < mY s → s (297 + 3 * k) = nI (ml s k) ∧ ml s k < mF s
theorem mX.f {s : kS} (h : mX s) : s 1 = nI (mF s) := h.1.1
theorem mX.f30 {s : kS} (h : mX s) : mF s ≤ 30 := h.1.2
theorem mX.s {s : kS} (h : mX s) : s 2 = nI (mS s) := h.2.1.1
theorem mX.s5 {s : kS} (h : mX s) : mS s ≤ 5 := h.2.1.2
theorem mX.y {s : kS} (h : mX s) : s 296 = nI (mY s) := h.2.2.1.1
theorem mX.y400 {s : kS} (h : mX s) : mY s ≤ 400 := h.2.2.1.2
theorem mX.t {s : kS} (h : mX s) : s 3 = nI (mT s) := h.2.2.2.1.1
theorem mX.t20 {s : kS} (h : mX s) : mT s ≤ 20 := h.2.2.2.1.2
theorem mX.g {s : kS} (h : mX s) {f : Nat} (hf : f < mF s) : s (56 + 8 * f + 0) = nI (mg s f) ∧ mg s f < 6 := h.2.2.2.2.1 f hf
theorem mX.l {s : kS} (h : mX s) {k : Nat} (hk : k < mY s) : s (297 + 3 * k) = nI (ml s k) ∧ ml s k < mF s := h.2.2.2.2.2 k hk
/-- the places that indices are read from -/
def mKx (j : Nat) : Prop := j = 1 ∨ j = 2 ∨ j = 3 ∨ j = 296 ∨ (∃ f, j = 56 + 8 * f + 0 ∧ f < 30) ∨ ∃ k, j = 297 + 3 * k
theorem mX.of {s u : kS} (h : mX s) (e : ∀ j, mKx j → u j = s j) : mX u := by
  have e1 := e 1 (by unfold mKx; omega)
  have e2 := e 2 (by unfold mKx; omega)
  have e3 := e 3 (by unfold mKx; omega)
  have e4 := e 296 (by unfold mKx; omega)
  have eF : mF u = mF s := by unfold mF; rw [e1]
  have eS : mS u = mS s := by unfold mS; rw [e2]
  have eT : mT u = mT s := by unfold mT; rw [e3]
  have eY : mY u = mY s := by unfold mY; rw [e4]
  have eg : ∀ f, f < 30 → u (56 + 8 * f + 0) = s (56 + 8 * f + 0) := fun f hf => e _ (Or.inr (Or.inr (Or.inr (Or.inr (Or.inl ⟨f, rfl, hf⟩)))))
  have el : ∀ k, u (297 + 3 * k) = s (297 + 3 * k) := fun k => e _ (Or.inr (Or.inr (Or.inr (Or.inr (Or.inr ⟨k, rfl⟩)))))
  have h30 := h.f30
  refine ⟨?_, ?_, ?_, ?_, ?_, ?_⟩
  · rw [e1, eF]; exact h.1
  · rw [e2, eS]; exact h.2.1
  · rw [e4, eY]; exact h.2.2.1
  · rw [e3, eT]; exact h.2.2.2.1
  · intro f hf
    rw [eF] at hf
    unfold mg
    rw [eg f (by omega)]
    exact h.g hf
  · intro k hk
    rw [eY] at hk
    unfold ml
    rw [el, eF]
    exact h.l hk
theorem upd_o {f : Nat → Int32} {k j : Nat} {x : Int32} (h : j ≠ k) : upd f k x j = f j := if_neg h
theorem upd_s {f : Nat → Int32} {k : Nat} {x : Int32} : upd f k x k = x := if_pos rfl
def mHow (s : kS) (f : Nat) : Int32 := sHow (s 0) (s (56 + 8 * f + 3)) (s (56 + 8 * f + 4)) (s (56 + 8 * f + 7))
def mPur (s : kS) (f : Nat) : Int32 := if s (56 + 8 * f + 2) - (if s 0 - s (56 + 8 * f + 3) ≤ 0 then 0 else s 7 * (s 0 - s (56 + 8 * f + 3))) ≤ 0 then 0 else s (56 + 8 * f + 2) - (if s 0 - s (56 + 8 * f + 3) ≤ 0 then 0 else s 7 * (s 0 - s (56 + 8 * f + 3)))
/-- the tonnes of the first loads -/
def mYd (s : kS) : Nat → Int32
  | 0 => 0
  | k + 1 => mYd s k + s (297 + 3 * k + 1)
def mLost (s : kS) (f : Nat) : kS := upd (upd (upd s (56 + 8 * f + 4) 0) (56 + 8 * f + 7) (upd s (56 + 8 * f + 4) 0 (56 + 8 * f + 7) + s (56 + 8 * f + 4))) 28 (upd (upd s (56 + 8 * f + 4) 0) (56 + 8 * f + 7) (upd s (56 + 8 * f + 4) 0 (56 + 8 * f + 7) + s (56 + 8 * f + 4)) 28 + s (56 + 8 * f + 4))
def mLoseStep (s : kS) (f : Nat) : kS := if mHow s f = 1 then (if s 0 - s (56 + 8 * f + 3) ≤ s 8 then s else upd (mLost s f) (32 + 4 * mg s f + 2) (mLost s f (32 + 4 * mg s f + 2) + s (56 + 8 * f + 4))) else s
def mLoseTo (s : kS) : Nat → kS
  | 0 => s
  | k + 1 => mLoseStep (mLoseTo s k) k
def mLose (s : kS) : kS := mLoseTo s (mF s)
theorem mKx_no {j : Nat} (h : mKx j) : (∀ f, f < 30 → j ≠ 56 + 8 * f + 4 ∧ j ≠ 56 + 8 * f + 5 ∧ j ≠ 56 + 8 * f + 6 ∧ j ≠ 56 + 8 * f + 7) ∧ (j < 56 → j = 1 ∨ j = 2 ∨ j = 3) ∧ (297 ≤ j → ∀ k, j ≠ 297 + 3 * k + 1 ∧ j ≠ 297 + 3 * k + 2) := by
  rcases h with h | h | h | h | ⟨f, h, hf⟩ | ⟨k, h⟩ <;> subst h <;> refine ⟨fun g hg => ?_, fun h1 => ?_, fun h1 k => ?_⟩ <;> omega
theorem mLost_at {s : kS} {f j : Nat} (hf : f < 30) (h4 : j ≠ 56 + 8 * f + 4) (h7 : j ≠ 56 + 8 * f + 7) (h28 : j ≠ 28) : mLost s f j = s j := by
  unfold mLost
  rw [upd_o h28, upd_o h7, upd_o h4]
theorem mLoseStep_at {s : kS} {f j : Nat} (hf : f < 30) (hg : mg s f < 6) (h4 : j ≠ 56 + 8 * f + 4) (h7 : j ≠ 56 + 8 * f + 7) (h28 : j ≠ 28) (h5 : j < 32 ∨ 56 ≤ j) : mLoseStep s f j = s j := by
  unfold mLoseStep
  split
  · split
    · rfl
    · rw [upd_o (by omega)]
      exact mLost_at hf h4 h7 h28
  · rfl
theorem mLoseStep_X {s : kS} (h : mX s) {f : Nat} (hf : f < mF s) : mX (mLoseStep s f) ∧ mF (mLoseStep s f) = mF s := by
  have h30 := h.f30
  have hg := (h.g hf).2
  have e : ∀ j, mKx j → mLoseStep s f j = s j := fun j hj => by
    obtain ⟨n1, n2, n3⟩ := mKx_no hj
    have := n1 f (by omega)
    refine mLoseStep_at (by omega) hg (by omega) (by omega) ?_ ?_ <;> omega
  exact ⟨h.of e, by unfold mF; rw [e 1 (Or.inl rfl)]⟩
theorem mLoseTo_X {s : kS} (h : mX s) : ∀ k, k ≤ mF s → mX (mLoseTo s k) ∧ mF (mLoseTo s k) = mF s
  | 0, _ => ⟨h, rfl⟩
  | k + 1, hk => by
    obtain ⟨h1, h2⟩ := mLoseTo_X h k (by omega)
    obtain ⟨h3, h4⟩ := mLoseStep_X h1 (f := k) (by omega)
    exact ⟨h3, h4.trans h2⟩
theorem mLose_X {s : kS} (h : mX s) : mX (mLose s) := (mLoseTo_X h _ (Nat.le_refl _)).1
abbrev mAheadP (s : kS) (f g : Nat) : Prop := s (56 + 8 * f + 3) - s (56 + 8 * g + 3) < 0 ∨ (s (56 + 8 * f + 3) - s (56 + 8 * g + 3) = 0 ∧ s (10 + mg s g) < s (10 + mg s f))
abbrev mCan (s : kS) (f : Nat) : Prop := mHow s f = 1 ∧ 0 < s (10 + mg s f)
def mBetter (s : kS) (k : Nat) (o : Option Nat) : Option Nat := match o with
  | none => some k
  | some b => if mAheadP s k b then some k else some b
def mBest (s : kS) : Nat → Option Nat
  | 0 => none
  | k + 1 => if mCan s k then mBetter s k (mBest s k) else mBest s k
theorem mBest_can {s : kS} : ∀ {k b : Nat}, mBest s k = some b → b < k ∧ mCan s b
  | 0, b, h => by cases h
  | k + 1, b, h => by
    unfold mBest at h
    split at h
    · rename_i hc
      unfold mBetter at h
      split at h
      · cases h; exact ⟨by omega, hc⟩
      · rename_i b0 hb
        have := mBest_can hb
        split at h
        · cases h; exact ⟨by omega, hc⟩
        · cases h; exact ⟨by omega, this.2⟩
    · have := mBest_can h
      exact ⟨by omega, this.2⟩
def mNextO (s : kS) : Option Nat := if s 6 ≤ mYd s (mY s) then none else mBest s (mF s)
theorem mNextO_can {s : kS} {b : Nat} (h : mNextO s = some b) : b < mF s ∧ mCan s b ∧ ¬ s 6 ≤ mYd s (mY s) := by
  unfold mNextO at h
  split at h
  · cases h
  · rename_i hc
    exact ⟨(mBest_can h).1, (mBest_can h).2, hc⟩
def mLeast (a b : Int32) : Int32 := if b ≤ a then b else a
def mTon (s : kS) (f : Nat) : Int32 := mLeast (mLeast (s 4) (s (56 + 8 * f + 4))) (mLeast (s (10 + mg s f)) (s 6 - mYd s (mY s)))
def mBr1 (s : kS) (f : Nat) : kS := upd s (56 + 8 * f + 4) (s (56 + 8 * f + 4) - mTon s f)
def mBr2 (s : kS) (f : Nat) : kS := upd (mBr1 s f) (56 + 8 * f + 5) (mBr1 s f (56 + 8 * f + 5) + mTon s f)
def mBr3 (s : kS) (f : Nat) : kS := upd (mBr2 s f) (10 + mg s f) (mBr2 s f (10 + mg s f) - mTon s f)
def mBr4 (s : kS) (f : Nat) : kS := upd (mBr3 s f) (32 + 4 * mg s f) (mBr3 s f (32 + 4 * mg s f) + mTon s f)
def mBr5 (s : kS) (f : Nat) : kS := upd (upd (upd (mBr4 s f) (297 + 3 * mY s) (nI f)) (297 + 3 * mY s + 1) (mTon s f)) (297 + 3 * mY s + 2) (upd (upd (mBr4 s f) (297 + 3 * mY s) (nI f)) (297 + 3 * mY s + 1) (mTon s f) 0)
def mBr6 (s : kS) (f : Nat) : kS := upd (mBr5 s f) 296 (mBr5 s f 296 + 1)
def mBrings (s : kS) (f : Nat) : kS := upd (mBr6 s f) 30 (mBr6 s f 30 + 1)
theorem mBr4_at {s : kS} {f j : Nat} (hf : f < 30) (hg : mg s f < 6) (h4 : j ≠ 56 + 8 * f + 4) (h5 : j ≠ 56 + 8 * f + 5) (h10 : j < 10 ∨ 16 ≤ j) (h32 : j < 32 ∨ 56 ≤ j) : mBr4 s f j = s j := by
  unfold mBr4 mBr3 mBr2 mBr1
  rw [upd_o (by omega), upd_o (by omega), upd_o h5, upd_o h4]
theorem mBrings_at {s : kS} {f j : Nat} (hf : f < 30) (hg : mg s f < 6) (h4 : j ≠ 56 + 8 * f + 4) (h5 : j ≠ 56 + 8 * f + 5) (h10 : j < 10 ∨ 16 ≤ j) (h32 : j < 32 ∨ 56 ≤ j) (h30 : j ≠ 30) (hY : j < 297 + 3 * mY s ∨ 297 + 3 * mY s + 3 ≤ j) : mBrings s f j = if j = 296 then s 296 + 1 else s j := by
  unfold mBrings mBr6
  rw [upd_o h30]
  have e : ∀ i, (i < 297 + 3 * mY s ∨ 297 + 3 * mY s + 3 ≤ i) → mBr5 s f i = mBr4 s f i := fun i hi => by
    unfold mBr5
    rw [upd_o (by omega), upd_o (by omega), upd_o (by omega)]
  by_cases h : j = 296
  · subst h
    rw [if_pos rfl, upd_s, e 296 (by omega), mBr4_at hf hg (by omega) (by omega) (by omega) (by omega)]
  · rw [if_neg h, upd_o h, e j hY, mBr4_at hf hg h4 h5 h10 h32]
theorem mBrings_q {s : kS} {f : Nat} (hf : f < 30) (hg : mg s f < 6) : mBrings s f (297 + 3 * mY s) = nI f ∧ mBrings s f (297 + 3 * mY s + 1) = mTon s f ∧ mBrings s f (297 + 3 * mY s + 2) = s 0 := by
  unfold mBrings mBr6 mBr5
  refine ⟨?_, ?_, ?_⟩
  · rw [upd_o (by omega), upd_o (by omega), upd_o (by omega), upd_o (by omega), upd_s]
  · rw [upd_o (by omega), upd_o (by omega), upd_o (by omega), upd_s]
  · rw [upd_o (by omega), upd_o (by omega), upd_s, upd_o (by omega), upd_o (by omega), mBr4_at hf hg (by omega) (by omega) (by omega) (by omega)]
/-- what keeps the queue within its row: loads are of a tonne at least, all together of no more than the yard can hold -/
def mSum (s : kS) : Nat → Int
  | 0 => 0
  | k + 1 => mSum s k + (s (297 + 3 * k + 1)).toInt
def mQ (s : kS) : Prop := (1 ≤ (s 4).toInt ∧ (s 6).toInt ≤ 400) ∧ (∀ k, k < mY s → 1 ≤ (s (297 + 3 * k + 1)).toInt) ∧ mSum s (mY s) ≤ 400
theorem mSum_cong {s u : kS} : ∀ n, (∀ k, k < n → u (297 + 3 * k + 1) = s (297 + 3 * k + 1)) → mSum u n = mSum s n
  | 0, _ => rfl
  | n + 1, h => by
    show mSum u n + _ = mSum s n + _
    rw [mSum_cong n (fun k hk => h k (by omega)), h n (by omega)]
theorem mSum_ge {s : kS} : ∀ n, (∀ k, k < n → 1 ≤ (s (297 + 3 * k + 1)).toInt) → (n : Int) ≤ mSum s n
  | 0, _ => Int.le_refl _
  | n + 1, h => by
    have h1 := mSum_ge n (fun k hk => h k (by omega))
    have h2 := h n (by omega)
    show ((n + 1 : Nat) : Int) ≤ mSum s n + _
    omega
theorem i_rng (x : Int32) : -2147483648 ≤ x.toInt ∧ x.toInt < 2147483648 := ⟨Int32.le_toInt x, Int32.toInt_lt x⟩
theorem i_add {x y : Int32} (h1 : -2147483648 ≤ x.toInt + y.toInt) (h2 : x.toInt + y.toInt < 2147483648) : (x + y).toInt = x.toInt + y.toInt := by
  rw [Int32.toInt_add]
  exact Int.bmod_eq_of_le (by omega) (by omega)
theorem i_sub {x y : Int32} (h1 : -2147483648 ≤ x.toInt - y.toInt) (h2 : x.toInt - y.toInt < 2147483648) : (x - y).toInt = x.toInt - y.toInt := by
  rw [Int32.toInt_sub]
  exact Int.bmod_eq_of_le (by omega) (by omega)
theorem i_lt (a b : Int32) : a < b ↔ a.toInt < b.toInt := Int32.lt_iff_toInt_lt
theorem i_le (a b : Int32) : a ≤ b ↔ a.toInt ≤ b.toInt := Int32.le_iff_toInt_le
theorem i_0 : (0 : Int32).toInt = 0 := by decide
theorem mYd_sum {s : kS} : ∀ n, (∀ k, k < n → 1 ≤ (s (297 + 3 * k + 1)).toInt) → mSum s n ≤ 400 → (mYd s n).toInt = mSum s n ∧ 0 ≤ mSum s n
  | 0, _, _ => ⟨i_0, Int.le_refl _⟩
  | n + 1, h, hs => by
    have h2 := h n (by omega)
    have hs2 : mSum s n + (s (297 + 3 * n + 1)).toInt ≤ 400 := hs
    obtain ⟨h3, h4⟩ := mYd_sum n (fun k hk => h k (by omega)) (by omega)
    refine ⟨?_, ?_⟩
    · show (mYd s n + s (297 + 3 * n + 1)).toInt = mSum s n + _
      rw [i_add (by omega) (by omega), h3]
    · show 0 ≤ mSum s n + _
      omega
theorem mLeast_int (a b : Int32) : (mLeast a b).toInt = min a.toInt b.toInt := by
  unfold mLeast
  by_cases h : b ≤ a
  · rw [if_pos h]; rw [i_le] at h; omega
  · rw [if_neg h]; rw [i_le] at h; omega
/-- a load is of a tonne at least, and no more than there is room -/
theorem mTon_b {s : kS} (hQ : mQ s) {f : Nat} (hc : mCan s f) (hr : ¬ s 6 ≤ mYd s (mY s)) : 1 ≤ (mTon s f).toInt ∧ (mTon s f).toInt + mSum s (mY s) ≤ (s 6).toInt ∧ (mTon s f).toInt ≤ (s (10 + mg s f)).toInt ∧ (mTon s f).toInt ≤ (s (56 + 8 * f + 4)).toInt := by
  obtain ⟨⟨q1, q2⟩, q3, q4⟩ := hQ
  obtain ⟨e1, e2⟩ := mYd_sum (mY s) q3 q4
  rw [i_le, e1] at hr
  have hq : 0 < (s (10 + mg s f)).toInt := by have := hc.2; rw [i_lt, i_0] at this; exact this
  have ho : 0 < (s (56 + 8 * f + 4)).toInt := by
    have := hc.1
    unfold mHow sHow at this
    split at this
    · split at this
      · split at this <;> exact absurd this (by decide)
      · rename_i h
        rw [i_le, i_0] at h
        omega
    · exact absurd this (by decide)
  have er : (s 6 - mYd s (mY s)).toInt = (s 6).toInt - mSum s (mY s) := by
    have := i_rng (s 6)
    rw [i_sub (by rw [e1]; omega) (by rw [e1]; omega), e1]
  unfold mTon
  rw [mLeast_int, mLeast_int, mLeast_int, er]
  omega
theorem mBrings_I {s : kS} (h : mX s) (hQ : mQ s) {f : Nat} (hn : mNextO s = some f) : mX (mBrings s f) ∧ mQ (mBrings s f) ∧ mY s < 400 := by
  obtain ⟨hf, hc, hr⟩ := mNextO_can hn
  have h30 := h.f30
  have h400 := h.y400
  have hg := (h.g hf).2
  obtain ⟨t1, t2, t3, t4⟩ := mTon_b hQ hc hr
  obtain ⟨⟨q1, q2⟩, q3, q4⟩ := id hQ
  have hge := mSum_ge (mY s) q3
  have hlt : mY s < 400 := by omega
  have at_ : ∀ j, (∀ g, g < 30 → j ≠ 56 + 8 * g + 4 ∧ j ≠ 56 + 8 * g + 5) → (j < 10 ∨ 56 ≤ j) → (j < 297 + 3 * mY s ∨ 297 + 3 * mY s + 3 ≤ j) → mBrings s f j = if j = 296 then s 296 + 1 else s j := fun j a b c => mBrings_at (by omega) hg (a f (by omega)).1 (a f (by omega)).2 (by omega) (by omega) (by omega) c
  have eF : mBrings s f 1 = s 1 := by rw [at_ 1 (fun g _ => by omega) (by omega) (by omega)]; rfl
  have eS : mBrings s f 2 = s 2 := by rw [at_ 2 (fun g _ => by omega) (by omega) (by omega)]; rfl
  have eT : mBrings s f 3 = s 3 := by rw [at_ 3 (fun g _ => by omega) (by omega) (by omega)]; rfl
  have e4 : mBrings s f 4 = s 4 := by rw [at_ 4 (fun g _ => by omega) (by omega) (by omega)]; rfl
  have e6 : mBrings s f 6 = s 6 := by rw [at_ 6 (fun g _ => by omega) (by omega) (by omega)]; rfl
  have eY : mBrings s f 296 = nI (mY s + 1) := by rw [at_ 296 (fun g _ => by omega) (by omega) (by omega), if_pos rfl, h.y, nI_1]
  have nF' : mF (mBrings s f) = mF s := by unfold mF; rw [eF]
  have nS' : mS (mBrings s f) = mS s := by unfold mS; rw [eS]
  have nT' : mT (mBrings s f) = mT s := by unfold mT; rw [eT]
  have nY' : mY (mBrings s f) = mY s + 1 := by unfold mY; rw [eY]; exact nI_clamp (by unfold mY at hlt; omega)
  have eo : ∀ g, g < 30 → mBrings s f (56 + 8 * g + 0) = s (56 + 8 * g + 0) := fun g hg2 => by
    rw [at_ _ (fun g2 _ => by omega) (by omega) (by omega), if_neg (by omega)]
  have el : ∀ k i, k < mY s → i < 3 → mBrings s f (297 + 3 * k + i) = s (297 + 3 * k + i) := fun k i hk hi => by
    rw [at_ _ (fun g2 _ => by omega) (by omega) (by omega), if_neg (by omega)]
  obtain ⟨z0, z1, z2⟩ := mBrings_q (s := s) (f := f) (by omega) hg
  refine ⟨⟨?_, ?_, ?_, ?_, ?_, ?_⟩, ⟨⟨by rw [e4]; exact q1, by rw [e6]; exact q2⟩, ?_, ?_⟩, hlt⟩
  · rw [nF', eF]; exact h.1
  · rw [nS', eS]; exact h.2.1
  · rw [nY']; exact ⟨eY, by omega⟩
  · rw [nT', eT]; exact h.2.2.2.1
  · intro g hg2
    rw [nF'] at hg2
    unfold mg
    rw [eo g (by omega)]
    exact h.g hg2
  · intro k hk
    rw [nY'] at hk
    rw [nF']
    unfold ml
    by_cases hk2 : k < mY s
    · have := el k 0 hk2 (by omega)
      rw [Nat.add_zero] at this
      rw [this]
      exact h.l hk2
    · have : k = mY s := by omega
      subst this
      rw [z0, nI_clamp (by omega)]
      exact ⟨rfl, hf⟩
  · intro k hk
    rw [nY'] at hk
    by_cases hk2 : k < mY s
    · rw [el k 1 hk2 (by omega)]
      exact q3 k hk2
    · have : k = mY s := by omega
      subst this
      rw [z1]
      exact t1
  · rw [nY']
    show mSum (mBrings s f) (mY s) + (mBrings s f (297 + 3 * mY s + 1)).toInt ≤ 400
    rw [z1, mSum_cong (mY s) (fun k hk => el k 1 hk (by omega))]
    omega
def mStep (s : kS) : kS := match mNextO s with
  | none => s
  | some f => mBrings s f
def mBringTo (s : kS) : Nat → kS
  | 0 => s
  | t + 1 => mStep (mBringTo s t)
def mBring (s : kS) : kS := mBringTo s (mT s)
theorem mStep_n {s : kS} (h : mNextO s = none) : mStep s = s := by unfold mStep; rw [h]
theorem mStep_s {s : kS} {f : Nat} (h : mNextO s = some f) : mStep s = mBrings s f := by unfold mStep; rw [h]
theorem mStep_I {s : kS} (h : mX s) (hQ : mQ s) : mX (mStep s) ∧ mQ (mStep s) ∧ mStep s 3 = s 3 := by
  cases hn : mNextO s with
  | none => rw [mStep_n hn]; exact ⟨h, hQ, rfl⟩
  | some f =>
    rw [mStep_s hn]
    obtain ⟨h1, h2, -⟩ := mBrings_I h hQ hn
    have hf := (mNextO_can hn).1
    have h30 := h.f30
    refine ⟨h1, h2, ?_⟩
    rw [mBrings_at (by omega) (h.g hf).2 (by omega) (by omega) (by omega) (by omega) (by omega) (by omega), if_neg (by omega)]
theorem mBringTo_I {s : kS} (h : mX s) (hQ : mQ s) : ∀ t, mX (mBringTo s t) ∧ mQ (mBringTo s t) ∧ mBringTo s t 3 = s 3
  | 0 => ⟨h, hQ, rfl⟩
  | t + 1 => by
    obtain ⟨h1, h2, h3⟩ := mBringTo_I h hQ t
    obtain ⟨h4, h5, h6⟩ := mStep_I h1 h2
    exact ⟨h4, h5, h6.trans h3⟩
theorem mBringTo_stop {s : kS} {t : Nat} (h : mNextO (mBringTo s t) = none) : ∀ j, mBringTo s (t + j) = mBringTo s t
  | 0 => rfl
  | j + 1 => by
    have ih := mBringTo_stop h j
    show mStep (mBringTo s (t + j)) = _
    rw [ih, mStep_n h]
