theorem mTxt_no {P : Nat → Int32} {n f o a : Nat} {O : Nat → Int32} (h : ¬ (mOrder P n o a O).1 = true) : mTxt P n (f + 1) o a O = (false, (mOrder P n o a O).2.1, (mOrder P n o a O).2.2, o) := if_neg h
theorem mTxt_more {P : Nat → Int32} {n f o a : Nat} {O : Nat → Int32} (h : (mOrder P n o a O).1 = true) (h2 : pAt P n (mOrder P n o a O).2.1 59 59) : mTxt P n (f + 1) o a O = mTxt P n f (o + 1) ((mOrder P n o a O).2.1 + 1) (mOrder P n o a O).2.2 := (if_pos h).trans (if_pos h2)
theorem mTxt_end {P : Nat → Int32} {n f o a : Nat} {O : Nat → Int32} (h : (mOrder P n o a O).1 = true) (h2 : ¬ pAt P n (mOrder P n o a O).2.1 59 59) : mTxt P n (f + 1) o a O = (decide ((mOrder P n o a O).2.1 = n), (mOrder P n o a O).2.1, (mOrder P n o a O).2.2, o + 1) := (if_pos h).trans (if_neg h2)
theorem mTxt_w {P : Nat → Int32} {n : Nat} : ∀ (f o a : Nat) (O : Nat → Int32), a ≤ n → 3 * o ≤ a → (mTxt P n f o a O).2.1 ≤ n ∧ 3 * (mTxt P n f o a O).2.2.2 ≤ (mTxt P n f o a O).2.1 + 1
  | 0, o, a, O, h, h3 => ⟨h, by show 3 * o ≤ a + 1; omega⟩
  | f + 1, o, a, O, h, h3 => by
    obtain ⟨w1, w2, w3⟩ := mOrder_w (P := P) (o := o) (O := O) h
    by_cases c : (mOrder P n o a O).1 = true
    · have w4 := w3 c
      by_cases c2 : pAt P n (mOrder P n o a O).2.1 59 59
      · rw [mTxt_more c c2]
        have := c2.1
        exact mTxt_w f _ _ _ (by omega) (by omega)
      · rw [mTxt_end c c2]
        exact ⟨w2, by dsimp only; omega⟩
    · rw [mTxt_no c]
      exact ⟨w2, by dsimp only; omega⟩
theorem mText_w {R : kN} : (mText R).2.1 ≤ pn R ∧ 3 * (mText R).2.2.2 ≤ (mText R).2.1 + 1 := mTxt_w _ _ _ _ (Nat.zero_le _) (Nat.zero_le _)
theorem sM_row0 (R : kN) (s : kS) (k : Nat) (v : Int32) : sM (sR R 0 s) 0 k v = sR R 0 (upd s k v) := by
  funext i
  show (if i = 0 then upd (sR R 0 s 0) k v else (if i = 0 then s else R i)) = (if i = 0 then upd s k v else R i)
  by_cases h : i = 0
  · rw [if_pos h, if_pos h]; rfl
  · rw [if_neg h, if_neg h, if_neg h]
theorem mLendTo_row0 (R : kN) (s : kS) (g o : Nat) (t : Int32) : mLendTo (sR R 0 s) g o t = sR R 0 (mLendRow s g o t) := by
  unfold mLendTo
  rw [sM_row0, sM_row0]
  rfl
def mDo (O : Nat → Int32) (s : kS) (k : Nat) : kS := mAct s (O (5 * k)) (O (5 * k + 1)) (O (5 * k + 2)) (O (5 * k + 3)) (O (5 * k + 4))
abbrev mMay (O : Nat → Int32) (s : kS) (k : Nat) : Int32 := mMayDo s (O (5 * k)) (O (5 * k + 1)) (O (5 * k + 2)) (O (5 * k + 3)) (O (5 * k + 4))
def mDoes (O : Nat → Int32) (s : kS) (k : Nat) : kS := if mMay O s k = 0 then mDo O s k else s
theorem mRun_go {O : Nat → Int32} {s : kS} {k o : Nat} (h : k < o) (hm : mMay O s k = 0) : mRun O s k (o - k) = mRun O (mDo O s k) (k + 1) (o - (k + 1)) := by
  rw [show o - k = (o - (k + 1)) + 1 by omega]
  exact if_pos hm
theorem mRun_no {O : Nat → Int32} {s : kS} {k o : Nat} (h : k < o) (hm : ¬ mMay O s k = 0) : mRun O s k (o - k) = (k, s) := by
  rw [show o - k = (o - (k + 1)) + 1 by omega]
  exact if_neg hm
theorem mRun_end {O : Nat → Int32} {s : kS} {k o : Nat} (h : k = o) : mRun O s k (o - k) = (k, s) := by
  rw [h, Nat.sub_self]; rfl
/-- the reference behind a reading that carries its text out -/
def mCarN (R : kN) : kN := sM (mRec (pWr R (mText R).2.1 (mText R).2.2.1 (mText R).2.2.2)) 7 1 0
def mCarry (R : kN) : Int32 × kN := if (mText R).1 = true then (nI (mRun (mText R).2.2.1 (R 0) 0 (mText R).2.2.2).1, sR (mCarN R) 0 (mRun (mText R).2.2.1 (R 0) 0 (mText R).2.2.2).2) else (-3, pWr R (mText R).2.1 (mText R).2.2.1 (mText R).2.2.2)
def mByte (w : Int64) (i : Nat) : Int32 := ((w >>> ((nI (8 * i)).toInt64 &&& 63)) &&& 255).toInt32
/-- how many signs a word tells, from the i-th on: none if one of them is no sign -/
def mBy (w : Int64) : Nat → Nat → Option Nat
  | 0, i => some i
  | n + 1, i => if mByte w i = 0 then some i else (if pIn (mByte w i) 33 126 then mBy w n (i + 1) else none)
def mZe (w : Int64) : Nat → Nat → Bool
  | 0, _ => true
  | n + 1, i => if mByte w i = 0 then mZe w n (i + 1) else false
def mTold (w : Int64) : Int32 := match mBy w 8 0 with
  | none => -2
  | some i => if mZe w (8 - i) i = true then (if i = 0 then -2 else nI i) else -2
theorem mBy_le {w : Int64} : ∀ (n i : Nat) {j : Nat}, mBy w n i = some j → j ≤ i + n
  | 0, i, j, h => by have : some i = some j := h; injection this; omega
  | n + 1, i, j, h => by
    unfold mBy at h
    split at h
    · injection h; omega
    · split at h
      · have := mBy_le n (i + 1) h; omega
      · cases h
theorem mTold_b {w : Int64} (h : ¬ mTold w < 0) : ∃ m : Nat, mTold w = nI m ∧ 1 ≤ m ∧ m ≤ 8 := by
  unfold mTold at h ⊢
  split at h
  · exact absurd (by decide) h
  · rename_i i hi
    have := mBy_le 8 0 hi
    split at h
    · split at h
      · exact absurd (by decide) h
      · rename_i c1 c2
        rw [if_pos c1, if_neg c2]
        exact ⟨i, rfl, by omega, by omega⟩
    · exact absurd (by decide) h
/-- the pad, j of the m signs of the word put behind the p that stand there -/
def mPutP (P : Nat → Int32) (p : Nat) (w : Int64) (m : Nat) : Nat → (Nat → Int32)
  | 0 => P
  | j + 1 => upd (mPutP P p w m j) (p + j) (mByte w (m - 1 - j))
def mPutM (R : kN) (w : Int64) (m : Nat) : kN := sM (sR R 5 (mPutP (R 5) (pn R) w m m)) 7 1 (nI (pn R + m))
def mPut (R : kN) (w : Int64) : Int32 × kN := if mTold w < 0 then (mTold w, R) else (if 80 < R 7 1 + mTold w then (-4, R) else (nI (pn R + (mTold w).toNatClampNeg), mPutM R w (mTold w).toNatClampNeg))
theorem nI_dn {m j : Nat} (h : j < m) : nI (m - j) + (-1) = nI (m - 1 - j) := by
  rw [show m - j = (m - 1 - j) + 1 by omega]
  exact (Int32.sub_eq_add_neg _ _).symm.trans (nI_pred (m - 1 - j))
