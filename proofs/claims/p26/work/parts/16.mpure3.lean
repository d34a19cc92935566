theorem arr_ext (cA : ClassId) (n : Nat) {f g : Nat → Int32} (h : ∀ j, j < n → f j = g j) : vp_cell cA (n, .inl f) = vp_cell cA (n, .inl g) := by
  show arrV cA n (fun j => .int (f j)) = arrV cA n (fun j => .int (g j))
  unfold arrV
  congr 1
  apply congrArg
  funext j
  show Value.int (f j.val) = Value.int (g j.val)
  rw [h j.val j.isLt]
/-- a row is as good as another that agrees with it as far as it goes -/
theorem kRow {D : va_G} {ws : va_W} {H : Heap} {a n : Nat} {c : ClassId} {f g : Nat → Int32} (p : Nat) (hP : va_P D vwCl ws H) (hp : ws[p]? = some (a, .inl (c, n, .inl f))) (h : ∀ j, j < n → f j = g j) : va_P D vwCl (ws.set p (a, .inl (c, n, .inl g))) H := by
  have hl := (List.getElem?_eq_some_iff.mp hp).1
  intro k q hk
  by_cases hkp : k = p
  · subst hkp
    rw [List.getElem?_set_self hl] at hk
    cases hk
    show H[a]? = some (vp_cell c (n, .inl g))
    rw [← arr_ext c n h]
    exact hP k _ hp
  · rw [List.getElem?_set_ne (Ne.symm hkp)] at hk
    exact hP k q hk
/-- 1497 numbers of one row in another -/
abbrev kcy (f g : Nat → Int32) (fa ta k : Nat) : Nat → Int32 := va_cpy f g fa ta k
theorem kcy_0 (f g : Nat → Int32) (fa ta : Nat) : kcy f g fa ta 0 = g := by
  funext j
  show (if ta ≤ j ∧ j < ta + 0 then _ else g j) = g j
  rw [if_neg (by omega)]
theorem kcy_1 (f g : Nat → Int32) (fa ta k : Nat) : upd (kcy f g fa ta k) (ta + k) (f (fa + k)) = kcy f g fa ta (k + 1) := by
  funext j
  show (if j = ta + k then f (fa + k) else (if ta ≤ j ∧ j < ta + k then f (fa + (j - ta)) else g j)) = (if ta ≤ j ∧ j < ta + (k + 1) then f (fa + (j - ta)) else g j)
  by_cases h : j = ta + k
  · rw [if_pos h, if_pos (by omega)]
    congr 1
    omega
  · rw [if_neg h]
    by_cases h2 : ta ≤ j ∧ j < ta + k
    · rw [if_pos h2, if_pos (by omega)]
    · rw [if_neg h2, if_neg (by omega)]
def kp (R : kN) : Nat := (R 7 0).toNatClampNeg
def pn (R : kN) : Nat := (R 7 1).toNatClampNeg
/-- the oldest state goes: the others move up, the first k numbers of them -/
def mShP (f : Nat → Int32) : Nat → Nat → Int32
  | 0 => f
  | k + 1 => upd (mShP f k) k (mShP f k (k + 1497))
theorem mShP_at (f : Nat → Int32) : ∀ k j, mShP f k j = if j < k then f (j + 1497) else f j
  | 0, j => by rw [if_neg (by omega)]; rfl
  | k + 1, j => by
    have ih := mShP_at f k
    show upd (mShP f k) k (mShP f k (k + 1497)) j = _
    by_cases h : j = k
    · subst h
      rw [upd_s, ih, if_neg (by omega), if_pos (by omega)]
    · rw [upd_o h, ih]
      by_cases h2 : j < k
      · rw [if_pos h2, if_pos (by omega)]
      · rw [if_neg h2, if_neg (by omega)]
def mRec (R : kN) : kN := if kp R = 6 then sM (sR (sM (sR R 2 (mShP (R 2) 7485)) 7 0 (nI (kp R - 1))) 2 (kcy (R 0) (mShP (R 2) 7485) 0 (1497 * (kp R - 1)) 1497)) 7 0 (nI (kp R - 1 + 1)) else sM (sR R 2 (kcy (R 0) (R 2) 0 (1497 * kp R) 1497)) 7 0 (nI (kp R + 1))
theorem mRec_o (R : kN) {q : Nat} (h2 : q ≠ 2) (h7 : q ≠ 7) : mRec R q = R q := by
  unfold mRec
  split <;> simp only [sM, sR, if_neg h2, if_neg h7]
theorem mRec_7 (R : kN) {k : Nat} (h : k ≠ 0) : mRec R 7 k = R 7 k := by
  unfold mRec
  split <;> simp [sM, sR, upd, h]
def mUndo (R : kN) : Int32 × kN := if kp R = 0 then (-5, R) else (nI (kp R - 1), sR (sM R 7 0 (nI (kp R - 1))) 0 (kcy (R 2) (R 0) (1497 * (kp R - 1)) 0 1497))
def mSave (R : kN) (q : Int32) : Int32 × kN := if pIn q 0 1 then (R 0 1, sM (sR R 3 (kcy (R 0) (R 3) 0 (1497 * q.toNatClampNeg) 1497)) 4 q.toNatClampNeg 1) else (-2, R)
def mResto (R : kN) (q : Nat) : kN := sR (mRec R) 0 (kcy (mRec R 3) (mRec R 0) (1497 * q) 0 1497)
def mRestore (R : kN) (q : Int32) : Int32 × kN := if pIn q 0 1 then (if R 4 q.toNatClampNeg = 0 then (-5, R) else (mResto R q.toNatClampNeg 0 1, mResto R q.toNatClampNeg)) else (-2, R)
def sLo (k : Int32) : Int32 := if k = 0 then 0 else (if k = 1 then 1 else (if k = 2 then 1 else (if k = 3 then 0 else (if k = 4 then 0 else (if k = 5 then 1 else 0)))))
def sHi (k : Int32) : Int32 := if k = 0 then 20 else (if k = 1 then 30 else (if k = 2 then 200 else (if k = 3 then 400 else (if k = 4 then 100 else (if k = 5 then 20 else 999)))))
def mSet (R : kN) (k v : Int32) : Int32 × kN := if pIn k 0 6 then (if pIn v (sLo k) (sHi k) then (mRec R 0 (3 + k.toNatClampNeg), sM (mRec R) 0 (3 + k.toNatClampNeg) v) else (-2, R)) else (-2, R)
def mMayQuota (g t : Int32) : Int32 := if pIn g 0 5 then (if pIn t 0 9999 then 0 else -2) else -1
def mQuota (R : kN) (g t : Int32) : Int32 × kN := if mMayQuota g t = 0 then (mRec R 0 (10 + g.toNatClampNeg), sM (mRec R) 0 (10 + g.toNatClampNeg) t) else (mMayQuota g t, R)
theorem mMayQuota_0 {g t : Int32} (h : mMayQuota g t = 0) : pIn g 0 5 ∧ pIn t 0 9999 := by
  unfold mMayQuota at h
  split at h
  · split at h
    · exact ⟨by assumption, by assumption⟩
    · exact absurd h (by decide)
  · exact absurd h (by decide)
def mMayLend (s : kS) (g o t : Int32) : Int32 := if pIn g 0 5 then (if pIn o 0 5 then (if t < 1 then -2 else (if g = o then -2 else (if s (10 + g.toNatClampNeg) < t then -5 else (if t ≤ 9999 - s (10 + o.toNatClampNeg) then 0 else -5)))) else -1) else -1
theorem mMayLend_0 {s : kS} {g o t : Int32} (h : mMayLend s g o t = 0) : pIn g 0 5 ∧ pIn o 0 5 := by
  unfold mMayLend at h
  split at h
  · split at h
    · exact ⟨by assumption, by assumption⟩
    · exact absurd h (by decide)
  · exact absurd h (by decide)
def mLendTo (R : kN) (g o : Nat) (t : Int32) : kN := sM (sM R 0 (10 + g) (R 0 (10 + g) - t)) 0 (10 + o) (upd (R 0) (10 + g) (R 0 (10 + g) - t) (10 + o) + t)
def mLend (R : kN) (g o t : Int32) : Int32 × kN := if mMayLend (R 0) g o t = 0 then (mLendTo (mRec R) g.toNatClampNeg o.toNatClampNeg t 0 (10 + g.toNatClampNeg), mLendTo (mRec R) g.toNatClampNeg o.toNatClampNeg t) else (mMayLend (R 0) g o t, R)
def mMayCome (s : kS) (g t p b : Int32) : Int32 := if pIn g 0 5 then (if pIn t 1 300 then (if pIn p 1 100 then (if pIn b (s 0) 999 then (if mF s = 30 then -4 else 0) else -2) else -2) else -2) else -1
theorem mMayCome_0 {s : kS} {g t p b : Int32} (h : mMayCome s g t p b = 0) : pIn g 0 5 ∧ pIn t 1 300 ∧ pIn p 1 100 ∧ pIn b (s 0) 999 ∧ mF s ≠ 30 := by
  unfold mMayCome at h
  split at h
  · split at h
    · split at h
      · split at h
        · split at h
          · exact absurd h (by decide)
          · exact ⟨by assumption, by assumption, by assumption, by assumption, by assumption⟩
        · exact absurd h (by decide)
      · exact absurd h (by decide)
    · exact absurd h (by decide)
  · exact absurd h (by decide)
/-- a field's row is made empty, its first k numbers -/
def mZero (s : kS) (r : Nat) : Nat → kS
  | 0 => s
  | k + 1 => upd (mZero s r k) (r + k) 0
theorem mZero_at (s : kS) (r : Nat) : ∀ k j, mZero s r k j = if r ≤ j ∧ j < r + k then 0 else s j
  | 0, j => by rw [if_neg (by omega)]; rfl
  | k + 1, j => by
    have ih := mZero_at s r k
    show upd (mZero s r k) (r + k) 0 j = _
    by_cases h : j = r + k
    · rw [h, upd_s, if_pos (by omega)]
    · rw [upd_o h, ih]
      by_cases h2 : r ≤ j ∧ j < r + k
      · rw [if_pos h2, if_pos (by omega)]
      · rw [if_neg h2, if_neg (by omega)]
def mComesRow (s : kS) (g t p b : Int32) : kS := upd (upd (upd (upd (upd (mZero s (56 + 8 * mF s) 8) (56 + 8 * mF s + 0) g) (56 + 8 * mF s + 1) t) (56 + 8 * mF s + 2) p) (56 + 8 * mF s + 3) b) (56 + 8 * mF s + 4) t
def mComes (s : kS) (g t p b : Int32) : kS := upd (mComesRow s g t p b) 1 (nI (mF s + 1))
def mField (R : kN) (g t p b : Int32) : Int32 × kN := if mMayCome (R 0) g t p b = 0 then (nI (mF (R 0)), sR (mRec R) 0 (mComes (R 0) g t p b)) else (mMayCome (R 0) g t p b, R)
def mMayStop (s : kS) (f l : Int32) : Int32 := if pIn f 0 999 then (if pIn l f 999 then (if mS s = 5 then -4 else 0) else -2) else -2
theorem mMayStop_0 {s : kS} {f l : Int32} (h : mMayStop s f l = 0) : pIn f 0 999 ∧ pIn l f 999 ∧ mS s ≠ 5 := by
  unfold mMayStop at h
  split at h
  · split at h
    · split at h
      · exact absurd h (by decide)
      · exact ⟨by assumption, by assumption, by assumption⟩
    · exact absurd h (by decide)
  · exact absurd h (by decide)
def mStops (s : kS) (f l : Int32) : kS := upd (upd (upd s (16 + 2 * mS s) f) (16 + 2 * mS s + 1) l) 2 (nI (mS s + 1))
def mStop (R : kN) (f l : Int32) : Int32 × kN := if mMayStop (R 0) f l = 0 then (nI (mS (R 0)), sR (mRec R) 0 (mStops (R 0) f l)) else (mMayStop (R 0) f l, R)
def mDropTo (s : kS) (j0 : Nat) : Nat → kS
  | 0 => s
  | q + 1 => upd (mDropTo s j0 q) (j0 + q) (mDropTo s j0 q (j0 + q + 2))
theorem mDropTo_at (s : kS) (r : Nat) : ∀ q j, mDropTo s r q j = if r ≤ j ∧ j < r + q then s (j + 2) else s j
  | 0, j => by rw [if_neg (by omega)]; rfl
  | q + 1, j => by
    have ih := mDropTo_at s r q
    show upd (mDropTo s r q) (r + q) (mDropTo s r q (r + q + 2)) j = _
    by_cases h : j = r + q
    · rw [h, upd_s, ih, if_neg (by omega), if_pos (by omega)]
    · rw [upd_o h, ih]
      by_cases h2 : r ≤ j ∧ j < r + q
      · rw [if_pos h2, if_pos (by omega)]
      · rw [if_neg h2, if_neg (by omega)]
def mDropRow (s : kS) (k : Nat) : kS := mDropTo (upd s 2 (nI (mS s - 1))) (16 + 2 * k) (2 * (mS s - 1 - k))
def mDropStop (R : kN) (k : Int32) : Int32 × kN := if pIn k 0 (R 0 2 - 1) then (nI (mS (R 0) - 1), sR (mRec R) 0 (mDropRow (R 0) k.toNatClampNeg)) else (-1, R)
def mMayPass (s : kS) (d : Int32) : Int32 := if pIn d 1 99 then (if s 0 + d ≤ 1000 then 0 else -5) else -2
theorem mMayPass_0 {s : kS} {d : Int32} (h : mMayPass s d = 0) : pIn d 1 99 := by
  unfold mMayPass at h
  split at h
  · assumption
  · exact absurd h (by decide)
def mPass (R : kN) (d : Int32) : Int32 × kN := if mMayPass (R 0) d = 0 then (mDays (R 0) 0 d.toNatClampNeg 0, sR (mRec R) 0 (mDays (R 0) 0 d.toNatClampNeg)) else (mMayPass (R 0) d, R)
def mOfField (s : kS) (f w : Int32) : Int32 := if pIn f 0 (s 1 - 1) then (if pIn w 0 9 then (if 4 ≤ w then (if w = 4 then mHow s f.toNatClampNeg else (if w = 9 then mPur s f.toNatClampNeg else s (56 + 8 * f.toNatClampNeg + (w.toNatClampNeg - 1)))) else s (56 + 8 * f.toNatClampNeg + w.toNatClampNeg)) else -2) else -1
def mBurntTo (s : kS) (g : Int32) : Nat → Int32
  | 0 => 0
  | k + 1 => mBurntTo s g k + (if s (56 + 8 * k + 0) = g then (if mHow s k = 1 then s (56 + 8 * k + 4) else 0) else 0)
def mOfGrower (s : kS) (g w : Int32) : Int32 := if pIn g 0 5 then (if pIn w 0 5 then (if w = 0 then s (10 + g.toNatClampNeg) else (if 5 ≤ w then mBurntTo s g (mF s) else s (32 + 4 * g.toNatClampNeg + w.toNatClampNeg - 1))) else -2) else -1
def mLoad (s : kS) (p w : Int32) : Int32 := if pIn p 0 (s 296 - 1) then (if pIn w 0 2 then s (297 + 3 * p.toNatClampNeg + w.toNatClampNeg) else -2) else -1
def mCount (R : kN) (w : Int32) : Int32 := if pIn w 0 19 then (if 5 ≤ w then (if 11 ≤ w then (if 18 ≤ w then (if w = 18 then R 7 1 else R 7 0) else R 0 (3 + w.toNatClampNeg - 11)) else R 0 (26 + w.toNatClampNeg - 5)) else (if 3 ≤ w then (if w = 3 then mYd (R 0) (mY (R 0)) else R 0 296) else R 0 w.toNatClampNeg)) else -2
def mSetTo (s : kS) (h : Int32) : Nat → Int64
  | 0 => 0
  | k + 1 => mSetTo s h k ||| (if mHow s k = h then (1 : Int64) <<< ((nI k).toInt64 &&& 63) else 0)
def mFields (s : kS) (h : Int32) : Int64 := if pIn h 0 3 then mSetTo s h (mF s) else -2
def mThen (s : kS) (d w : Int32) : Int32 := if pIn d 1 300 then (if pIn w 0 2 then (if w = 0 then mDays s 0 d.toNatClampNeg 28 - s 28 else (if w = 1 then mDays s 0 d.toNatClampNeg 27 - s 27 else mDays s 0 d.toNatClampNeg 29 - s 29)) else -2) else -2
/-- the first of the trucks from v on, of n numbers, by which nothing is lost -/
def mLeastFrom (s : kS) (d : Nat) (v : Nat) : Nat → Int32
  | 0 => -6
  | n + 1 => if mDays (upd s 3 (nI v)) 0 d 28 = s 28 then nI v else mLeastFrom s d (v + 1) n
def mLeastTr (s : kS) (d : Int32) : Int32 := if pIn d 1 300 then mLeastFrom s d.toNatClampNeg 0 21 else -2
def mCosts (s : kS) (d q : Int32) : Int32 := if pIn d 1 300 then (if pIn q 0 d then mDays s 0 d.toNatClampNeg 27 - mDays s q d.toNatClampNeg 27 + 100000 else -2) else -2
theorem mX_ext {s u : kS} (h : mX s) (e : ∀ j, j < 1497 → u j = s j) : mX u := by
  have h400 := h.y400
  have h30 := h.f30
  have eF : mF u = mF s := by unfold mF; rw [e 1 (by omega)]
  have eS : mS u = mS s := by unfold mS; rw [e 2 (by omega)]
  have eT : mT u = mT s := by unfold mT; rw [e 3 (by omega)]
  have eY : mY u = mY s := by unfold mY; rw [e 296 (by omega)]
  refine ⟨?_, ?_, ?_, ?_, ?_, ?_⟩
  · rw [e 1 (by omega), eF]; exact h.1
  · rw [e 2 (by omega), eS]; exact h.2.1
  · rw [e 296 (by omega), eY]; exact h.2.2.1
  · rw [e 3 (by omega), eT]; exact h.2.2.2.1
  · intro f hf
    rw [eF] at hf
    unfold mg
    rw [e _ (by omega)]
    exact h.g hf
  · intro k hk
    rw [eY] at hk
    unfold ml
    rw [e _ (by omega), eF]
    exact h.l hk
theorem mX_trucks {s : kS} (h : mX s) {v : Nat} (hv : v ≤ 20) : mX (upd s 3 (nI v)) := by
  have e : ∀ j, j ≠ 3 → upd s 3 (nI v) j = s j := fun j hj => upd_o hj
  have eF : mF (upd s 3 (nI v)) = mF s := by unfold mF; rw [e 1 (by omega)]
  have eS : mS (upd s 3 (nI v)) = mS s := by unfold mS; rw [e 2 (by omega)]
  have eY : mY (upd s 3 (nI v)) = mY s := by unfold mY; rw [e 296 (by omega)]
  have eT : mT (upd s 3 (nI v)) = v := by unfold mT; rw [upd_s, nI_clamp (by omega)]
  refine ⟨?_, ?_, ?_, ?_, ?_, ?_⟩
  · rw [e 1 (by omega), eF]; exact h.1
  · rw [e 2 (by omega), eS]; exact h.2.1
  · rw [e 296 (by omega), eY]; exact h.2.2.1
  · rw [upd_s, eT]; exact ⟨rfl, hv⟩
  · intro f hf
    rw [eF] at hf
    unfold mg
    rw [e _ (by omega)]
    exact h.g hf
  · intro k hk
    rw [eY] at hk
    unfold ml
    rw [e _ (by omega), eF]
    exact h.l hk
