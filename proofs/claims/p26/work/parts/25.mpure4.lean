/-! texts: the pad's characters P, n of them; a reading stands at a -/
abbrev pAt (P : Nat → Int32) (n a : Nat) (lo hi : Int32) : Prop := a < n ∧ pIn (P a) lo hi
def pSg (P : Nat → Int32) (n a : Nat) (lo hi : Int32) : Nat := if pAt P n a lo hi then a + 1 else a
def pDgO (P : Nat → Int32) (n a : Nat) (O : Nat → Int32) (j : Nat) : Nat → Int32 := if pAt P n a 48 53 then upd O j (P a - 48) else O
/-- one more digit -/
def pNuS (P : Nat → Int32) (n : Nat) (x : Int32 × Nat) : Int32 × Nat := if 0 < x.1 ∧ x.1 < 1000 ∧ pAt P n x.2 48 57 then (10 * x.1 + P x.2 - 48, x.2 + 1) else x
def pNuT (P : Nat → Int32) (n : Nat) (x : Int32 × Nat) : Nat → Int32 × Nat
  | 0 => x
  | i + 1 => pNuS P n (pNuT P n x i)
/-- the number that begins at a: what it is, and where it ends -/
def pNu (P : Nat → Int32) (n a : Nat) : Int32 × Nat := pNuT P n (P a - 48, a + 1) n
def pNuA (P : Nat → Int32) (n a : Nat) : Nat := if pAt P n a 48 57 then (pNu P n a).2 else a
def pNuO (P : Nat → Int32) (n a : Nat) (O : Nat → Int32) (j : Nat) : Nat → Int32 := if pAt P n a 48 57 then upd O j (pNu P n a).1 else O
theorem pSg_le {P : Nat → Int32} {n a : Nat} {lo hi : Int32} (h : a ≤ n) : pSg P n a lo hi ≤ n ∧ a ≤ pSg P n a lo hi := by
  unfold pSg
  split
  · rename_i c; have := c.1; omega
  · omega
theorem pNuS_le {P : Nat → Int32} {n : Nat} {x : Int32 × Nat} (h : x.2 ≤ n) : (pNuS P n x).2 ≤ n ∧ x.2 ≤ (pNuS P n x).2 := by
  unfold pNuS
  split
  · rename_i c; have := c.2.2.1; dsimp only; omega
  · omega
theorem pNuT_le {P : Nat → Int32} {n : Nat} {x : Int32 × Nat} (h : x.2 ≤ n) : ∀ i, (pNuT P n x i).2 ≤ n ∧ x.2 ≤ (pNuT P n x i).2
  | 0 => ⟨h, Nat.le_refl _⟩
  | i + 1 => by
    obtain ⟨h1, h2⟩ := pNuT_le h i
    have := pNuS_le (P := P) (n := n) (x := pNuT P n x i) h1
    exact ⟨this.1, Nat.le_trans h2 this.2⟩
theorem pNuT_stop {P : Nat → Int32} {n : Nat} {x : Int32 × Nat} {i : Nat} (h : ¬ (0 < (pNuT P n x i).1 ∧ (pNuT P n x i).1 < 1000 ∧ pAt P n (pNuT P n x i).2 48 57)) : ∀ j, pNuT P n x (i + j) = pNuT P n x i
  | 0 => rfl
  | j + 1 => by
    have ih := pNuT_stop h j
    show pNuS P n (pNuT P n x (i + j)) = _
    rw [ih]
    exact if_neg h
theorem pNuA_le {P : Nat → Int32} {n a : Nat} (h : a ≤ n) : pNuA P n a ≤ n ∧ a ≤ pNuA P n a ∧ (pAt P n a 48 57 → a + 1 ≤ pNuA P n a) := by
  unfold pNuA
  split
  · rename_i c
    have := pNuT_le (P := P) (n := n) (x := (P a - 48, a + 1)) (by have := c.1; show a + 1 ≤ n; omega) n
    unfold pNu
    dsimp only at this ⊢
    omega
  · rename_i c
    exact ⟨h, Nat.le_refl _, fun z => absurd z c⟩
/-- a reading: whether it stands, where, what it wrote -/
abbrev pX : Type := Bool × Nat × (Nat → Int32)
def pS (P : Nat → Int32) (n : Nat) (c : Int32) (x : pX) : pX := if x.1 = true then (decide (pAt P n x.2.1 c c), pSg P n x.2.1 c c, x.2.2) else x
def pD (P : Nat → Int32) (n : Nat) (j : Nat) (x : pX) : pX := if x.1 = true then (decide (pAt P n x.2.1 48 53), pSg P n x.2.1 48 53, pDgO P n x.2.1 x.2.2 j) else x
def pN (P : Nat → Int32) (n : Nat) (j : Nat) (x : pX) : pX := if x.1 = true then (decide (pAt P n x.2.1 48 57), pNuA P n x.2.1, pNuO P n x.2.1 x.2.2 j) else x
theorem pS_x {P : Nat → Int32} {n : Nat} {c : Int32} {a : Nat} {O : Nat → Int32} : pS P n c (false, a, O) = (false, a, O) := rfl
theorem pD_x {P : Nat → Int32} {n j a : Nat} {O : Nat → Int32} : pD P n j (false, a, O) = (false, a, O) := rfl
theorem pN_x {P : Nat → Int32} {n j a : Nat} {O : Nat → Int32} : pN P n j (false, a, O) = (false, a, O) := rfl
theorem pS_t {P : Nat → Int32} {n : Nat} {c : Int32} {a : Nat} {O : Nat → Int32} (h : pAt P n a c c) : pS P n c (true, a, O) = (true, pSg P n a c c, O) := by unfold pS; rw [if_pos rfl, decide_eq_true h]
theorem pD_t {P : Nat → Int32} {n j a : Nat} {O : Nat → Int32} (h : pAt P n a 48 53) : pD P n j (true, a, O) = (true, pSg P n a 48 53, pDgO P n a O j) := by unfold pD; rw [if_pos rfl, decide_eq_true h]
theorem pN_t {P : Nat → Int32} {n j a : Nat} {O : Nat → Int32} (h : pAt P n a 48 57) : pN P n j (true, a, O) = (true, pNuA P n a, pNuO P n a O j) := by unfold pN; rw [if_pos rfl, decide_eq_true h]
theorem pS_f {P : Nat → Int32} {n : Nat} {c : Int32} {a : Nat} {O : Nat → Int32} (h : ¬ pAt P n a c c) : pS P n c (true, a, O) = (false, pSg P n a c c, O) := by unfold pS; rw [if_pos rfl, decide_eq_false h]
theorem pD_f {P : Nat → Int32} {n j a : Nat} {O : Nat → Int32} (h : ¬ pAt P n a 48 53) : pD P n j (true, a, O) = (false, pSg P n a 48 53, pDgO P n a O j) := by unfold pD; rw [if_pos rfl, decide_eq_false h]
theorem pN_f {P : Nat → Int32} {n j a : Nat} {O : Nat → Int32} (h : ¬ pAt P n a 48 57) : pN P n j (true, a, O) = (false, pNuA P n a, pNuO P n a O j) := by unfold pN; rw [if_pos rfl, decide_eq_false h]
def mSort (P : Nat → Int32) (n a : Nat) : Int32 := if n ≤ a then 0 else P a
/-- an order that begins at a -/
def mOrder (P : Nat → Int32) (n o a : Nat) (O : Nat → Int32) : pX :=
  if mSort P n a = 100 then pN P n (5 * o + 1) (true, a + 1, upd O (5 * o) (mSort P n a))
  else (if mSort P n a = 102 then pN P n (5 * o + 4) (pS P n 64 (pN P n (5 * o + 3) (pS P n 37 (pN P n (5 * o + 2) (pS P n 58 (pD P n (5 * o + 1) (true, a + 1, upd O (5 * o) (mSort P n a))))))))
  else (if mSort P n a = 108 then pN P n (5 * o + 3) (pS P n 61 (pD P n (5 * o + 2) (pS P n 62 (pD P n (5 * o + 1) (true, a + 1, upd O (5 * o) (mSort P n a))))))
  else (if mSort P n a = 113 then pN P n (5 * o + 2) (pS P n 61 (pD P n (5 * o + 1) (true, a + 1, upd O (5 * o) (mSort P n a))))
  else (if mSort P n a = 115 then pN P n (5 * o + 2) (pS P n 45 (pN P n (5 * o + 1) (true, a + 1, upd O (5 * o) (mSort P n a))))
  else (false, a, upd O (5 * o) (mSort P n a))))))
/-- it goes on, never back, never behind the end; and so far it has gone if it stands -/
def pW (b n k : Nat) (x : pX) : Prop := b ≤ x.2.1 ∧ x.2.1 ≤ n ∧ (x.1 = true → b + k ≤ x.2.1)
theorem pS_w {P : Nat → Int32} {n b k : Nat} {c : Int32} {x : pX} (h : pW b n k x) : pW b n k (pS P n c x) := by
  obtain ⟨h1, h2, h3⟩ := h
  unfold pS
  split
  · rename_i hx
    have := pSg_le (P := P) (lo := c) (hi := c) h2
    have := h3 hx
    exact ⟨by dsimp only; omega, by dsimp only; omega, fun _ => by dsimp only; omega⟩
  · exact ⟨h1, h2, h3⟩
theorem pD_w {P : Nat → Int32} {n b k j : Nat} {x : pX} (h : pW b n k x) : pW b n k (pD P n j x) := by
  obtain ⟨h1, h2, h3⟩ := h
  unfold pD
  split
  · rename_i hx
    have := pSg_le (P := P) (lo := 48) (hi := 53) h2
    have := h3 hx
    exact ⟨by dsimp only; omega, by dsimp only; omega, fun _ => by dsimp only; omega⟩
  · exact ⟨h1, h2, h3⟩
theorem pN_w {P : Nat → Int32} {n b k j : Nat} {x : pX} (h : pW b n k x) : pW b n (k + 1) (pN P n j x) := by
  obtain ⟨h1, h2, h3⟩ := h
  unfold pN
  split
  · rename_i hx
    have h4 := pNuA_le (P := P) h2
    have := h3 hx
    exact ⟨by dsimp only; omega, by dsimp only; omega, fun hz => by dsimp only at hz ⊢; have := h4.2.2 (of_decide_eq_true hz); omega⟩
  · rename_i hx
    exact ⟨h1, h2, fun z => absurd z hx⟩
theorem pW_weak {b n k k2 : Nat} {x : pX} (h : pW b n k x) (hk : k2 ≤ k) : pW b n k2 x := ⟨h.1, h.2.1, fun z => by have := h.2.2 z; omega⟩
theorem mOrder_w {P : Nat → Int32} {n o a : Nat} {O : Nat → Int32} (h : a ≤ n) : pW a n 2 (mOrder P n o a O) := by
  have h0 : ∀ O2, ¬ n ≤ a → pW a n 1 (true, a + 1, O2) := fun O2 hc => ⟨by dsimp only; omega, by dsimp only; omega, fun _ => by dsimp only; omega⟩
  have hn : mSort P n a ≠ 0 → ¬ n ≤ a := fun z c => z (if_pos c)
  unfold mOrder
  split
  · rename_i c; exact pN_w (h0 _ (hn (by rw [c]; decide)))
  · split
    · rename_i c; exact pW_weak (pN_w (pS_w (pN_w (pS_w (pN_w (pS_w (pD_w (h0 _ (hn (by rw [c]; decide)))))))))) (by omega)
    · split
      · rename_i c; exact pN_w (pS_w (pD_w (pS_w (pD_w (h0 _ (hn (by rw [c]; decide)))))))
      · split
        · rename_i c; exact pN_w (pS_w (pD_w (h0 _ (hn (by rw [c]; decide)))))
        · split
          · rename_i c; exact pW_weak (pN_w (pS_w (pN_w (h0 _ (hn (by rw [c]; decide)))))) (by omega)
          · exact ⟨Nat.le_refl _, h, fun z => by cases z⟩
/-- the text from a on, whose orders so far are o: whether it is one; where the reading stopped; the orders; how many -/
def mTxt (P : Nat → Int32) (n : Nat) : Nat → Nat → Nat → (Nat → Int32) → Bool × Nat × (Nat → Int32) × Nat
  | 0, o, a, O => (false, a, O, o)
  | f + 1, o, a, O => if (mOrder P n o a O).1 = true then (if pAt P n (mOrder P n o a O).2.1 59 59 then mTxt P n f (o + 1) ((mOrder P n o a O).2.1 + 1) (mOrder P n o a O).2.2 else (decide ((mOrder P n o a O).2.1 = n), (mOrder P n o a O).2.1, (mOrder P n o a O).2.2, o + 1)) else (false, (mOrder P n o a O).2.1, (mOrder P n o a O).2.2, o)
/-- the reference with its reading's numbers -/
def pWr (R : kN) (a : Nat) (O : Nat → Int32) (o : Nat) : kN := sM (sM (sR R 6 O) 7 2 (nI a)) 7 3 (nI o)
def mText (R : kN) : Bool × Nat × (Nat → Int32) × Nat := mTxt (R 5) (pn R) (pn R + 1) 0 0 (R 6)
def mFault (R : kN) : Int32 := if (mText R).1 = true then -6 else nI (mText R).2.1
def mMayDo (s : kS) (k a b c d : Int32) : Int32 := if k = 102 then mMayCome s a b c d else (if k = 108 then mMayLend s a b c else (if k = 113 then mMayQuota a b else (if k = 115 then mMayStop s a b else mMayPass s a)))
def mLendRow (s : kS) (g o : Nat) (t : Int32) : kS := upd (upd s (10 + g) (s (10 + g) - t)) (10 + o) (upd s (10 + g) (s (10 + g) - t) (10 + o) + t)
def mAct (s : kS) (k a b c d : Int32) : kS := if k = 102 then mComes s a b c d else (if k = 108 then mLendRow s a.toNatClampNeg b.toNatClampNeg c else (if k = 113 then upd s (10 + a.toNatClampNeg) b else (if k = 115 then mStops s a b else mDays s 0 a.toNatClampNeg)))
/-- the orders, from the k-th on, n of them: how many are carried out, and the row then -/
def mRun (O : Nat → Int32) (s : kS) (k : Nat) : Nat → Nat × kS
  | 0 => (k, s)
  | n + 1 => if mMayDo s (O (5 * k)) (O (5 * k + 1)) (O (5 * k + 2)) (O (5 * k + 3)) (O (5 * k + 4)) = 0 then mRun O (mAct s (O (5 * k)) (O (5 * k + 1)) (O (5 * k + 2)) (O (5 * k + 3)) (O (5 * k + 4))) (k + 1) n else (k, s)
