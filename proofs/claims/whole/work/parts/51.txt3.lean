/-! a text is carried out -/
def cDo (M : kN) (k : Int32) (V : Nat → Int32) : Int32 × kN := if k = 102 then cField M (V 0) (V 1) (V 2) (V 3) else (if k = 108 then cLend M (V 0) (V 1) (V 2) else (if k = 113 then cQuota M (V 0) (V 1) else (if k = 115 then cStop M (V 0) (V 1) else cPass M (V 0))))
def aDo (s : kS) (k a b c d : Int32) : Int32 × kS := if k = 102 then aField s a b c d else (if k = 108 then aLend s a b c else (if k = 113 then aQuota s a b else (if k = 115 then aStop s a b else aPass s a)))
theorem kDo {M : kN} {s : kS} (h : kOK M s) {k : Int32} {V B : Nat → Int32} (hc : 0 < pCnt k) (e : ∀ i, i < pCnt k → V i = B i) : kOut M s (cDo M k V) (aDo s k (B 0) (B 1) (B 2) (B 3)) := by
  unfold cDo aDo
  unfold pCnt at hc e
  by_cases c1 : k = 102
  · rw [if_neg (by rw [c1]; decide), if_pos c1] at e
    rw [if_pos c1, if_pos c1, e 0 (by omega), e 1 (by omega), e 2 (by omega), e 3 (by omega)]
    exact aField_sim h _ _ _ _
  · rw [if_neg c1, if_neg c1]
    by_cases c2 : k = 108
    · rw [if_neg (by rw [c2]; decide), if_neg c1, if_pos c2] at e
      rw [if_pos c2, if_pos c2, e 0 (by omega), e 1 (by omega), e 2 (by omega)]
      exact aLend_sim h _ _ _
    · rw [if_neg c2, if_neg c2]
      by_cases c3 : k = 113
      · rw [if_neg (by rw [c3]; decide), if_neg c1, if_neg c2, if_pos c3] at e
        rw [if_pos c3, if_pos c3, e 0 (by omega), e 1 (by omega)]
        exact aQuota_sim h _ _
      · rw [if_neg c3, if_neg c3]
        by_cases c4 : k = 115
        · rw [if_neg (by rw [c4]; decide), if_neg c1, if_neg c2, if_neg c3, if_pos c4] at e
          rw [if_pos c4, if_pos c4, e 0 (by omega), e 1 (by omega)]
          exact aStop_sim h _ _
        · rw [if_neg c4, if_neg c4]
          by_cases c5 : k = 100
          · rw [if_pos c5] at e
            rw [e 0 (by omega)]
            exact aPass_sim h _
          · rw [if_neg c5, if_neg c1, if_neg c2, if_neg c3, if_neg c4] at hc
            exact absurd hc (by decide)
theorem mMayQuota_n {g t : Int32} (h : ¬ mMayQuota g t = 0) : mMayQuota g t < 0 := by
  have z : mMayQuota g t = 0 ∨ mMayQuota g t < 0 := by
    unfold mMayQuota
    repeat' split
    all_goals first | exact Or.inl rfl | exact Or.inr (by decide)
  rcases z with z | z
  · exact absurd z h
  · exact z
theorem mMayLend_n {s : kS} {g o t : Int32} (h : ¬ mMayLend s g o t = 0) : mMayLend s g o t < 0 := by
  have z : mMayLend s g o t = 0 ∨ mMayLend s g o t < 0 := by
    unfold mMayLend
    repeat' split
    all_goals first | exact Or.inl rfl | exact Or.inr (by decide)
  rcases z with z | z
  · exact absurd z h
  · exact z
theorem mMayCome_n {s : kS} {g t p b : Int32} (h : ¬ mMayCome s g t p b = 0) : mMayCome s g t p b < 0 := by
  have z : mMayCome s g t p b = 0 ∨ mMayCome s g t p b < 0 := by
    unfold mMayCome
    repeat' split
    all_goals first | exact Or.inl rfl | exact Or.inr (by decide)
  rcases z with z | z
  · exact absurd z h
  · exact z
theorem mMayStop_n {s : kS} {f l : Int32} (h : ¬ mMayStop s f l = 0) : mMayStop s f l < 0 := by
  have z : mMayStop s f l = 0 ∨ mMayStop s f l < 0 := by
    unfold mMayStop
    repeat' split
    all_goals first | exact Or.inl rfl | exact Or.inr (by decide)
  rcases z with z | z
  · exact absurd z h
  · exact z
theorem mMayPass_n {s : kS} {d : Int32} (h : ¬ mMayPass s d = 0) : mMayPass s d < 0 := by
  have z : mMayPass s d = 0 ∨ mMayPass s d < 0 := by
    unfold mMayPass
    repeat' split
    all_goals first | exact Or.inl rfl | exact Or.inr (by decide)
  rcases z with z | z
  · exact absurd z h
  · exact z
theorem i_nn {x : Int32} (h : 0 ≤ x.toInt) : ¬ x < 0 := by rw [i_lt, i_0]; omega
/-- whether an operation may be, and what is then -/
theorem aDo_may {M : kN} {s : kS} (h : kOK M s) (k a b c d : Int32) : (mMayDo s k a b c d = 0 → ¬ (aDo s k a b c d).1 < 0 ∧ (aDo s k a b c d).2 = mAct s k a b c d) ∧ (¬ mMayDo s k a b c d = 0 → (aDo s k a b c d).1 < 0) := by
  obtain ⟨hS, hX, hQ, hG, hH, hN⟩ := id h
  unfold mMayDo aDo mAct
  have h30 := hX.f30
  have h5 := hX.s5
  by_cases c1 : k = 102
  · rw [if_pos c1, if_pos c1, if_pos c1]
    unfold aField
    constructor
    · intro z
      rw [if_pos z]
      exact ⟨i_nn (kI_ge _ (by omega)), rfl⟩
    · intro z
      rw [if_neg z]
      exact mMayCome_n z
  · rw [if_neg c1, if_neg c1, if_neg c1]
    by_cases c2 : k = 108
    · rw [if_pos c2, if_pos c2, if_pos c2]
      have hk := (aLend_sim h a b c).2.1.2.2.2.2.1
      unfold aLend at hk ⊢
      constructor
      · intro z
        rw [if_pos z] at hk ⊢
        exact ⟨i_nn (hk.2 _ (pIn_n5 (mMayLend_0 z).1)).1, rfl⟩
      · intro z
        rw [if_neg z]
        exact mMayLend_n z
    · rw [if_neg c2, if_neg c2, if_neg c2]
      by_cases c3 : k = 113
      · rw [if_pos c3, if_pos c3, if_pos c3]
        unfold aQuota
        constructor
        · intro z
          rw [if_pos z]
          exact ⟨i_nn (hH.2 _ (pIn_n5 (mMayQuota_0 z).1)).1, rfl⟩
        · intro z
          rw [if_neg z]
          exact mMayQuota_n z
      · rw [if_neg c3, if_neg c3, if_neg c3]
        by_cases c4 : k = 115
        · rw [if_pos c4, if_pos c4, if_pos c4]
          unfold aStop
          constructor
          · intro z
            rw [if_pos z]
            exact ⟨i_nn (kI_ge _ (by omega)), rfl⟩
          · intro z
            rw [if_neg z]
            exact mMayStop_n z
        · rw [if_neg c4, if_neg c4, if_neg c4]
          have hk := (aPass_sim h a).2.1.2.2.2.2.2
          unfold aPass at hk ⊢
          constructor
          · intro z
            rw [if_pos z] at hk ⊢
            exact ⟨i_nn hk.1, rfl⟩
          · intro z
            rw [if_neg z]
            exact mMayPass_n z
/-- the class's orders, one after the other: how many, the mill then, the reading -/
def cRun (P : Nat → Int32) (n : Nat) : Nat → kN → kQ → Nat → Nat × kN × kQ
  | 0, M, q, z => (z, M, q)
  | f + 1, M, q, z => if (cOrd P n q).1 = true then (if (cDo M (cOrd P n q).2.2.1 (cOrd P n q).2.2.2.1).1 < 0 then (z, (cDo M (cOrd P n q).2.2.1 (cOrd P n q).2.2.2.1).2, (cOrd P n q).2) else cRun P n f (cDo M (cOrd P n q).2.2.1 (cOrd P n q).2.2.2.1).2 (pSg P n (cOrd P n q).2.1 59 59, (cOrd P n q).2.2) (z + 1)) else (z, M, (cOrd P n q).2)
theorem mTxt_keep {P : Nat → Int32} {n : Nat} : ∀ (f o a : Nat) (O : Nat → Int32), a ≤ n → (∀ j, j < 5 * o → (mTxt P n f o a O).2.2.1 j = O j) ∧ o ≤ (mTxt P n f o a O).2.2.2
  | 0, o, a, O, h => ⟨fun _ _ => rfl, Nat.le_refl _⟩
  | f + 1, o, a, O, h => by
    obtain ⟨e1, e2, e3, -⟩ := cOrd_m (P := P) (n := n) (o := o) (O := O) (q := ((a, 0, O, 0) : kQ)) h
    obtain ⟨w1, w2, w3⟩ := mOrder_w (P := P) (o := o) (O := O) h
    by_cases c : (mOrder P n o a O).1 = true
    · by_cases c2 : pAt P n (mOrder P n o a O).2.1 59 59
      · rw [mTxt_more c c2]
        have := c2.1
        obtain ⟨i1, i2⟩ := mTxt_keep (P := P) (n := n) f (o + 1) ((mOrder P n o a O).2.1 + 1) (mOrder P n o a O).2.2 (by omega)
        exact ⟨fun j hj => (i1 j (by omega)).trans (e3 j hj), by omega⟩
      · rw [mTxt_end c c2]
        exact ⟨e3, Nat.le_succ _⟩
    · rw [mTxt_no c]
      exact ⟨e3, Nat.le_refl _⟩
theorem pCnt_pos {P : Nat → Int32} {n : Nat} {q : kQ} (h : (cOrd P n q).1 = true) : 0 < pCnt (P q.1) := by
  unfold cOrd at h
  split at h
  · cases h
  · split at h
    · cases h
    · rename_i c1 c2
      unfold pCnt
      unfold cFx at c2
      repeat' split
      all_goals first | decide | skip
      exfalso
      apply c2
      simp_all [kLen]
theorem cRun_m {P : Nat → Int32} {n aE oE : Nat} {OE : Nat → Int32} : ∀ (f g o : Nat) (O : Nat → Int32) (q : kQ) (M : kN) (s : kS), q.1 ≤ n → q.2.2.2 ≤ 4 → n < q.1 + 3 * f → mTxt P n g o q.1 O = (true, aE, OE, oE) → kOK M s → (cRun P n f M q o).1 = (mRun OE s o (oE - o)).1 ∧ kOK (cRun P n f M q o).2.1 (mRun OE s o (oE - o)).2 ∧ (cRun P n f M q o).2.2.2.2.2 ≤ 4
  | 0, g, o, O, q, M, s, h1, hv, h2, h3, h => by omega
  | f + 1, 0, o, O, q, M, s, h1, hv, h2, h3, h => by cases h3
  | f + 1, g + 1, o, O, q, M, s, h1, hv, h2, h3, h => by
    obtain ⟨e1, e2, e3, e4⟩ := cOrd_m (P := P) (o := o) (O := O) h1
    obtain ⟨w1, w2, w3⟩ := mOrder_w (P := P) (o := o) (O := O) h1
    obtain ⟨v1, v2⟩ := cOrd_le (P := P) (n := n) (q := q) h1 hv
    by_cases c : (mOrder P n o q.1 O).1 = true
    · have c' : (cOrd P n q).1 = true := e1.trans c
      have w4 := w3 c
      obtain ⟨e5, e6, e7, e8⟩ := e4 c'
      have hp := pCnt_pos c'
      -- the orders as they are in the end
      have hkeep : (∀ j, j < 5 * (o + 1) → OE j = (mOrder P n o q.1 O).2.2 j) ∧ o + 1 ≤ oE := by
        by_cases c2 : pAt P n (mOrder P n o q.1 O).2.1 59 59
        · rw [mTxt_more c c2] at h3
          have := c2.1
          have hk := mTxt_keep (P := P) (n := n) g (o + 1) ((mOrder P n o q.1 O).2.1 + 1) (mOrder P n o q.1 O).2.2 (by omega)
          rw [h3] at hk
          exact hk
        · rw [mTxt_end c c2] at h3
          have a1 := congrArg (fun z => z.2.2.1) h3
          have a2 := congrArg (fun z => z.2.2.2) h3
          dsimp only at a1 a2
          rw [← a1, ← a2]
          exact ⟨fun _ _ => rfl, Nat.le_refl _⟩
      obtain ⟨hO, hoE⟩ := hkeep
      have ek : OE (5 * o) = (cOrd P n q).2.2.1 := (hO _ (by omega)).trans e6
      have hD := kDo h (k := (cOrd P n q).2.2.1) (V := (cOrd P n q).2.2.2.1) (B := fun i => OE (5 * o + 1 + i)) (by rw [e7]; exact hp) (fun i hi => by
        rw [e7] at hi
        have h4 : pCnt (P q.1) ≤ 4 := by unfold pCnt; repeat' split
                                         all_goals decide
        show _ = OE (5 * o + 1 + i)
        rw [hO _ (by omega)]
        exact e8 i hi)
      have hM := aDo_may h (OE (5 * o)) (OE (5 * o + 1)) (OE (5 * o + 2)) (OE (5 * o + 3)) (OE (5 * o + 4))
      rw [← ek] at hD
      have hD : kOut M s (cDo M (OE (5 * o)) (cOrd P n q).2.2.2.1) (aDo s (OE (5 * o)) (OE (5 * o + 1)) (OE (5 * o + 2)) (OE (5 * o + 3)) (OE (5 * o + 4))) := hD
      obtain ⟨d1, d2, d3⟩ := hD
      have eR : cRun P n (f + 1) M q o = if (cDo M (OE (5 * o)) (cOrd P n q).2.2.2.1).1 < 0 then (o, (cDo M (OE (5 * o)) (cOrd P n q).2.2.2.1).2, (cOrd P n q).2) else cRun P n f (cDo M (OE (5 * o)) (cOrd P n q).2.2.2.1).2 (pSg P n (cOrd P n q).2.1 59 59, (cOrd P n q).2.2) (o + 1) := by
        show (if (cOrd P n q).1 = true then _ else _) = _
        rw [if_pos c', ek]
      rw [eR, d1]
      by_cases cm : mMayDo s (OE (5 * o)) (OE (5 * o + 1)) (OE (5 * o + 2)) (OE (5 * o + 3)) (OE (5 * o + 4)) = 0
      · obtain ⟨m1, m2⟩ := hM.1 cm
        rw [if_neg m1, mRun_go (k := o) (o := oE) (by omega) cm]
        have eDo : mDo OE s o = (aDo s (OE (5 * o)) (OE (5 * o + 1)) (OE (5 * o + 2)) (OE (5 * o + 3)) (OE (5 * o + 4))).2 := m2.symm
        rw [eDo]
        by_cases c2 : pAt P n (mOrder P n o q.1 O).2.1 59 59
        · rw [mTxt_more c c2] at h3
          have hlt := c2.1
          have es : pSg P n (cOrd P n q).2.1 59 59 = (mOrder P n o q.1 O).2.1 + 1 := by
            unfold pSg
            rw [e2, if_pos c2]
          rw [es]
          exact cRun_m f g (o + 1) (mOrder P n o q.1 O).2.2 (((mOrder P n o q.1 O).2.1 + 1, (cOrd P n q).2.2) : kQ) _ _ (by show (mOrder P n o q.1 O).2.1 + 1 ≤ n; omega) v2 (by show n < (mOrder P n o q.1 O).2.1 + 1 + 3 * f; omega) h3 d2
        · rw [mTxt_end c c2] at h3
          have a0 := congrArg (fun z => z.1) h3
          have a2 := congrArg (fun z => z.2.2.2) h3
          dsimp only at a0 a2
          have hn : (mOrder P n o q.1 O).2.1 = n := of_decide_eq_true a0
          have es : pSg P n (cOrd P n q).2.1 59 59 = n := by
            unfold pSg
            rw [e2, if_neg c2, hn]
          rw [es, mRun_end a2]
          cases f with
          | zero => exact ⟨rfl, d2, v2⟩
          | succ f =>
            have en : cOrd P n ((n, (cOrd P n q).2.2) : kQ) = (false, ((n, (cOrd P n q).2.2) : kQ)) := if_pos (Nat.le_refl _)
            have er : cRun P n (f + 1) (cDo M (OE (5 * o)) (cOrd P n q).2.2.2.1).2 ((n, (cOrd P n q).2.2) : kQ) (o + 1) = (o + 1, (cDo M (OE (5 * o)) (cOrd P n q).2.2.2.1).2, ((n, (cOrd P n q).2.2) : kQ)) := by
              show (if (cOrd P n ((n, (cOrd P n q).2.2) : kQ)).1 = true then _ else _) = _
              rw [en]
              exact if_neg (fun z => by cases z)
            rw [er]
            exact ⟨rfl, d2, v2⟩
      · have m1 := hM.2 cm
        rw [if_pos m1, mRun_no (k := o) (o := oE) (by omega) cm]
        obtain ⟨d4, d5⟩ := d3 m1
        rw [d5] at d2
        exact ⟨rfl, d2, v2⟩
    · rw [mTxt_no c] at h3
      cases h3
