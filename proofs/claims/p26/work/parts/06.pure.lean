/-! what the class's methods answer and do, over a mill's numbers -/
abbrev pIn (v lo hi : Int32) : Prop := ¬ v < lo ∧ ¬ hi < v
def nF (M : kN) : Nat := (M 19 4).toNatClampNeg
def nS (M : kN) : Nat := (M 19 5).toNatClampNeg
def nY (M : kN) : Nat := (M 19 6).toNatClampNeg
def nT (M : kN) : Nat := (M 0 0).toNatClampNeg
def gr (M : kN) (f : Nat) : Nat := (M 6 f).toNatClampNeg
def fi (M : kN) (k : Nat) : Nat := (M 16 k).toNatClampNeg
/-- what keeps the class's indices within its rows -/
def cI (M : kN) : Prop := (M 19 4 = nI (nF M) ∧ nF M ≤ 30) ∧ (M 19 5 = nI (nS M) ∧ nS M ≤ 5) ∧ (M 19 6 = nI (nY M) ∧ nY M ≤ 400) ∧ (M 0 0 = nI (nT M) ∧ nT M ≤ 20) ∧ (∀ f, f < nF M → M 6 f = nI (gr M f) ∧ gr M f < 6) ∧ ∀ k, k < nY M → M 16 k = nI (fi M k) ∧ fi M k < nF M
theorem cI.f {M : kN} (h : cI M) : M 19 4 = nI (nF M) := h.1.1
theorem cI.f30 {M : kN} (h : cI M) : nF M ≤ 30 := h.1.2
theorem cI.s {M : kN} (h : cI M) : M 19 5 = nI (nS M) := h.2.1.1
theorem cI.s5 {M : kN} (h : cI M) : nS M ≤ 5 := h.2.1.2
theorem cI.y {M : kN} (h : cI M) : M 19 6 = nI (nY M) := h.2.2.1.1
theorem cI.y400 {M : kN} (h : cI M) : nY M ≤ 400 := h.2.2.1.2
theorem cI.t {M : kN} (h : cI M) : M 0 0 = nI (nT M) := h.2.2.2.1.1
theorem cI.t20 {M : kN} (h : cI M) : nT M ≤ 20 := h.2.2.2.1.2
theorem cI.g {M : kN} (h : cI M) {f : Nat} (hf : f < nF M) : M 6 f = nI (gr M f) ∧ gr M f < 6 := h.2.2.2.2.1 f hf
theorem cI.fk {M : kN} (h : cI M) {k : Nat} (hk : k < nY M) : M 16 k = nI (fi M k) ∧ fi M k < nF M := h.2.2.2.2.2 k hk
theorem cI.of {M N : kN} (h : cI M) (h4 : N 19 4 = M 19 4) (h5 : N 19 5 = M 19 5) (h6 : N 19 6 = M 19 6) (h0 : N 0 0 = M 0 0) (r6 : ∀ k, N 6 k = M 6 k) (r16 : ∀ k, N 16 k = M 16 k) : cI N := by
  have e4 : nF N = nF M := by unfold nF; rw [h4]
  have e5 : nS N = nS M := by unfold nS; rw [h5]
  have e6 : nY N = nY M := by unfold nY; rw [h6]
  have e0 : nT N = nT M := by unfold nT; rw [h0]
  have eg : ∀ f, gr N f = gr M f := fun f => by unfold gr; rw [r6]
  have ef : ∀ f, fi N f = fi M f := fun f => by unfold fi; rw [r16]
  refine ⟨?_, ?_, ?_, ?_, ?_, ?_⟩
  · rw [h4, e4]; exact h.1
  · rw [h5, e5]; exact h.2.1
  · rw [h6, e6]; exact h.2.2.1
  · rw [h0, e0]; exact h.2.2.2.1
  · intro f hf; rw [e4] at hf; rw [r6, eg]; exact h.g hf
  · intro k hk; rw [e6] at hk; rw [r16, ef, e4]; exact h.fk hk
def sHow (now burnt on gone : Int32) : Int32 := if burnt ≤ now then (if on ≤ 0 then (if gone ≤ 0 then 2 else 3) else 1) else 0
def sPur (burnt purity day loss : Int32) : Int32 := kmax 0 (purity - loss * kmax 0 (day - burnt))
abbrev pAhead (bf bb qf qb : Int32) : Prop := (bf = bb ∧ qb < qf) ∨ (¬ bf = bb ∧ bf < bb)
def cHow (M : kN) (f : Nat) (d : Int32) : Int32 := sHow d (M 9 f) (M 10 f) (M 13 f)
def cRoom (M : kN) : Int32 := if 400 ≤ M 19 6 then 0 else M 0 3 - M 19 7
def cLoseCane (M : kN) (f : Nat) : kN := sM (sM M 13 f (M 13 f + M 10 f)) 10 f 0
def cLoseStep (M : kN) (f : Nat) : kN := if M 19 0 - M 9 f ≤ M 0 5 then M else sM (cLoseCane M f) 4 (gr M f) (M 4 (gr M f) + M 10 f)
def cLoseTo (M : kN) : Nat → kN
  | 0 => M
  | k + 1 => cLoseStep (cLoseTo M k) k
def cLose (M : kN) : kN := cLoseTo M (nF M)
theorem cLoseStep_I {M : kN} (h : cI M) (f : Nat) : cI (cLoseStep M f) ∧ nF (cLoseStep M f) = nF M := by
  unfold cLoseStep
  split
  · exact ⟨h, rfl⟩
  · exact ⟨h.of rfl rfl rfl rfl (fun _ => rfl) (fun _ => rfl), rfl⟩
theorem cLoseTo_I {M : kN} (h : cI M) : ∀ k, cI (cLoseTo M k) ∧ nF (cLoseTo M k) = nF M
  | 0 => ⟨h, rfl⟩
  | k + 1 => by
    obtain ⟨h1, h2⟩ := cLoseTo_I h k
    obtain ⟨h3, h4⟩ := cLoseStep_I h1 k
    exact ⟨h3, h4.trans h2⟩
theorem cLose_I {M : kN} (h : cI M) : cI (cLose M) := (cLoseTo_I h _).1
abbrev pCan (M : kN) (f : Nat) : Prop := cHow M f (M 19 0) = 1 ∧ 0 < M 1 (gr M f)
abbrev pAheadM (M : kN) (f b : Nat) : Prop := pAhead (M 9 f) (M 9 b) (M 1 (gr M f)) (M 1 (gr M b))
/-- the better of a field and what was found before -/
def cBetter (M : kN) (k : Nat) (o : Option Nat) : Option Nat := match o with
  | none => some k
  | some b => if pAheadM M k b then some k else some b
/-- the best of the first fields: none, or one -/
def cBest (M : kN) : Nat → Option Nat
  | 0 => none
  | k + 1 => if pCan M k then cBetter M k (cBest M k) else cBest M k
def oI : Option Nat → Int32
  | none => -6
  | some k => nI k
theorem cBest_lt {M : kN} : ∀ {k b : Nat}, cBest M k = some b → b < k
  | 0, b, h => by cases h
  | k + 1, b, h => by
    unfold cBest at h
    split at h
    · unfold cBetter at h
      split at h
      · cases h; omega
      · rename_i b0 hb
        have := cBest_lt hb
        split at h <;> (cases h; omega)
    · have := cBest_lt h
      omega
theorem oI_ne {b : Nat} (h : b < 2 ^ 31) : ¬ oI (some b) = -6 := by
  intro e
  have h1 : (nI b).toInt = (-6 : Int32).toInt := congrArg Int32.toInt e
  rw [nI_toInt h] at h1
  have h2 : (-6 : Int32).toInt = -6 := by decide
  omega
def cNextO (M : kN) : Option Nat := if 0 < cRoom M then cBest M (nF M) else none
theorem cNextO_lt {M : kN} {b : Nat} (h : cNextO M = some b) : b < nF M := by
  unfold cNextO at h
  split at h
  · exact cBest_lt h
  · cases h
def cAppend (M : kN) (f t d : Int32) : kN := if M 19 6 < 400 then sM (sM (sM (sM (sM M 16 (nY M) f) 17 (nY M) t) 18 (nY M) d) 19 6 (M 19 6 + 1)) 19 7 (M 19 7 + t) else M
def cTonnes (M : kN) (f : Nat) : Int32 := kmin (kmin (M 0 1) (M 10 f)) (kmin (M 1 (gr M f)) (cRoom M))
/-- a load leaves its field -/
def cLeaves (M : kN) (f : Nat) : kN := sM (sM (sM (sM M 1 (gr M f) (M 1 (gr M f) - cTonnes M f)) 2 (gr M f) (M 2 (gr M f) + cTonnes M f)) 10 f (M 10 f - cTonnes M f)) 11 f (M 11 f + cTonnes M f)
def cArr (M : kN) (f : Nat) : kN := cAppend (cLeaves M f) (nI f) (cTonnes M f) (M 19 0)
def cBringLoad (M : kN) (f : Nat) : kN := sM (cArr M f) 19 2 (cArr M f 19 2 + 1)
theorem cLeaves_I {M : kN} (h : cI M) (f : Nat) : cI (cLeaves M f) := h.of rfl rfl rfl rfl (fun _ => rfl) (fun _ => rfl)
theorem cAppend_I {M : kN} (h : cI M) {f : Nat} (hf : f < nF M) (t d : Int32) : cI (cAppend M (nI f) t d) ∧ nF (cAppend M (nI f) t d) = nF M := by
  have h30 := h.f30
  unfold cAppend
  split
  · rename_i hc
    rw [h.y] at hc
    have hlt : nY M < 400 := (nI_ltI (by have := h.y400; omega) (by omega)).mp (show nI (nY M) < nI 400 from hc)
    have e6 : nY (sM (sM (sM (sM (sM M 16 (nY M) (nI f)) 17 (nY M) t) 18 (nY M) d) 19 6 (M 19 6 + 1)) 19 7 (M 19 7 + t)) = nY M + 1 := by
      show (M 19 6 + 1).toNatClampNeg = _
      rw [h.y, nI_1, nI_clamp (by omega)]
    refine ⟨⟨h.1, h.2.1, ⟨?_, by rw [e6]; omega⟩, h.2.2.2.1, h.2.2.2.2.1, ?_⟩, rfl⟩
    · rw [e6]
      show M 19 6 + 1 = _
      rw [h.y, nI_1]
    · intro k hk
      rw [e6] at hk
      show upd (M 16) (nY M) (nI f) k = nI (upd (M 16) (nY M) (nI f) k).toNatClampNeg ∧ (upd (M 16) (nY M) (nI f) k).toNatClampNeg < nF M
      unfold upd
      split
      · rw [nI_clamp (by omega)]
        exact ⟨rfl, hf⟩
      · exact h.fk (by omega)
  · exact ⟨h, rfl⟩
theorem cBringLoad_I {M : kN} (h : cI M) {f : Nat} (hf : f < nF M) : cI (cBringLoad M f) ∧ nF (cBringLoad M f) = nF M := by
  obtain ⟨h1, h2⟩ := cAppend_I (cLeaves_I h f) (f := f) hf (cTonnes M f) (M 19 0)
  exact ⟨h1.of rfl rfl rfl rfl (fun _ => rfl) (fun _ => rfl), h2⟩
theorem cBringLoad_0 (M : kN) (f k : Nat) : cBringLoad M f 0 k = M 0 k := by
  show cArr M f 0 k = M 0 k
  unfold cArr cAppend
  split <;> rfl
def cBringStep (M : kN) : kN := match cNextO M with
  | none => M
  | some f => cBringLoad M f
def cBringTo (M : kN) : Nat → kN
  | 0 => M
  | t + 1 => cBringStep (cBringTo M t)
def cBring (M : kN) : kN := cBringTo M (nT M)
theorem cBringStep_n {M : kN} (h : cNextO M = none) : cBringStep M = M := by unfold cBringStep; rw [h]
theorem cBringStep_s {M : kN} {f : Nat} (h : cNextO M = some f) : cBringStep M = cBringLoad M f := by unfold cBringStep; rw [h]
theorem cBringStep_I {M : kN} (h : cI M) : cI (cBringStep M) ∧ nF (cBringStep M) = nF M ∧ ∀ k, cBringStep M 0 k = M 0 k := by
  cases hc : cNextO M with
  | none => rw [cBringStep_n hc]; exact ⟨h, rfl, fun _ => rfl⟩
  | some f => rw [cBringStep_s hc]; exact ⟨(cBringLoad_I h (cNextO_lt hc)).1, (cBringLoad_I h (cNextO_lt hc)).2, cBringLoad_0 M f⟩
theorem cBringTo_I {M : kN} (h : cI M) : ∀ t, cI (cBringTo M t) ∧ nF (cBringTo M t) = nF M ∧ ∀ k, cBringTo M t 0 k = M 0 k
  | 0 => ⟨h, rfl, fun _ => rfl⟩
  | t + 1 => by
    obtain ⟨h1, h2, h3⟩ := cBringTo_I h t
    obtain ⟨h4, h5, h6⟩ := cBringStep_I h1
    exact ⟨h4, h5.trans h2, fun k => (h6 k).trans (h3 k)⟩
theorem cBring_I {M : kN} (h : cI M) : cI (cBring M) := (cBringTo_I h _).1
theorem cBringTo_stop {M : kN} {t : Nat} (h : cNextO (cBringTo M t) = none) : ∀ j, cBringTo M (t + j) = cBringTo M t
  | 0 => rfl
  | j + 1 => by
    have ih := cBringTo_stop h j
    show cBringStep (cBringTo M (t + j)) = _
    rw [ih, cBringStep_n h]
def cStopTo (M : kN) (d : Int32) : Nat → Bool
  | 0 => false
  | k + 1 => cStopTo M d k || decide (pIn d (M 14 k) (M 15 k))
theorem cStopTo_on {M : kN} {d : Int32} {k : Nat} (h : cStopTo M d k = true) : ∀ j, cStopTo M d (k + j) = true
  | 0 => h
  | j + 1 => by
    show (cStopTo M d (k + j) || _) = true
    rw [cStopTo_on h j]; rfl
def cStopped (M : kN) (d : Int32) : Bool := cStopTo M d (nS M)
def cCrushPart (M : kN) (f : Nat) (t : Int32) : kN :=
  sM (sM (sM (sM (sM M 19 1 (M 19 1 + t * sPur (M 9 f) (M 8 f) (M 19 0) (M 0 4) / 100)) 5 (gr M f) (M 5 (gr M f) + t * sPur (M 9 f) (M 8 f) (M 19 0) (M 0 4) * M 0 6 / 100)) 3 (gr M f) (M 3 (gr M f) + t)) 11 f (M 11 f - t)) 12 f (M 12 f + t)
def cTake (M : kN) (k : Nat) (t : Int32) : kN := sM (sM M 17 k (M 17 k - t)) 19 7 (M 19 7 - t)
theorem cCrushPart_I {M : kN} (h : cI M) (f : Nat) (t : Int32) : cI (cCrushPart M f t) := h.of rfl rfl rfl rfl (fun _ => rfl) (fun _ => rfl)
theorem cTake_I {M : kN} (h : cI M) (k : Nat) (t : Int32) : cI (cTake M k t) := h.of rfl rfl rfl rfl (fun _ => rfl) (fun _ => rfl)
/-- the loads at the head of the queue, one after the other: the mill, what it can crush yet, how many were emptied -/
def cCrushTo (M : kN) : Nat → kN × Int32 × Nat
  | 0 => (M, M 0 2, 0)
  | k + 1 => if (cCrushTo M k).2.1 ≤ 0 then cCrushTo M k else
    (cTake (cCrushPart (cCrushTo M k).1 (fi (cCrushTo M k).1 k) (kmin (cCrushTo M k).2.1 ((cCrushTo M k).1 17 k))) k (kmin (cCrushTo M k).2.1 ((cCrushTo M k).1 17 k)),
     (cCrushTo M k).2.1 - kmin (cCrushTo M k).2.1 ((cCrushTo M k).1 17 k),
     if (cCrushTo M k).1 17 k - kmin (cCrushTo M k).2.1 ((cCrushTo M k).1 17 k) = 0 then (cCrushTo M k).2.2 + 1 else (cCrushTo M k).2.2)
theorem cCrushTo_stop {M : kN} {k : Nat} (h : (cCrushTo M k).2.1 ≤ 0) : ∀ j, cCrushTo M (k + j) = cCrushTo M k
  | 0 => rfl
  | j + 1 => by
    have ih := cCrushTo_stop h j
    show (if (cCrushTo M (k + j)).2.1 ≤ 0 then cCrushTo M (k + j) else _) = _
    rw [ih, if_pos h]
theorem cCrushTo_I {M : kN} (h : cI M) : ∀ k, cI (cCrushTo M k).1 ∧ nF (cCrushTo M k).1 = nF M ∧ nY (cCrushTo M k).1 = nY M ∧ (cCrushTo M k).2.2 ≤ k
  | 0 => ⟨h, rfl, rfl, Nat.le_refl _⟩
  | k + 1 => by
    obtain ⟨h1, h2, h3, h4⟩ := cCrushTo_I h k
    unfold cCrushTo
    split
    · exact ⟨h1, h2, h3, by omega⟩
    · refine ⟨cTake_I (cCrushPart_I h1 _ _) _ _, h2, h3, ?_⟩
      dsimp only
      split <;> omega
/-- the loads behind the first d move up, the first j of them -/
def cDropTo (M : kN) (d : Nat) : Nat → kN
  | 0 => M
  | j + 1 => sM (sM (sM (cDropTo M d j) 16 j (cDropTo M d j 16 (d + j))) 17 j (cDropTo M d j 17 (d + j))) 18 j (cDropTo M d j 18 (d + j))
theorem cDropTo_o (M : kN) (d : Nat) {q : Nat} (h16 : q ≠ 16) (h17 : q ≠ 17) (h18 : q ≠ 18) : ∀ j, cDropTo M d j q = M q
  | 0 => rfl
  | j + 1 => by
    show sM (sM (sM (cDropTo M d j) 16 j _) 17 j _) 18 j _ q = _
    simp only [sM, if_neg h16, if_neg h17, if_neg h18]
    exact cDropTo_o M d h16 h17 h18 j
theorem cDropTo_q (M : kN) (d : Nat) {q : Nat} (hq : q = 16 ∨ q = 17 ∨ q = 18) : ∀ j k, cDropTo M d j q k = if k < j then M q (d + k) else M q k
  | 0, k => by simp [cDropTo]
  | j + 1, k => by
    have ih := cDropTo_q M d hq j
    have e : cDropTo M d (j + 1) q k = upd (cDropTo M d j q) j (cDropTo M d j q (d + j)) k := by
      rcases hq with rfl | rfl | rfl <;> rfl
    rw [e, upd]
    split
    · rename_i hk
      subst hk
      rw [ih, if_neg (by omega), if_pos (by omega)]
    · rw [ih]
      by_cases hk : k < j
      · rw [if_pos hk, if_pos (by omega)]
      · rw [if_neg hk, if_neg (by omega)]
def cDrop (M : kN) (d : Nat) : kN := sM (cDropTo M d (nY M - d)) 19 6 (M 19 6 - nI d)
theorem cDrop_I {M : kN} (h : cI M) {d : Nat} (hd : d ≤ nY M) : cI (cDrop M d) ∧ nF (cDrop M d) = nF M ∧ nY (cDrop M d) = nY M - d := by
  have h400 := h.y400
  have h30 := h.f30
  have e19 : ∀ k, k ≠ 6 → cDrop M d 19 k = M 19 k := fun k hk => by
    show upd (cDropTo M d (nY M - d) 19) 6 _ k = _
    rw [upd, if_neg hk, cDropTo_o M d (by decide) (by decide) (by decide)]
  have e6 : cDrop M d 19 6 = nI (nY M - d) := by
    show M 19 6 - nI d = _
    rw [h.y, pk_sub hd]
  have eY : nY (cDrop M d) = nY M - d := by
    unfold nY
    rw [e6, nI_clamp (by omega)]
    rfl
  have eF : nF (cDrop M d) = nF M := by unfold nF; rw [e19 4 (by decide)]
  have eS : nS (cDrop M d) = nS M := by unfold nS; rw [e19 5 (by decide)]
  have er : ∀ q, q ≠ 16 → q ≠ 17 → q ≠ 18 → q ≠ 19 → cDrop M d q = M q := fun q a b c dd => by
    show (if q = 19 then _ else cDropTo M d (nY M - d) q) = _
    rw [if_neg dd, cDropTo_o M d a b c]
  have eT : nT (cDrop M d) = nT M := by unfold nT; rw [er 0 (by decide) (by decide) (by decide) (by decide)]
  refine ⟨⟨?_, ?_, ?_, ?_, ?_, ?_⟩, eF, eY⟩
  · rw [eF, e19 4 (by decide)]; exact h.1
  · rw [eS, e19 5 (by decide)]; exact h.2.1
  · rw [eY]; exact ⟨e6, by omega⟩
  · rw [eT, er 0 (by decide) (by decide) (by decide) (by decide)]; exact h.2.2.2.1
  · intro f hf
    rw [eF] at hf
    unfold gr
    rw [er 6 (by decide) (by decide) (by decide) (by decide)]
    exact h.g hf
  · intro k hk
    rw [eY] at hk
    have ek : cDrop M d 16 k = M 16 (d + k) := by
      show cDropTo M d (nY M - d) 16 k = _
      rw [cDropTo_q M d (Or.inl rfl), if_pos hk]
    unfold fi
    rw [ek, eF]
    exact h.fk (by omega)
def cCrush (M : kN) : kN := cDrop (cCrushTo M (nY M)).1 (cCrushTo M (nY M)).2.2
theorem cCrush_I {M : kN} (h : cI M) : cI (cCrush M) := by
  obtain ⟨h1, h2, h3, h4⟩ := cCrushTo_I h (nY M)
  exact (cDrop_I h1 (by omega)).1
def cRest (M : kN) (idle : Prop) [Decidable idle] : kN := if idle ∨ cStopped M (M 19 0) = true then sM M 19 3 (M 19 3 + 1) else cCrush M
def cDay (M : kN) (idle : Prop) [Decidable idle] : kN := sM (cRest (cBring (cLose M)) idle) 19 0 (cRest (cBring (cLose M)) idle 19 0 + 1)
theorem cRest_I {M : kN} (h : cI M) (idle : Prop) [Decidable idle] : cI (cRest M idle) := by
  unfold cRest
  split
  · exact h.of rfl rfl rfl rfl (fun _ => rfl) (fun _ => rfl)
  · exact cCrush_I h
theorem cDay_I {M : kN} (h : cI M) (idle : Prop) [Decidable idle] : cI (cDay M idle) := (cRest_I (cBring_I (cLose_I h)) idle).of rfl rfl rfl rfl (fun _ => rfl) (fun _ => rfl)
/-- days, the first of them idle -/
def cDays (M : kN) (idle : Int32) : Nat → kN
  | 0 => M
  | k + 1 => cDay (cDays M idle k) (nI k < idle)
theorem cDays_I {M : kN} (h : cI M) (idle : Int32) : ∀ k, cI (cDays M idle k)
  | 0 => h
  | k + 1 => cDay_I (cDays_I h idle k) _
theorem pIn_nI {k b : Nat} (h : k ≤ b) (hb : b < 2 ^ 31) : pIn (nI k) 0 (nI b) := ⟨nI_pos (by omega), nI_nlt h (by omega)⟩
/-- days are let pass: the answer, and the mill then -/
def cPass (M : kN) (days : Int32) : Int32 × kN := if pIn days 1 99 then (if M 19 0 + days ≤ 1000 then (cDays M 0 days.toNatClampNeg 19 0, cDays M 0 days.toNatClampNeg) else (-5, M)) else (-2, M)
theorem pIn_nat {x lo hi : Int32} {a b : Nat} (h : pIn x lo hi) (hl : lo = nI a) (hh : hi = nI b) (ha : a < 2 ^ 31) (hb : b < 2 ^ 31) : ∃ k : Nat, x = nI k ∧ a ≤ k ∧ k ≤ b := by
  obtain ⟨h1, h2⟩ := h
  have h0 : ¬ x < 0 := by
    intro h3
    apply h1
    rw [hl]
    rw [Int32.lt_iff_toInt_lt] at h3 ⊢
    rw [nI_toInt ha]
    have : (0 : Int32).toInt = 0 := by decide
    omega
  obtain ⟨j, hj, rfl⟩ := nI_of h0
  refine ⟨j, rfl, ?_, ?_⟩
  · rw [hl, nI_ltI hj ha] at h1; omega
  · rw [hh, nI_ltI hb hj] at h2; omega
