/-! the mill crushes -/
theorem mYd_sub {s : kS} {g : Nat} {t : Int32} : ∀ n, mYd (upd s (297 + 3 * g + 1) (s (297 + 3 * g + 1) - t)) n = if g < n then mYd s n - t else mYd s n
  | 0 => by rw [if_neg (by omega)]; rfl
  | n + 1 => by
    show mYd (upd s (297 + 3 * g + 1) (s (297 + 3 * g + 1) - t)) n + upd s (297 + 3 * g + 1) (s (297 + 3 * g + 1) - t) (297 + 3 * n + 1) = _
    rw [mYd_sub n]
    have e : mYd s (n + 1) = mYd s n + s (297 + 3 * n + 1) := rfl
    by_cases h : n = g
    · subst h
      rw [if_neg (by omega), upd_s, if_pos (by omega), e, Int32.sub_eq_add_neg, Int32.sub_eq_add_neg, Int32.add_assoc]
    · rw [upd_o (by omega)]
      by_cases h2 : g < n
      · rw [if_pos h2, if_pos (by omega), e, Int32.sub_eq_add_neg, Int32.sub_eq_add_neg, i_swap]
      · rw [if_neg h2, if_neg (by omega), e]
theorem mCrushes_eq {u : kS} {f : Nat} {t : Int32} (hf : f < 30) (hg : mg u f < 6) : mCrushes u f t = upd (upd (upd (upd (upd (upd (upd u (56 + 8 * f + 5) (u (56 + 8 * f + 5) - t)) (56 + 8 * f + 6) (u (56 + 8 * f + 6) + t)) 26 (u 26 + t)) 27 (u 27 + t * mPur u f / 100)) 29 (u 29 + mPaid u f t)) (32 + 4 * mg u f + 1) (u (32 + 4 * mg u f + 1) + t)) (32 + 4 * mg u f + 3) (u (32 + 4 * mg u f + 3) + mPaid u f t) := by
  have x1 : mCr1 u f t (56 + 8 * f + 6) = u (56 + 8 * f + 6) := by unfold mCr1; rw [upd_o (by omega)]
  have x2 : mCr2 u f t 26 = u 26 := by unfold mCr2 mCr1; rw [upd_o (by omega), upd_o (by omega)]
  have x3 : mCr3 u f t 27 = u 27 := by unfold mCr3 mCr2 mCr1; rw [upd_o (by omega), upd_o (by omega), upd_o (by omega)]
  have x4 : mCr4 u f t 29 = u 29 := by unfold mCr4 mCr3 mCr2 mCr1; rw [upd_o (by omega), upd_o (by omega), upd_o (by omega), upd_o (by omega)]
  have x5 : mCr5 u f t (32 + 4 * mg u f + 1) = u (32 + 4 * mg u f + 1) := by unfold mCr5 mCr4 mCr3 mCr2 mCr1; rw [upd_o (by omega), upd_o (by omega), upd_o (by omega), upd_o (by omega), upd_o (by omega)]
  have x6 : mCr6 u f t (32 + 4 * mg u f + 3) = u (32 + 4 * mg u f + 3) := by unfold mCr6 mCr5 mCr4 mCr3 mCr2 mCr1; rw [upd_o (by omega), upd_o (by omega), upd_o (by omega), upd_o (by omega), upd_o (by omega), upd_o (by omega)]
  show upd (mCr6 u f t) _ (mCr6 u f t (32 + 4 * mg u f + 3) + _) = _
  rw [x6]
  show upd (upd (mCr5 u f t) _ (mCr5 u f t _ + _)) _ _ = _
  rw [x5]
  show upd (upd (upd (mCr4 u f t) _ (mCr4 u f t _ + _)) _ _) _ _ = _
  rw [x4]
  show upd (upd (upd (upd (mCr3 u f t) _ (mCr3 u f t _ + _)) _ _) _ _) _ _ = _
  rw [x3]
  show upd (upd (upd (upd (upd (mCr2 u f t) _ (mCr2 u f t _ + _)) _ _) _ _) _ _) _ _ = _
  rw [x2]
  show upd (upd (upd (upd (upd (upd (mCr1 u f t) _ (mCr1 u f t _ + _)) _ _) _ _) _ _) _ _) _ _ = _
  rw [x1]
  rfl
/-- where both stand in the mill's turns -/
def kCr (s : kS) (i : Nat) (x : kN × Int32 × Nat) (y : kS × Int32 × Nat) : Prop :=
  kSm (mF s) (mS s) (mY s) x.1 y.1 ∧ kTl (mY s) x.1 y.1 ∧ x.2.1 = y.2.1 ∧ x.2.2 = y.2.2 ∧ (∀ j, j < y.2.2 → y.1 (297 + 3 * j + 1) = 0) ∧ ∃ i', mMi s i' y ∧ (¬ y.2.1 ≤ 0 → i' = i)
def cCrushS (x : kN × Int32 × Nat) (k : Nat) : kN × Int32 × Nat := if x.2.1 ≤ 0 then x else (cTake (cCrushPart x.1 (fi x.1 k) (kmin x.2.1 (x.1 17 k))) k (kmin x.2.1 (x.1 17 k)), x.2.1 - kmin x.2.1 (x.1 17 k), if x.1 17 k - kmin x.2.1 (x.1 17 k) = 0 then x.2.2 + 1 else x.2.2)
theorem cCrushPart_m {N : kN} {u : kS} {nF nS nY f : Nat} {t : Int32} (h : kSm nF nS nY N u) (hT : kTl nY N u) (hF : nF ≤ 30) (hS : nS ≤ 5) (hf : f < nF) (hg : mg u f < 6) : kSm nF nS nY (cCrushPart N f t) (mCrushes u f t) ∧ kTl nY (cCrushPart N f t) (mCrushes u f t) := by
  have eg := kSm_gr h hf
  have e5 : N 11 f = u (56 + 8 * f + 5) := h.fd (i := 5) hf (by omega)
  have e6 : N 12 f = u (56 + 8 * f + 6) := h.fd (i := 6) hf (by omega)
  have q3 : N 3 (mg u f) = u (32 + 4 * mg u f + 1) := h.gw (i := 1) hg (by omega)
  have q5 : N 5 (mg u f) = u (32 + 4 * mg u f + 3) := h.gw (i := 3) hg (by omega)
  have e06 : N 0 6 = u 9 := h.se (k := 6) (by omega)
  have eP := sPur_m h hf
  have eC : cCrushPart N f t = sM (sM (sM (sM (sM N 11 f (u (56 + 8 * f + 5) - t)) 12 f (u (56 + 8 * f + 6) + t)) 19 1 (u 27 + t * mPur u f / 100)) 3 (mg u f) (u (32 + 4 * mg u f + 1) + t)) 5 (mg u f) (u (32 + 4 * mg u f + 3) + mPaid u f t) := by
    unfold cCrushPart mPaid
    rw [eP, eg, e5, e6, q3, q5, e06, h.sug]
    rw [sM_comm (q := 3) (q' := 11) (by decide), sM_comm (q := 5) (q' := 11) (by decide), sM_comm (q := 19) (q' := 11) (by decide), sM_comm (q := 3) (q' := 12) (by decide), sM_comm (q := 5) (q' := 12) (by decide), sM_comm (q := 19) (q' := 12) (by decide), sM_comm (q := 5) (q' := 3) (by decide)]
  rw [mCrushes_eq (by omega) hg]
  have k1 := h.put hF hS 11 f (56 + 8 * f + 5) (v := u (56 + 8 * f + 5) - t) (kRl_fd 5 (by omega) (by omega)) rfl
  have k2 := k1.put hF hS 12 f (56 + 8 * f + 6) (v := u (56 + 8 * f + 6) + t) (kRl_fd 6 (by omega) (by omega)) rfl
  have k3 := k2.putR (j := 26) (w := u 26 + t) (kRl_no hF hS (by omega))
  have k4 := k3.put hF hS 19 1 27 (v := u 27 + t * mPur u f / 100) (kRl_1) rfl
  have k5 := k4.putR (j := 29) (w := u 29 + mPaid u f t) (kRl_no hF hS (by omega))
  have k6 := k5.put hF hS 3 (mg u f) (32 + 4 * mg u f + 1) (v := u (32 + 4 * mg u f + 1) + t) (kRl_gw 1 (by omega) (by omega)) rfl
  have k7 := k6.put hF hS 5 (mg u f) (32 + 4 * mg u f + 3) (v := u (32 + 4 * mg u f + 3) + mPaid u f t) (kRl_gw 3 (by omega) (by omega)) rfl
  obtain ⟨t1, t2, t3, t4⟩ := hT
  refine ⟨by rw [eC]; exact k7, ?_, ?_, ?_, ?_⟩
  · rw [eC]
    show N 19 7 = _
    rw [t1]
    exact (mYd_cong _ (fun k _ => by rw [upd_o (by omega), upd_o (by omega), upd_o (by omega), upd_o (by omega), upd_o (by omega), upd_o (by omega), upd_o (by omega)])).symm
  · rw [eC]
    show sTo (upd (N 3) (mg u f) (u (32 + 4 * mg u f + 1) + t)) 6 = _
    rw [← q3, sTo_upd, if_pos hg, t2, upd_o (by omega), upd_o (by omega), upd_o (by omega), upd_o (by omega), upd_s]
  · rw [eC]
    show sTo (N 4) 6 = _
    rw [t3, upd_o (by omega), upd_o (by omega), upd_o (by omega), upd_o (by omega), upd_o (by omega), upd_o (by omega), upd_o (by omega)]
  · rw [eC]
    show sTo (upd (N 5) (mg u f) (u (32 + 4 * mg u f + 3) + mPaid u f t)) 6 = _
    rw [← q5, sTo_upd, if_pos hg, t4, upd_o (by omega), upd_o (by omega), upd_s]
theorem cTake_o (M : kN) (k : Nat) (t : Int32) {q : Nat} (h1 : q ≠ 17) (h2 : q ≠ 19) : cTake M k t q = M q := by
  unfold cTake
  simp only [sM, if_neg h1, if_neg h2]
theorem cTake_197 (M : kN) (k : Nat) (t : Int32) : cTake M k t 19 7 = M 19 7 - t := by
  unfold cTake
  rw [sM_at, if_pos ⟨rfl, rfl⟩]
theorem kCr_step {s : kS} {i : Nat} {x : kN × Int32 × Nat} {y : kS × Int32 × Nat} (h : kCr s i x y) (hX : mX s) (hi : i < mY s) : kCr s (i + 1) (cCrushS x i) (mMillStep y) := by
  obtain ⟨N, left, k⟩ := x
  obtain ⟨u, left', k'⟩ := y
  obtain ⟨h1, h2, h3, h4, h5, i', h6, h7⟩ := h
  dsimp only at h1 h2 h3 h4 h5 h7
  subst h3 h4
  by_cases c : left ≤ 0
  · have e1 : cCrushS (N, left, k) i = (N, left, k) := if_pos c
    rw [e1, mMillStep_end (x := (u, left, k)) (Or.inl c)]
    exact ⟨h1, h2, rfl, rfl, h5, i', h6, fun z => absurd c z⟩
  · have hii := h7 c
    subst hii
    obtain ⟨a1, a2, a3, a4, a5, a6, a7, a8, a9⟩ := id h6
    dsimp only at a1 a2 a3 a4 a5 a6
    have hk := a6 c
    subst hk
    have hF := hX.f30
    have hS := hX.s5
    have hY : ¬ mY u ≤ i' := by omega
    have hm := mMi_step h6 c hY
    obtain ⟨c1, c2⟩ := a1.l (k := i') (by omega)
    have hf : ml u i' < mF s := by omega
    have hg := (a1.g c2).2
    have e1 : N 17 i' = u (297 + 3 * i' + 1) := h1.ld (i := 1) hi (by omega)
    have e0 : N 16 i' = u (297 + 3 * i') := h1.ld (i := 0) hi (by omega)
    have ef : fi N i' = ml u i' := by unfold fi ml; rw [e0]
    obtain ⟨k1, k2⟩ := cCrushPart_m (t := mLeast left (u (297 + 3 * i' + 1))) h1 h2 hF hS hf hg
    have ec : cCrushS (N, left, i') i' = (cTake (cCrushPart N (ml u i') (mLeast left (u (297 + 3 * i' + 1)))) i' (mLeast left (u (297 + 3 * i' + 1))), left - mLeast left (u (297 + 3 * i' + 1)), if u (297 + 3 * i' + 1) - mLeast left (u (297 + 3 * i' + 1)) = 0 then i' + 1 else i') := by
      unfold cCrushS
      rw [if_neg c]
      show (cTake (cCrushPart N (fi N i') (kmin left (N 17 i'))) i' (kmin left (N 17 i')), left - kmin left (N 17 i'), if N 17 i' - kmin left (N 17 i') = 0 then i' + 1 else i') = _
      rw [kmin_m, e1, ef]
    have c3 := (mCrushes_X a1 c2 (mLeast left (u (297 + 3 * i' + 1)))).2.2
    have em : mMillStep (u, left, i') = (upd (mCrushes u (ml u i') (mLeast left (u (297 + 3 * i' + 1)))) (297 + 3 * i' + 1) (mCrushes u (ml u i') (mLeast left (u (297 + 3 * i' + 1))) (297 + 3 * i' + 1) - mLeast left (u (297 + 3 * i' + 1))), left - mLeast left (u (297 + 3 * i' + 1)), if u (297 + 3 * i' + 1) - mLeast left (u (297 + 3 * i' + 1)) = 0 then i' + 1 else i') := by
      unfold mMillStep
      rw [if_neg c, if_neg hY]
    rw [ec]
    rw [em] at hm ⊢
    have e17 : cCrushPart N (ml u i') (mLeast left (u (297 + 3 * i' + 1))) 17 i' = mCrushes u (ml u i') (mLeast left (u (297 + 3 * i' + 1))) (297 + 3 * i' + 1) := k1.ld (i := 1) hi (by omega)
    have k3 := (k1.put hF hS 17 i' (297 + 3 * i' + 1) (v := cCrushPart N (ml u i') (mLeast left (u (297 + 3 * i' + 1))) 17 i' - mLeast left (u (297 + 3 * i' + 1))) (kRl_ld 1 (by omega) (by omega)) (by rw [e17])).putM (v := cCrushPart N (ml u i') (mLeast left (u (297 + 3 * i' + 1))) 19 7 - mLeast left (u (297 + 3 * i' + 1)))
    obtain ⟨t1, t2, t3, t4⟩ := k2
    refine ⟨k3, ⟨?_, ?_, ?_, ?_⟩, rfl, rfl, ?_, i' + 1, hm, fun _ => rfl⟩
    · dsimp only
      rw [cTake_197, mYd_sub, if_pos hi, t1]
    · dsimp only
      rw [upd_o (by omega), cTake_o _ _ _ (by omega) (by omega)]; exact t2
    · dsimp only
      rw [upd_o (by omega), cTake_o _ _ _ (by omega) (by omega)]; exact t3
    · dsimp only
      rw [upd_o (by omega), cTake_o _ _ _ (by omega) (by omega)]; exact t4
    · dsimp only
      intro j hj
      by_cases hji : j = i'
      · subst hji
        rw [upd_s, c3 _ (by omega)]
        split at hj
        · assumption
        · omega
      · rw [upd_o (by omega), c3 _ (by omega)]
        refine h5 j ?_
        split at hj <;> omega
theorem cCrushTo_S {M : kN} (k : Nat) : cCrushTo M (k + 1) = cCrushS (cCrushTo M k) k := rfl
theorem kCr_to {M : kN} {s : kS} (h : kSim M s) (hX : mX s) : ∀ i, i ≤ mY s → kCr s i (cCrushTo M i) (mMillTo s i)
  | 0, _ => ⟨h.1, h.2, h.1.se (k := 2) (by omega), rfl, fun j hj => absurd hj (Nat.not_lt_zero _), 0, mMi_0 hX, fun _ => rfl⟩
  | i + 1, hi => kCr_step (kCr_to h hX i (by omega)) hX (by omega)
theorem mYd_shift {N u : kS} {k : Nat} (hz : ∀ j, j < k → N (297 + 3 * j + 1) = 0) : ∀ n, (∀ j, j < n → u (297 + 3 * j + 1) = N (297 + 3 * (j + k) + 1)) → mYd u n = mYd N (n + k)
  | 0, _ => by
    rw [Nat.zero_add]
    have : ∀ m, m ≤ k → mYd N m = 0 := by
      intro m
      induction m with
      | zero => intro _; rfl
      | succ m ih =>
        intro hm
        show mYd N m + N (297 + 3 * m + 1) = 0
        rw [ih (by omega), hz m (by omega)]
        rfl
    exact (this k (Nat.le_refl _)).symm
  | n + 1, h => by
    rw [show n + 1 + k = (n + k) + 1 by omega]
    show mYd u n + _ = mYd N (n + k) + _
    rw [mYd_shift hz n (fun j hj => h j (by omega)), h n (by omega)]
theorem mMills_sim {M : kN} {s : kS} (h : kSim M s) (hX : mX s) : kSim (cCrush M) (mMills s) := by
  obtain ⟨h1, h2, h3, h4, h5, i', h6, h7⟩ := kCr_to h hX (mY s) (Nat.le_refl _)
  have eM : mMillTo s (mY s + 1) = mMillTo s (mY s) := by
    refine mMillTo_stop (i := mY s) ?_ 1
    by_cases c : (mMillTo s (mY s)).2.1 ≤ 0
    · exact Or.inl c
    · have e := h7 c
      subst e
      exact Or.inr (by rw [h6.2.2.1]; have := h6.2.2.2.2.2.1 c; omega)
  unfold cCrush mMills
  rw [eM, (kSim_n h).2.2.1]
  obtain ⟨a1, a2, a3, a4, -, -, a7, -⟩ := h6
  generalize cCrushTo M (mY s) = x at h1 h2 h3 h4
  generalize mMillTo s (mY s) = y at h1 h2 h3 h4 h5 a1 a2 a3 a4 a7
  obtain ⟨N, left, k⟩ := x
  obtain ⟨u, left', k'⟩ := y
  dsimp only at *
  subst h4
  have h30 := hX.f30
  have hs5 := hX.s5
  have h400 := hX.y400
  have e := mDropped_at u k
  rw [a3] at e
  have eN : nY N = mY s := by
    show (N 19 6).toNatClampNeg = _
    rw [h1.cY, a1.y, a3, nI_clamp (by omega)]
  have eY : mY (mDropped u k) = mY s - k := by
    show (mDropped u k 296).toNatClampNeg = _
    rw [e, if_pos rfl]
    exact nI_clamp (by omega)
  have lo : ∀ j, j < 296 → mDropped u k j = u j := fun j hj => by rw [e, if_neg (by omega), if_neg (by omega)]
  have eF : mF (mDropped u k) = mF s := by unfold mF; rw [lo 1 (by omega)]; exact a2
  have eS : mS (mDropped u k) = mS s := by unfold mS; rw [lo 2 (by omega), a7 2 (by omega)]
  have hi : ∀ j i, j < mY s - k → i < 3 → mDropped u k (297 + 3 * j + i) = u (297 + 3 * (j + k) + i) := fun j i hj hi => by
    rw [e, if_neg (by omega), if_pos (by omega)]
    congr 1
    omega
  have er : ∀ q, q ≠ 16 → q ≠ 17 → q ≠ 18 → q ≠ 19 → cDrop N k q = N q := fun q a b c dd => by
    show (if q = 19 then _ else cDropTo N k (nY N - k) q) = _
    rw [if_neg dd, cDropTo_o N k a b c]
  have e19 : ∀ j, j ≠ 6 → cDrop N k 19 j = N 19 j := fun j hj => by
    show upd (cDropTo N k (nY N - k) 19) 6 _ j = _
    rw [upd, if_neg hj, cDropTo_o N k (by decide) (by decide) (by decide)]
  have e16 : ∀ i j, i < 3 → j < mY s - k → cDrop N k (16 + i) j = N (16 + i) (k + j) := fun i j hi hj => by
    show (if 16 + i = 19 then _ else cDropTo N k (nY N - k) (16 + i)) j = _
    rw [if_neg (by omega), cDropTo_q N k (by omega), eN, if_pos hj]
  obtain ⟨t1, t2, t3, t4⟩ := h2
  rw [show kSim (cDrop N k) (mDropped u k) = (kSm (mF (mDropped u k)) (mS (mDropped u k)) (mY (mDropped u k)) (cDrop N k) (mDropped u k) ∧ kTl (mY (mDropped u k)) (cDrop N k) (mDropped u k)) from rfl, eF, eS, eY]
  refine ⟨?_, ?_, ?_, ?_, ?_⟩
  · intro q j n hq
    by_cases cq : 16 ≤ q ∧ q < 19
    · obtain ⟨i, rfl⟩ : ∃ i, q = 16 + i := ⟨q - 16, by omega⟩
      have hj : j < mY s - k ∧ n = 297 + 3 * j + i := by rcases hq with hq | hq | hq | hq | hq | hq | ⟨hq0, hq | hq | hq | hq | hq | hq | hq⟩ <;> omega
      obtain ⟨hj, rfl⟩ := hj
      rw [e16 i j (by omega) hj, hi j i hj (by omega), show k + j = j + k by omega]
      exact h1.ld (by omega) (by omega)
    · by_cases c19 : q = 19
      · subst c19
        by_cases c6 : j = 6
        · subst c6
          have : n = 296 := by rcases hq with hq | hq | hq | hq | hq | hq | ⟨hq0, hq | hq | hq | hq | hq | hq | hq⟩ <;> omega
          subst this
          show N 19 6 - nI k = _
          rw [e, if_pos rfl, h1.cY, a1.y, a3, pk_sub (by omega)]
        · rw [e19 j c6, lo n (by rcases hq with hq | hq | hq | hq | hq | hq | ⟨hq0, hq | hq | hq | hq | hq | hq | hq⟩ <;> omega)]
          exact h1 19 j n (kRl_dn hq (fun _ _ _ => by omega) (fun _ _ _ => by omega) (fun _ _ _ => by omega))
      · rw [er q (by omega) (by omega) (by omega) c19, lo n (by rcases hq with hq | hq | hq | hq | hq | hq | ⟨hq0, hq | hq | hq | hq | hq | hq | hq⟩ <;> omega)]
        exact h1 q j n (kRl_dn hq (fun _ _ _ => by omega) (fun _ _ _ => by omega) (fun _ _ _ => by omega))
  · rw [e19 7 (by omega), t1, mYd_shift h5 (mY s - k) (fun j hj => hi j 1 hj (by omega)), show mY s - k + k = mY s by omega]
  · rw [er 3 (by omega) (by omega) (by omega) (by omega), lo 26 (by omega)]; exact t2
  · rw [er 4 (by omega) (by omega) (by omega) (by omega), lo 28 (by omega)]; exact t3
  · rw [er 5 (by omega) (by omega) (by omega) (by omega), lo 29 (by omega)]; exact t4
