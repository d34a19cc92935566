/-! settings and quotas that stay in their ranges -/
def mH (s : kS) : Prop := (∀ k, k < 7 → 0 ≤ (s (3 + k)).toInt) ∧ ∀ g, g < 6 → 0 ≤ (s (10 + g)).toInt ∧ (s (10 + g)).toInt ≤ 9999
theorem mH_of {s u : kS} (h : mH s) (e : ∀ j, 3 ≤ j → j < 16 → u j = s j) : mH u := ⟨fun k hk => by rw [e _ (by omega) (by omega)]; exact h.1 k hk, fun g hg => by rw [e _ (by omega) (by omega)]; exact h.2 g hg⟩
theorem mLoseTo_lo {s : kS} (hX : mX s) {j : Nat} (hj : j < 26) : ∀ k, k ≤ mF s → mLoseTo s k j = s j
  | 0, _ => rfl
  | k + 1, hk => by
    obtain ⟨h4, h5⟩ := mLoseTo_X hX k (by omega)
    have h30 := hX.f30
    show mLoseStep (mLoseTo s k) k j = _
    rw [mLoseStep_at (by omega) (h4.g (by omega)).2 (by omega) (by omega) (by omega) (by omega), mLoseTo_lo hX hj k (by omega)]
theorem mBrings_H {s : kS} {f : Nat} (hX : mX s) (hQ : mQ s) (hH : mH s) (hn : mNextO s = some f) : mH (mBrings s f) := by
  obtain ⟨hf, hc, hr⟩ := mNextO_can hn
  have h30 := hX.f30
  have hg := (hX.g hf).2
  obtain ⟨t1, t2, t3, t4⟩ := mTon_b hQ hc hr
  have e : ∀ j, 3 ≤ j → j < 16 → mBrings s f j = if j = 10 + mg s f then s j - mTon s f else s j := fun j h1 h2 => by
    unfold mBrings mBr6 mBr5 mBr4
    rw [upd_o (by omega), upd_o (by omega), upd_o (by omega), upd_o (by omega), upd_o (by omega), upd_o (by omega)]
    unfold mBr3
    by_cases c : j = 10 + mg s f
    · subst c
      rw [upd_s, if_pos rfl]
      unfold mBr2 mBr1
      rw [upd_o (by omega), upd_o (by omega)]
    · rw [upd_o c, if_neg c]
      unfold mBr2 mBr1
      rw [upd_o (by omega), upd_o (by omega)]
  refine ⟨fun k hk => ?_, fun g hg2 => ?_⟩
  · rw [e _ (by omega) (by omega), if_neg (by omega)]; exact hH.1 k hk
  · rw [e _ (by omega) (by omega)]
    have h1 := hH.2 g hg2
    by_cases c : 10 + g = 10 + mg s f
    · rw [if_pos c, c]
      have c' : g = mg s f := by omega
      subst c'
      rw [i_sub (by omega) (by omega)]
      omega
    · rw [if_neg c]; exact h1
theorem mBringTo_H {s : kS} (hX : mX s) (hQ : mQ s) (hH : mH s) : ∀ t, mH (mBringTo s t)
  | 0 => hH
  | t + 1 => by
    have ih := mBringTo_H hX hQ hH t
    obtain ⟨h4, h5, -⟩ := mBringTo_I hX hQ t
    show mH (mStep (mBringTo s t))
    cases hc : mNextO (mBringTo s t) with
    | none => rw [mStep_n hc]; exact ih
    | some f => rw [mStep_s hc]; exact mBrings_H h4 h5 ih hc
theorem mDay_H {s : kS} (hX : mX s) (hQ : mQ s) (hH : mH s) (P : Prop) [Decidable P] : mH (mDay s P) := by
  have h1 : mH (mLose s) := mH_of hH (fun j _ h => mLoseTo_lo hX (by omega) _ (Nat.le_refl _))
  have h2 : mH (mBring (mLose s)) := mBringTo_H (mLose_X hX) (mLose_Q hX hQ) h1 _
  obtain ⟨x1, x2⟩ := mBring_I (mLose_X hX) (mLose_Q hX hQ)
  have h3 : mH (mRest (mBring (mLose s)) P) := by
    unfold mRest
    split
    · exact mH_of h2 (fun j _ h => upd_o (by omega))
    · exact mH_of h2 (fun j _ h => mMills_kp x1 (Or.inl (by omega)))
  exact mH_of h3 (fun j h _ => upd_o (by omega))
theorem mDays_H {s : kS} (hX : mX s) (hQ : mQ s) (hH : mH s) (idle : Int32) : ∀ k, mH (mDays s idle k)
  | 0 => hH
  | k + 1 => mDay_H (mDays_I hX hQ idle k).1 (mDays_I hX hQ idle k).2 (mDays_H hX hQ hH idle k) _
/-- class and reference as they stand between calls -/
def kOK (M : kN) (s : kS) : Prop := kSim M s ∧ mX s ∧ mQ s ∧ mG s ∧ mH s ∧ mNw s 1000
/-- an operation on both: the same answer, and they go on together; an error leaves them -/
def kOut (M : kN) (s : kS) (x : Int32 × kN) (y : Int32 × kS) : Prop := x.1 = y.1 ∧ kOK x.2 y.2 ∧ (y.1 < 0 → x.2 = M ∧ y.2 = s)
theorem kOut_err {M : kN} {s : kS} (h : kOK M s) (v : Int32) : kOut M s (v, M) (v, s) := ⟨rfl, h, fun _ => ⟨rfl, rfl⟩⟩
theorem kOut_ok {M M1 : kN} {s s1 : kS} {v w : Int32} (e : v = w) (h : kOK M1 s1) (hn : 0 ≤ w.toInt) : kOut M s (v, M1) (w, s1) := ⟨e, h, fun z => by exfalso; dsimp only at z; rw [i_lt, i_0] at z; omega⟩
theorem kI_ge (n : Nat) (h : n < 2 ^ 31) : 0 ≤ (nI n).toInt := by rw [nI_toInt h]; omega
theorem pIn_int {v lo hi : Int32} (h : pIn v lo hi) : lo.toInt ≤ v.toInt ∧ v.toInt ≤ hi.toInt := by
  obtain ⟨h1, h2⟩ := h
  rw [i_lt] at h1 h2
  omega
theorem mLost_kp {M : kN} {s u : kS} (h : kTl (mY s) M s) {M1 : kN} (e3 : M1 3 = M 3) (e4 : M1 4 = M 4) (e5 : M1 5 = M 5) (e7 : M1 19 7 = M 19 7) (eu : ∀ j, j = 26 ∨ j = 28 ∨ j = 29 ∨ 297 ≤ j → u j = s j) : kTl (mY s) M1 u := by
  obtain ⟨t1, t2, t3, t4⟩ := h
  exact ⟨by rw [e7, t1]; exact (mYd_cong _ (fun k _ => eu _ (by omega))).symm, by rw [e3, eu 26 (by omega)]; exact t2, by rw [e4, eu 28 (by omega)]; exact t3, by rw [e5, eu 29 (by omega)]; exact t4⟩
/-! a setting -/
def aSet (s : kS) (k v : Int32) : Int32 × kS := if pIn k 0 6 then (if pIn v (sLo k) (sHi k) then (s (3 + k.toNatClampNeg), upd s (3 + k.toNatClampNeg) v) else (-2, s)) else (-2, s)
theorem kLo_all : ∀ j : Fin 7, kLo.getD j.val 0 = sLo (nI j.val) ∧ kHi.getD j.val 0 = sHi (nI j.val) ∧ 0 ≤ (sLo (nI j.val)).toInt ∧ (j.val = 1 → (sLo (nI j.val)).toInt = 1) ∧ (j.val = 5 → (sLo (nI j.val)).toInt = 1) ∧ (j.val = 0 → (sHi (nI j.val)).toInt = 20) ∧ (j.val = 3 → (sHi (nI j.val)).toInt = 400) := by decide +kernel
theorem mG_set {s : kS} (hG : mG s) {j : Nat} (hj : j < 7) {v : Int32} (h0 : 0 ≤ v.toInt) (h5 : j = 5 → 1 ≤ v.toInt) : mG (upd s (3 + j) v) := by
  obtain ⟨⟨g1, g2⟩, g3, g4, g5⟩ := hG
  have eF : mF (upd s (3 + j) v) = mF s := by unfold mF; rw [upd_o (by omega)]
  refine ⟨⟨?_, ?_⟩, fun f hf => ?_, by rw [upd_o (by omega)]; exact g4, ?_⟩
  · by_cases c : j = 3
    · subst c; rw [upd_s]; exact h0
    · rw [upd_o (by omega)]; exact g1
  · by_cases c : j = 5
    · subst c; rw [upd_s]; exact h5 rfl
    · rw [upd_o (by omega)]; exact g2
  · rw [eF] at hf
    rw [upd_o (by omega), upd_o (by omega)]
    exact g3 f hf
  · rw [eF, upd_o (by omega), mOn_cong _ (fun f _ => upd_o (by omega))]
    exact g5
theorem aSet_sim {M : kN} {s : kS} (h : kOK M s) (k v : Int32) : kOut M s (cSet M k v) (aSet s k v) := by
  obtain ⟨hS, hX, hQ, hG, hH, hN⟩ := id h
  unfold cSet aSet
  by_cases c : pIn k 0 6
  · rw [if_pos c, if_pos c]
    obtain ⟨j, rfl, hj0, hj1⟩ := pIn_nat c (show (0 : Int32) = nI 0 from rfl) (show (6 : Int32) = nI 6 from rfl) (by omega) (by omega)
    obtain ⟨a1, a2, a3, a4, a5, a6, a7⟩ := kLo_all ⟨j, by omega⟩
    dsimp only at a1 a2 a3 a4 a5 a6 a7
    rw [nI_clamp (by omega), a1, a2]
    by_cases c2 : pIn v (sLo (nI j)) (sHi (nI j))
    · rw [if_pos c2, if_pos c2]
      obtain ⟨v1, v2⟩ := pIn_int c2
      have v0 : 0 ≤ v.toInt := by omega
      refine kOut_ok (hS.1.se (k := j) (by omega)) ⟨?_, ?_, ?_, mG_set hG (by omega) v0 (fun z => by have := a5 z; omega), ⟨fun i hi => ?_, fun g hg => ?_⟩, ?_⟩ (hH.1 j (by omega))
      · have k1 := hS.1.put hX.f30 hX.s5 0 j (3 + j) (v := v) (kRl_se (by omega)) rfl
        have e1 : mF (upd s (3 + j) v) = mF s := by unfold mF; rw [upd_o (by omega)]
        have e2 : mS (upd s (3 + j) v) = mS s := by unfold mS; rw [upd_o (by omega)]
        have e3 : mY (upd s (3 + j) v) = mY s := by unfold mY; rw [upd_o (by omega)]
        unfold kSim
        rw [e1, e2, e3]
        exact ⟨k1, mLost_kp hS.2 rfl rfl rfl rfl (fun i hi => upd_o (by omega))⟩
      · by_cases cj : j = 0
        · subst cj
          obtain ⟨w, hw, rfl⟩ := nI_of (x := v) (by rw [i_lt, i_0]; omega)
          have := a6 rfl
          rw [nI_toInt hw] at v2
          exact mX_trucks hX (by omega)
        · refine mX_upd hX (fun z => ?_)
          have := (mKx_no z).2.1 (by omega)
          omega
      · obtain ⟨⟨q1, q2⟩, q3, q4⟩ := hQ
        have eY : mY (upd s (3 + j) v) = mY s := by unfold mY; rw [upd_o (by omega)]
        refine ⟨⟨?_, ?_⟩, fun i hi => ?_, ?_⟩
        · by_cases cj : j = 1
          · subst cj; rw [upd_s]; have := a4 rfl; omega
          · rw [upd_o (by omega)]; exact q1
        · by_cases cj : j = 3
          · subst cj; rw [upd_s]; have := a7 rfl; omega
          · rw [upd_o (by omega)]; exact q2
        · rw [upd_o (by omega)]; exact q3 i (by rw [← eY]; exact hi)
        · rw [eY, mSum_cong _ (fun i _ => upd_o (by omega))]; exact q4
      · by_cases ci : i = j
        · subst ci; rw [upd_s]; exact v0
        · rw [upd_o (by omega)]; exact hH.1 i hi
      · rw [upd_o (by omega)]; exact hH.2 g hg
      · unfold mNw; rw [upd_o (by omega)]; exact hN
    · rw [if_neg c2, if_neg c2]; exact kOut_err h _
  · rw [if_neg c, if_neg c]; exact kOut_err h _
/-! quotas -/
theorem kOK_quota {M : kN} {s : kS} (h : kOK M s) {g : Nat} (hg : g < 6) {v w : Int32} (e : v = w) (h0 : 0 ≤ w.toInt) (h9 : w.toInt ≤ 9999) : kOK (sM M 1 g v) (upd s (10 + g) w) := by
  obtain ⟨hS, hX, hQ, hG, hH, hN⟩ := h
  have k1 := hS.1.put hX.f30 hX.s5 1 g (10 + g) (v := v) (kRl_qu (by omega)) e
  have e1 : mF (upd s (10 + g) w) = mF s := by unfold mF; rw [upd_o (by omega)]
  have e2 : mS (upd s (10 + g) w) = mS s := by unfold mS; rw [upd_o (by omega)]
  have e3 : mY (upd s (10 + g) w) = mY s := by unfold mY; rw [upd_o (by omega)]
  refine ⟨?_, mX_upd hX (mKx_q hg), mQ_upd hQ (by omega) (by omega) (by omega), ?_, ⟨fun i hi => ?_, fun i hi => ?_⟩, ?_⟩
  · unfold kSim
    rw [e1, e2, e3]
    exact ⟨k1, mLost_kp hS.2 rfl rfl rfl rfl (fun i hi => upd_o (by omega))⟩
  · obtain ⟨⟨g1, g2⟩, g3, g4, g5⟩ := hG
    refine ⟨⟨by rw [upd_o (by omega)]; exact g1, by rw [upd_o (by omega)]; exact g2⟩, fun f hf => ?_, by rw [upd_o (by omega)]; exact g4, ?_⟩
    · rw [e1] at hf
      rw [upd_o (by omega), upd_o (by omega)]
      exact g3 f hf
    · rw [e1, upd_o (by omega), mOn_cong _ (fun f _ => upd_o (by omega))]
      exact g5
  · rw [upd_o (by omega)]; exact hH.1 i hi
  · by_cases ci : i = g
    · subst ci; rw [upd_s]; exact ⟨h0, h9⟩
    · rw [upd_o (by omega)]; exact hH.2 i hi
  · unfold mNw; rw [upd_o (by omega)]; exact hN
def aQuota (s : kS) (g t : Int32) : Int32 × kS := if mMayQuota g t = 0 then (s (10 + g.toNatClampNeg), upd s (10 + g.toNatClampNeg) t) else (mMayQuota g t, s)
theorem aQuota_sim {M : kN} {s : kS} (h : kOK M s) (g t : Int32) : kOut M s (cQuota M g t) (aQuota s g t) := by
  unfold cQuota aQuota mMayQuota
  by_cases c : pIn g 0 5
  · rw [if_pos c, if_pos c]
    have hg := pIn_n5 c
    by_cases c2 : pIn t 0 9999
    · rw [if_pos c2, if_pos c2, if_pos rfl]
      obtain ⟨t1, t2⟩ := pIn_int c2
      have e9 : (9999 : Int32).toInt = 9999 := by decide
      rw [i_0] at t1
      rw [e9] at t2
      exact kOut_ok (h.1.1.qu hg) (kOK_quota h hg rfl t1 t2) (h.2.2.2.2.1.2 _ hg).1
    · rw [if_neg c2, if_neg c2, if_neg (by decide)]; exact kOut_err h _
  · rw [if_neg c, if_neg c, if_neg (by decide)]; exact kOut_err h _
def aLend (s : kS) (g o t : Int32) : Int32 × kS := if mMayLend s g o t = 0 then (mLendRow s g.toNatClampNeg o.toNatClampNeg t (10 + g.toNatClampNeg), mLendRow s g.toNatClampNeg o.toNatClampNeg t) else (mMayLend s g o t, s)
theorem aLend_sim {M : kN} {s : kS} (h : kOK M s) (g o t : Int32) : kOut M s (cLend M g o t) (aLend s g o t) := by
  unfold cLend aLend mMayLend
  by_cases c1 : pIn g 0 5
  · rw [if_pos c1, if_pos c1]
    have hg := pIn_n5 c1
    by_cases c2 : pIn o 0 5
    · rw [if_pos c2, if_pos c2]
      have ho := pIn_n5 c2
      by_cases c3 : t < 1
      · rw [if_pos c3, if_pos c3, if_neg (by decide)]; exact kOut_err h _
      · rw [if_neg c3, if_neg c3]
        by_cases c4 : g = o
        · rw [if_pos c4, if_pos c4, if_neg (by decide)]; exact kOut_err h _
        · rw [if_neg c4, if_neg c4]
          have e1 := h.1.1.qu hg
          have e2 := h.1.1.qu ho
          rw [e1, e2]
          by_cases c5 : s (10 + g.toNatClampNeg) < t
          · rw [if_pos c5, if_pos c5, if_neg (by decide)]; exact kOut_err h _
          · rw [if_neg c5, if_neg c5]
            obtain ⟨x1, x2⟩ := h.2.2.2.2.1.2 _ hg
            obtain ⟨y1, y2⟩ := h.2.2.2.2.1.2 _ ho
            have i1 : (1 : Int32).toInt = 1 := by decide
            have i9 : (9999 : Int32).toInt = 9999 := by decide
            rw [i_lt, i1] at c3
            rw [i_lt] at c5
            have d1 : (9999 - t).toInt = 9999 - t.toInt := by rw [i_sub (by rw [i9]; omega) (by rw [i9]; omega), i9]
            have d2 : (9999 - s (10 + o.toNatClampNeg)).toInt = 9999 - (s (10 + o.toNatClampNeg)).toInt := by rw [i_sub (by rw [i9]; omega) (by rw [i9]; omega), i9]
            have iff : s (10 + o.toNatClampNeg) ≤ 9999 - t ↔ t ≤ 9999 - s (10 + o.toNatClampNeg) := by rw [i_le, i_le, d1, d2]; omega
            have d3 : (s (10 + g.toNatClampNeg) - t).toInt = (s (10 + g.toNatClampNeg)).toInt - t.toInt := i_sub (by omega) (by omega)
            by_cases c6 : t ≤ 9999 - s (10 + o.toNatClampNeg)
            · rw [if_pos (iff.mpr c6), if_pos c6, if_pos rfl]
              rw [i_le, d2] at c6
              have hne : o.toNatClampNeg ≠ g.toNatClampNeg := by
                obtain ⟨a, rfl, a0, a5⟩ := pIn_nat c1 (show (0 : Int32) = nI 0 from rfl) (show (5 : Int32) = nI 5 from rfl) (by omega) (by omega)
                obtain ⟨b, rfl, b0, b5⟩ := pIn_nat c2 (show (0 : Int32) = nI 0 from rfl) (show (5 : Int32) = nI 5 from rfl) (by omega) (by omega)
                rw [nI_clamp (by omega), nI_clamp (by omega)]
                intro z; subst z; exact c4 rfl
              generalize g.toNatClampNeg = a at *
              generalize o.toNatClampNeg = b at *
              have d4 : (s (10 + b) + t).toInt = (s (10 + b)).toInt + t.toInt := i_add (by omega) (by omega)
              have r1 : mLendRow s a b t = upd (upd s (10 + a) (s (10 + a) - t)) (10 + b) (s (10 + b) + t) := by
                unfold mLendRow
                rw [upd_o (k := 10 + a) (j := 10 + b) (by omega)]
              have r2 : cLendTo M a b t = sM (sM M 1 a (s (10 + a) - t)) 1 b (s (10 + b) + t) := by
                unfold cLendTo
                rw [upd_o (k := a) (j := b) (by omega), e1, e2]
              have k1 := kOK_quota h hg (v := s (10 + a) - t) rfl (by rw [d3]; omega) (by rw [d3]; omega)
              have k2 := kOK_quota k1 ho (v := s (10 + b) + t) rfl (by rw [d4]; omega) (by rw [d4]; omega)
              rw [r1, r2]
              refine kOut_ok ?_ k2 ?_
              · rw [sM_at, if_neg (by omega), sM_at, if_pos ⟨rfl, rfl⟩, upd_o (by omega), upd_s]
              · rw [upd_o (by omega), upd_s, d3]; omega
            · rw [if_neg (fun z => c6 (iff.mp z)), if_neg c6, if_neg (by decide)]; exact kOut_err h _
    · rw [if_neg c2, if_neg c2, if_neg (by decide)]; exact kOut_err h _
  · rw [if_neg c1, if_neg c1, if_neg (by decide)]; exact kOut_err h _
