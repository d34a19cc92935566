/-! the class and the reference between calls -/
theorem kSm_ext {nF nS nY : Nat} {M : kN} {s u : kS} (h : kSm nF nS nY M s) (hF : nF ≤ 30) (hS : nS ≤ 5) (hY : nY ≤ 400) (e : ∀ j, j < 1497 → u j = s j) : kSm nF nS nY M u := by
  intro q k j hj
  have hl : j < 1497 := by
    rcases hj with hj | hj | hj | hj | hj | hj | ⟨hj0, hj | hj | hj | hj | hj | hj | hj⟩ <;> omega
  rw [e j hl]
  exact h q k j hj
theorem kOK_ext {M : kN} {s u : kS} (h : kOK M s) (e : ∀ j, j < 1497 → u j = s j) : kOK M u := by
  obtain ⟨hS, hX, hQ, hG, hH, hN⟩ := h
  have h30 := hX.f30
  have h5 := hX.s5
  have h400 := hX.y400
  have eF : mF u = mF s := by unfold mF; rw [e 1 (by omega)]
  have eS : mS u = mS s := by unfold mS; rw [e 2 (by omega)]
  have eY : mY u = mY s := by unfold mY; rw [e 296 (by omega)]
  obtain ⟨t1, t2, t3, t4⟩ := hS.2
  obtain ⟨⟨q1, q2⟩, q3, q4⟩ := hQ
  obtain ⟨⟨g1, g2⟩, g3, g4, g5⟩ := hG
  refine ⟨⟨?_, ?_, ?_, ?_, ?_⟩, mX_ext hX e, ⟨⟨by rw [e 4 (by omega)]; exact q1, by rw [e 6 (by omega)]; exact q2⟩, fun k hk => ?_, ?_⟩, ⟨⟨by rw [e 6 (by omega)]; exact g1, by rw [e 8 (by omega)]; exact g2⟩, fun f hf => ?_, by rw [e 28 (by omega)]; exact g4, ?_⟩, mH_of hH (fun j _ h => e j (by omega)), by unfold mNw; rw [e 0 (by omega)]; exact hN⟩
  · rw [eF, eS, eY]; exact kSm_ext hS.1 h30 h5 h400 e
  · rw [eY, mYd_cong (mY s) (fun k hk => e _ (by omega))]; exact t1
  · rw [e 26 (by omega)]; exact t2
  · rw [e 28 (by omega)]; exact t3
  · rw [e 29 (by omega)]; exact t4
  · rw [eY] at hk; rw [e _ (by omega)]; exact q3 k hk
  · rw [eY, mSum_cong (mY s) (fun k hk => e _ (by omega))]; exact q4
  · rw [eF] at hf; rw [e _ (by omega), e _ (by omega)]; exact g3 f hf
  · rw [eF, e 28 (by omega), mOn_cong (mF s) (fun f hf => e _ (by omega))]; exact g5
def kRel (M : kN) (F : kFm) (o z : Nat) (P : Nat → Int32) (n vc : Nat) (R : kN) : Prop :=
  kOK M (R 0) ∧ (R 7 1 = nI n ∧ n ≤ 80 ∧ P = R 5 ∧ vc ≤ 4 ∧ ∀ k, k < 80 → kChr (P k)) ∧ (R 7 0 = nI z ∧ z ≤ 6 ∧ o < 7) ∧
  (∀ j, j < z → ∃ (α : Nat → Nat) (X : kN), F ((o + j) % 7) = some (α, X) ∧ kOK X (fun i => R 2 (1497 * j + i))) ∧
  ∀ q, q < 2 → (R 4 q = 0 ∧ F (7 + q) = none) ∨ (R 4 q = 1 ∧ ∃ (α : Nat → Nat) (X : kN), F (7 + q) = some (α, X) ∧ kOK X (fun i => R 3 (1497 * q + i)))
theorem kRel_kp {M : kN} {F : kFm} {o z : Nat} {P : Nat → Int32} {n vc : Nat} {R : kN} (h : kRel M F o z P n vc R) : kp R = z ∧ pn R = n := by
  obtain ⟨-, ⟨h1, h2, -⟩, ⟨h3, h4, -⟩, -⟩ := h
  unfold kp pn
  rw [h1, h3]
  exact ⟨nI_clamp (by omega), nI_clamp (by omega)⟩
theorem kRel_hk {M : kN} {F : kFm} {o z : Nat} {P : Nat → Int32} {n vc : Nat} {R : kN} (h : kRel M F o z P n vc R) : R 7 0 = nI (kp R) ∧ kp R ≤ 6 := by
  rw [(kRel_kp h).1]
  exact ⟨h.2.2.1.1, h.2.2.1.2.1⟩
theorem kRel_hn {M : kN} {F : kFm} {o z : Nat} {P : Nat → Int32} {n vc : Nat} {R : kN} (h : kRel M F o z P n vc R) : R 7 1 = nI (pn R) ∧ pn R ≤ 80 := by
  rw [(kRel_kp h).2]
  exact ⟨h.2.1.1, h.2.1.2.1⟩
/-- an operation of the reference that is recorded -/
def kRecR (R : kN) (y : Int32 × kS) : Int32 × kN := if y.1 < 0 then (y.1, R) else (y.1, sR (mRec R) 0 y.2)
theorem kRel_rec {M : kN} {F : kFm} {o z : Nat} {P : Nat → Int32} {n vc : Nat} {R : kN} {M' : kN} {r : Int32} {u : kN × kFm × Nat × Nat} {y : Int32 × kS} (h : kRel M F o z P n vc R) (hO : kOut M (R 0) (r, M') y) (hst : kSt M F o z r M' u) : r = (kRecR R y).1 ∧ kRel u.1 u.2.1 u.2.2.1 u.2.2.2 P n vc (kRecR R y).2 := by
  obtain ⟨k1, k2, ⟨k3, k4, k5⟩, k6, k7⟩ := id h
  obtain ⟨M1, F1, o1, z1⟩ := u
  obtain ⟨e1, ⟨α, X, e2⟩, e3⟩ := hst
  obtain ⟨d1, d2, d3⟩ := hO
  dsimp only at e1 e2 e3 d1 d2 d3 ⊢
  subst e1 e2
  have eo : o1 = (cRecd r o z).1 := congrArg Prod.fst e3
  have ez : z1 = (cRecd r o z).2 := congrArg Prod.snd e3
  have hF7 : ∀ q, q < 2 → kUp F ((o + z) % 7) (α, cCopy M X) (7 + q) = F (7 + q) := fun q hq => kUp_o (by have := Nat.mod_lt (o + z) (show 7 > 0 by decide); omega)
  unfold kRecR
  rw [← d1]
  unfold cRecd at eo ez
  by_cases c : r < 0
  · rw [if_pos c] at eo ez ⊢
    obtain ⟨d4, d5⟩ := d3 (d1 ▸ c)
    rw [d4]
    have eo := eo.symm
    have ez := ez.symm
    subst eo ez
    refine ⟨rfl, k1, k2, ⟨k3, k4, k5⟩, fun j hj => ?_, fun q hq => ?_⟩
    · rw [kUp_o (by omega)]; exact k6 j hj
    · rw [hF7 q hq]; exact k7 q hq
  · rw [if_neg c] at eo ez ⊢
    have kpz := (kRel_kp h).1
    refine ⟨rfl, d2, ?_, ?_, ?_, ?_⟩
    · show sR (mRec R) 0 y.2 7 1 = _ ∧ _ ∧ _ = sR (mRec R) 0 y.2 5 ∧ _
      have a1 : sR (mRec R) 0 y.2 7 1 = R 7 1 := mRec_7 R (by decide)
      have a2 : sR (mRec R) 0 y.2 5 = R 5 := mRec_o R (q := 5) (by decide) (by decide)
      rw [a1, a2]
      exact k2
    · show mRec R 7 0 = _ ∧ _
      by_cases c6 : z < 6
      · rw [if_pos c6] at eo ez
        have eo := eo.symm
        have ez := ez.symm
        subst eo ez
        have : mRec R 7 0 = nI (z + 1) := by
          unfold mRec
          rw [kpz, if_neg (by omega), sM_at, if_pos ⟨rfl, rfl⟩]
        exact ⟨this, by omega, k5⟩
      · rw [if_neg c6] at eo ez
        have eo := eo.symm
        have ez := ez.symm
        subst eo ez
        have hz : z = 6 := by omega
        have : mRec R 7 0 = nI z := by
          unfold mRec
          rw [kpz, if_pos hz, sM_at, if_pos ⟨rfl, rfl⟩, show z - 1 + 1 = z by omega]
        exact ⟨this, by omega, Nat.mod_lt _ (by decide)⟩
    · intro j hj
      show ∃ (α_1 : Nat → Nat) (X_1 : kN), _ ∧ kOK X_1 (fun i => mRec R 2 (1497 * j + i))
      by_cases c6 : z < 6
      · rw [if_pos c6] at eo ez
        have eo := eo.symm
        have ez := ez.symm
        subst eo ez
        have e2 : ∀ i, mRec R 2 i = kcy (R 0) (R 2) 0 (1497 * z) 1497 i := fun i => by
          unfold mRec
          rw [kpz, if_neg (by omega)]
          rfl
        by_cases cj : j = z
        · subst cj
          refine ⟨α, cCopy M X, kUp_s _ _ _, kOK_ext (kOK_copy k1) (fun i hi => ?_)⟩
          rw [e2]
          show (if 1497 * j ≤ 1497 * j + i ∧ 1497 * j + i < 1497 * j + 1497 then R 0 (0 + (1497 * j + i - 1497 * j)) else R 2 _) = R 0 i
          rw [if_pos (by omega)]
          congr 1
          omega
        · obtain ⟨β, Z, b1, b2⟩ := k6 j (by omega)
          refine ⟨β, Z, by rw [kUp_o (by omega)]; exact b1, kOK_ext b2 (fun i hi => ?_)⟩
          rw [e2]
          show (if 1497 * z ≤ 1497 * j + i ∧ 1497 * j + i < 1497 * z + 1497 then R 0 _ else R 2 (1497 * j + i)) = _
          rw [if_neg (by omega)]
      · rw [if_neg c6] at eo ez
        have eo := eo.symm
        have ez := ez.symm
        subst eo ez
        have hz : z = 6 := by omega
        subst hz
        have e2 : ∀ i, mRec R 2 i = kcy (R 0) (mShP (R 2) 7485) 0 7485 1497 i := fun i => by
          unfold mRec
          rw [kpz, if_pos rfl]
          rfl
        by_cases cj : j = 5
        · subst cj
          refine ⟨α, cCopy M X, by rw [show ((o + 1) % 7 + 5) % 7 = (o + 6) % 7 by omega]; exact kUp_s _ _ _, kOK_ext (kOK_copy k1) (fun i hi => ?_)⟩
          rw [e2]
          show (if 7485 ≤ 1497 * 5 + i ∧ 1497 * 5 + i < 7485 + 1497 then R 0 (0 + (1497 * 5 + i - 7485)) else mShP (R 2) 7485 _) = R 0 i
          rw [if_pos (by omega), show 0 + (1497 * 5 + i - 7485) = i by omega]
        · obtain ⟨β, Z, b1, b2⟩ := k6 (j + 1) (by omega)
          refine ⟨β, Z, by rw [kUp_o (by omega), show ((o + 1) % 7 + j) % 7 = (o + (j + 1)) % 7 by omega]; exact b1, kOK_ext b2 (fun i hi => ?_)⟩
          rw [e2]
          show (if 7485 ≤ 1497 * j + i ∧ 1497 * j + i < 7485 + 1497 then R 0 _ else mShP (R 2) 7485 (1497 * j + i)) = R 2 (1497 * (j + 1) + i)
          rw [if_neg (by omega), mShP_at, if_pos (by omega), show 1497 * j + i + 1497 = 1497 * (j + 1) + i by omega]
    · intro q hq
      rw [hF7 q hq]
      have a3 : sR (mRec R) 0 y.2 3 = R 3 := mRec_o R (q := 3) (by decide) (by decide)
      have a4 : sR (mRec R) 0 y.2 4 = R 4 := mRec_o R (q := 4) (by decide) (by decide)
      dsimp only
      rw [a3, a4]
      exact k7 q hq
theorem sM_0 (R : kN) (k : Nat) (v : Int32) : sM R 0 k v = sR R 0 (upd (R 0) k v) := by
  have := sM_row0 R (R 0) k v
  rw [sR_id] at this
  exact this
theorem mRec_0 (R : kN) : mRec R 0 = R 0 := mRec_o R (by decide) (by decide)
section RR
variable {M : kN} {R : kN} (h : kOK M (R 0))
theorem mSet_r (h : kOK M (R 0)) (k v : Int32) : mSet R k v = kRecR R (aSet (R 0) k v) := by
  unfold mSet aSet kRecR
  by_cases c : pIn k 0 6
  · rw [if_pos c, if_pos c]
    by_cases c2 : pIn v (sLo k) (sHi k)
    · rw [if_pos c2, if_pos c2]
      have hn : ¬ (R 0 (3 + k.toNatClampNeg)) < 0 := by
        obtain ⟨j, rfl, j0, j6⟩ := pIn_nat c (show (0 : Int32) = nI 0 from rfl) (show (6 : Int32) = nI 6 from rfl) (by omega) (by omega)
        rw [nI_clamp (by omega)]
        exact i_nn (h.2.2.2.2.1.1 j (by omega))
      rw [if_neg hn, sM_0, mRec_0]
    · rw [if_neg c2, if_neg c2, if_pos (show (-2 : Int32) < 0 by decide)]
  · rw [if_neg c, if_neg c, if_pos (show (-2 : Int32) < 0 by decide)]
theorem mQuota_r (h : kOK M (R 0)) (g t : Int32) : mQuota R g t = kRecR R (aQuota (R 0) g t) := by
  unfold mQuota aQuota kRecR
  by_cases c : mMayQuota g t = 0
  · rw [if_pos c, if_pos c]
    rw [if_neg (i_nn (h.2.2.2.2.1.2 _ (pIn_n5 (mMayQuota_0 c).1)).1), sM_0, mRec_0]
  · rw [if_neg c, if_neg c, if_pos (mMayQuota_n c)]
theorem mLend_r (h : kOK M (R 0)) (g o t : Int32) : mLend R g o t = kRecR R (aLend (R 0) g o t) := by
  have hk := (aLend_sim h g o t).2.1.2.2.2.2.1
  unfold mLend kRecR
  unfold aLend at hk ⊢
  by_cases c : mMayLend (R 0) g o t = 0
  · rw [if_pos c] at hk
    rw [if_pos c, if_pos c]
    have e : mLendTo (mRec R) g.toNatClampNeg o.toNatClampNeg t = sR (mRec R) 0 (mLendRow (R 0) g.toNatClampNeg o.toNatClampNeg t) := by
      have := mLendTo_row0 (mRec R) (mRec R 0) g.toNatClampNeg o.toNatClampNeg t
      rw [sR_id, mRec_0] at this
      exact this
    rw [if_neg (i_nn (hk.2 _ (pIn_n5 (mMayLend_0 c).1)).1), e]
    rfl
  · rw [if_neg c, if_neg c, if_pos (mMayLend_n c)]
theorem mField_r (h : kOK M (R 0)) (g t p b : Int32) : mField R g t p b = kRecR R (aField (R 0) g t p b) := by
  have h30 := h.2.1.f30
  unfold mField aField kRecR
  by_cases c : mMayCome (R 0) g t p b = 0
  · rw [if_pos c, if_pos c, if_neg (i_nn (kI_ge _ (by omega)))]
  · rw [if_neg c, if_neg c, if_pos (mMayCome_n c)]
theorem mStop_r (h : kOK M (R 0)) (f l : Int32) : mStop R f l = kRecR R (aStop (R 0) f l) := by
  have h5 := h.2.1.s5
  unfold mStop aStop kRecR
  by_cases c : mMayStop (R 0) f l = 0
  · rw [if_pos c, if_pos c, if_neg (i_nn (kI_ge _ (by omega)))]
  · rw [if_neg c, if_neg c, if_pos (mMayStop_n c)]
theorem mDropStop_r (h : kOK M (R 0)) (k : Int32) : mDropStop R k = kRecR R (aDrop (R 0) k) := by
  have h5 := h.2.1.s5
  unfold mDropStop aDrop kRecR
  by_cases c : pIn k 0 (R 0 2 - 1)
  · rw [if_pos c, if_pos c, if_neg (i_nn (kI_ge _ (by omega)))]
  · rw [if_neg c, if_neg c, if_pos (show (-1 : Int32) < 0 by decide)]
theorem mPass_r (h : kOK M (R 0)) (d : Int32) : mPass R d = kRecR R (aPass (R 0) d) := by
  have hk := (aPass_sim h d).2.1.2.2.2.2.2
  unfold mPass kRecR
  unfold aPass at hk ⊢
  by_cases c : mMayPass (R 0) d = 0
  · rw [if_pos c] at hk
    rw [if_pos c, if_pos c, if_neg (i_nn hk.1)]
  · rw [if_neg c, if_neg c, if_pos (mMayPass_n c)]
end RR
/-- rows of the reference that nothing hangs on -/
theorem kRel_same {M : kN} {F : kFm} {o z : Nat} {P : Nat → Int32} {n vc vc' : Nat} {R R' : kN} (h : kRel M F o z P n vc R) (hv : vc' ≤ 4) (e0 : R' 0 = R 0) (e2 : R' 2 = R 2) (e3 : R' 3 = R 3) (e4 : R' 4 = R 4) (e5 : R' 5 = R 5) (e70 : R' 7 0 = R 7 0) (e71 : R' 7 1 = R 7 1) : kRel M F o z P n vc' R' := by
  obtain ⟨k1, ⟨a1, a2, a3, a4, a5⟩, k3, k6, k7⟩ := h
  unfold kRel
  rw [e0, e2, e3, e4, e5, e70, e71]
  exact ⟨k1, ⟨a1, a2, a3, hv, a5⟩, k3, k6, k7⟩
theorem kRel_undo {M : kN} {F : kFm} {o z : Nat} {P : Nat → Int32} {n vc : Nat} {R : kN} {r : Int32} {u : kN × Nat} (h : kRel M F o z P n vc R) (hu : cUndoP M F o z r u) : r = (mUndo R).1 ∧ kRel u.1 F o u.2 P n vc (mUndo R).2 := by
  obtain ⟨k1, k2, ⟨k3, k4, k5⟩, k6, k7⟩ := id h
  have kpz := (kRel_kp h).1
  unfold cUndoP at hu
  unfold mUndo
  rw [kpz]
  by_cases c : z = 0
  · rw [if_pos c] at hu ⊢
    obtain ⟨rfl, rfl⟩ := hu
    exact ⟨rfl, h⟩
  · rw [if_neg c] at hu ⊢
    obtain ⟨M1, z1⟩ := u
    obtain ⟨rfl, ez, α, X, hF, eM⟩ := hu
    dsimp only at ez eM ⊢
    subst ez eM
    obtain ⟨β, Z, b1, b2⟩ := k6 (z - 1) (by omega)
    have hXZ : X = Z := by
      rw [hF] at b1
      exact congrArg Prod.snd (Option.some.inj b1)
    subst hXZ
    refine ⟨rfl, kOK_ext (kOK_copy b2) (fun j hj => ?_), k2, ⟨rfl, by omega, k5⟩, fun j hj => k6 j (by omega), k7⟩
    show (if 0 ≤ j ∧ j < 0 + 1497 then R 2 (1497 * (z - 1) + (j - 0)) else _) = _
    rw [if_pos (by omega)]
    rfl
theorem kRel_save {M : kN} {F : kFm} {o z : Nat} {P : Nat → Int32} {n vc : Nat} {R : kN} {q r : Int32} {u : kFm} (h : kRel M F o z P n vc R) (hu : cSaveP M F q r u) : r = (mSave R q).1 ∧ kRel M u o z P n vc (mSave R q).2 := by
  obtain ⟨k1, k2, ⟨k3, k4, k5⟩, k6, k7⟩ := id h
  unfold cSaveP at hu
  unfold mSave
  by_cases c : pIn q 0 1
  · rw [if_pos c] at hu ⊢
    obtain ⟨i, rfl, i0, i1⟩ := pIn_nat c (show (0 : Int32) = nI 0 from rfl) (show (1 : Int32) = nI 1 from rfl) (by omega) (by omega)
    rw [nI_clamp (by omega)] at hu ⊢
    obtain ⟨rfl, α, X, rfl⟩ := hu
    refine ⟨k1.1.1.cF, k1, k2, ⟨k3, k4, k5⟩, fun j hj => ?_, fun p hp => ?_⟩
    · rw [kUp_o (by have := Nat.mod_lt (o + j) (show 7 > 0 by decide); omega)]
      exact k6 j hj
    · have e4 : sM (sR R 3 (kcy (R 0) (R 3) 0 (1497 * i) 1497)) 4 i 1 4 p = if p = i then 1 else R 4 p := rfl
      have e3 : ∀ j, sM (sR R 3 (kcy (R 0) (R 3) 0 (1497 * i) 1497)) 4 i 1 3 j = kcy (R 0) (R 3) 0 (1497 * i) 1497 j := fun _ => rfl
      show (sM (sR R 3 (kcy (R 0) (R 3) 0 (1497 * i) 1497)) 4 i 1 4 p = 0 ∧ _) ∨ (sM (sR R 3 (kcy (R 0) (R 3) 0 (1497 * i) 1497)) 4 i 1 4 p = 1 ∧ ∃ (α_1 : Nat → Nat) (X_1 : kN), _ ∧ kOK X_1 (fun j => sM (sR R 3 (kcy (R 0) (R 3) 0 (1497 * i) 1497)) 4 i 1 3 (1497 * p + j)))
      rw [e4]
      by_cases cp : p = i
      · subst cp
        rw [if_pos rfl]
        refine Or.inr ⟨rfl, α, cCopy M X, kUp_s _ _ _, kOK_ext (kOK_copy k1) (fun j hj => ?_)⟩
        rw [e3]
        show (if 1497 * p ≤ 1497 * p + j ∧ 1497 * p + j < 1497 * p + 1497 then R 0 (0 + (1497 * p + j - 1497 * p)) else _) = R 0 j
        rw [if_pos (by omega)]
        congr 1
        omega
      · rw [if_neg cp, kUp_o (by omega)]
        rcases k7 p hp with b | ⟨b, β, Z, b1, b2⟩
        · exact Or.inl b
        · refine Or.inr ⟨b, β, Z, b1, kOK_ext b2 (fun j hj => ?_)⟩
          rw [e3]
          show (if 1497 * i ≤ 1497 * p + j ∧ 1497 * p + j < 1497 * i + 1497 then R 0 _ else R 3 (1497 * p + j)) = _
          rw [if_neg (by omega)]
  · rw [if_neg c] at hu ⊢
    obtain ⟨rfl, rfl⟩ := hu
    exact ⟨rfl, h⟩
theorem kRel_restore {M : kN} {F : kFm} {o z : Nat} {P : Nat → Int32} {n vc : Nat} {R : kN} {q r : Int32} {u : kN × kFm × Nat × Nat} (h : kRel M F o z P n vc R) (hu : cRestP M F o z q r u) : r = (mRestore R q).1 ∧ kRel u.1 u.2.1 u.2.2.1 u.2.2.2 P n vc (mRestore R q).2 := by
  obtain ⟨k1, k2, ⟨k3, k4, k5⟩, k6, k7⟩ := id h
  unfold cRestP at hu
  unfold mRestore
  by_cases c : pIn q 0 1
  · rw [if_pos c] at hu ⊢
    obtain ⟨i, rfl, i0, i1⟩ := pIn_nat c (show (0 : Int32) = nI 0 from rfl) (show (1 : Int32) = nI 1 from rfl) (by omega) (by omega)
    rw [nI_clamp (by omega)] at hu ⊢
    rcases k7 i (by omega) with ⟨b, bn⟩ | ⟨b, β, Z, b1, b2⟩
    · rw [bn] at hu
      obtain ⟨rfl, rfl⟩ := hu
      rw [if_pos b]
      exact ⟨rfl, h⟩
    · rw [b1] at hu
      obtain ⟨er, hst⟩ := hu
      dsimp only at er hst
      subst er
      rw [if_neg (by rw [b]; decide)]
      have ey : mResto R i = sR (mRec R) 0 (kcy (R 3) (R 0) (1497 * i) 0 1497) := by
        unfold mResto
        rw [mRec_0, mRec_o R (q := 3) (by decide) (by decide)]
      have hk : kOK (cCopy Z M) (kcy (R 3) (R 0) (1497 * i) 0 1497) := kOK_ext (kOK_copy b2) (fun j hj => by
        show (if 0 ≤ j ∧ j < 0 + 1497 then R 3 (1497 * i + (j - 0)) else _) = _
        rw [if_pos (by omega)]
        rfl)
      have hv : cCopy Z M 19 4 = kcy (R 3) (R 0) (1497 * i) 0 1497 1 := hk.1.1.cF
      have h30 := hk.2.1.f30
      have hO : kOut M (R 0) (cCopy Z M 19 4, cCopy Z M) (kcy (R 3) (R 0) (1497 * i) 0 1497 1, kcy (R 3) (R 0) (1497 * i) 0 1497) := kOut_ok hv hk (by rw [hk.2.1.f]; exact kI_ge _ (by omega))
      have hr := kRel_rec h hO hst
      have hnn : ¬ kcy (R 3) (R 0) (1497 * i) 0 1497 1 < 0 := i_nn (by rw [hk.2.1.f]; exact kI_ge _ (by omega))
      unfold kRecR at hr
      rw [if_neg hnn] at hr
      rw [ey]
      exact hr
  · rw [if_neg c] at hu ⊢
    obtain ⟨rfl, rfl⟩ := hu
    exact ⟨rfl, h⟩
theorem kRel_wipe {M : kN} {F : kFm} {o z : Nat} {P : Nat → Int32} {n vc : Nat} {R : kN} (h : kRel M F o z P n vc R) : nI n = R 7 1 ∧ kRel M F o z P 0 vc (sM R 7 1 0) := by
  obtain ⟨k1, ⟨a1, a2, a3, a4, a5⟩, k3, k6, k7⟩ := h
  exact ⟨a1.symm, k1, ⟨rfl, by omega, a3, a4, a5⟩, k3, k6, k7⟩
theorem kRel_put {M : kN} {F : kFm} {o z : Nat} {P : Nat → Int32} {n vc : Nat} {R : kN} (h : kRel M F o z P n vc R) (y : Int64) : (cApp P n y).1 = (mPut R y).1 ∧ kRel M F o z (cApp P n y).2.1 (cApp P n y).2.2 vc (mPut R y).2 := by
  obtain ⟨k1, ⟨a1, a2, a3, a4, a5⟩, k3, k6, k7⟩ := id h
  have kpn := (kRel_kp h).2
  unfold cApp mPut
  rcases cCount_m y with ⟨c1, c2⟩ | ⟨m, m1, m8, c1, c2⟩
  · rw [if_pos c1, c2, if_pos (by decide)]
    exact ⟨rfl, h⟩
  · rw [c1, c2, if_neg (fun q => absurd ((nI_z (by omega)).mp q) (by omega)), if_neg (i_nn (kI_ge _ (by omega))), nI_clamp (by omega), a1, nI_add]
    by_cases c3 : 80 < n + m
    · rw [if_pos c3, if_pos (show (80 : Int32) < nI (n + m) from (nI_ltI (a := 80) (b := n + m) (by omega) (by omega)).mpr c3)]
      exact ⟨rfl, h⟩
    · rw [if_neg c3, if_neg (fun (q : (80 : Int32) < nI (n + m)) => c3 ((nI_ltI (a := 80) (b := n + m) (by omega) (by omega)).mp q)), kpn]
      refine ⟨rfl, k1, ⟨by show nI (pn R + m) = nI (n + m); rw [kpn], by dsimp only; omega, ?_, a4, fun k hk => ?_⟩, k3, k6, k7⟩
      · show cApP P n y m m = mPutP (R 5) (pn R) y m m
        rw [kpn, ← a3, cPut_row P n y m m8]
      · show kChr (cApP P n y m m k)
        rw [cApP_at P n y m m (Nat.le_refl _)]
        split
        · exact cBy_chr y _
        · exact a5 k hk
theorem kRel_carry {M : kN} {F : kFm} {o z : Nat} {P : Nat → Int32} {n vc : Nat} {R : kN} {kd : Int32} {V : Nat → Int32} {r : Int32} {u : (kN × kFm × Nat × Nat) × kQ × Nat} (h : kRel M F o z P n vc R) (hu : cCarP M F o z P n kd V vc r u) : r = (mCarry R).1 ∧ kRel u.1.1 u.1.2.1 u.1.2.2.1 u.1.2.2.2 P u.2.2 u.2.1.2.2.2 (mCarry R).2 := by
  obtain ⟨k1, ⟨a1, a2, a3, a4, a5⟩, k3, k6, k7⟩ := id h
  have kpn := (kRel_kp h).2
  have hw := mText_w (R := R)
  have hfv := cFa_v (P := P) (n := n) 80 ((0, kd, V, vc) : kQ) (Nat.zero_le _) a4
  have hfa : (cFa P n 80 (0, kd, V, vc)).1 = mFault R := by
    rw [← kpn, a3]
    exact cFault_m (by omega)
  unfold cCarP at hu
  unfold mCarry
  have hiff : (cFa P n 80 (0, kd, V, vc)).1 = -6 ↔ (mText R).1 = true := by
    rw [hfa]
    unfold mFault
    by_cases c : (mText R).1 = true
    · rw [if_pos c]; exact ⟨fun _ => c, fun _ => rfl⟩
    · rw [if_neg c]
      refine ⟨fun q => ?_, fun q => absurd q c⟩
      exfalso
      have e1 := congrArg Int32.toInt q
      rw [nI_toInt (by omega)] at e1
      have e2 : (-6 : Int32).toInt = -6 := by decide
      omega
  by_cases c : (mText R).1 = true
  · rw [if_pos (hiff.mpr c)] at hu
    rw [if_pos c]
    obtain ⟨er, hst, eq', en⟩ := hu
    have hT : mTxt P n (n + 1) 0 0 (R 6) = (true, (mText R).2.1, (mText R).2.2.1, (mText R).2.2.2) := by
      have e : mText R = mTxt P n (n + 1) 0 0 (R 6) := by
        unfold mText
        rw [kpn, a3]
      rw [← e, ← c]
    have hR := cRun_m (P := P) (n := n) 80 (n + 1) 0 (R 6) (0, (cFa P n 80 (0, kd, V, vc)).2.2) M (R 0) (Nat.zero_le _) hfv (by show n < 0 + 3 * 80; omega) hT k1
    rw [Nat.sub_zero] at hR
    obtain ⟨r1, r2, r3⟩ := hR
    rw [r1] at er
    have hw3 : (mRun (mText R).2.2.1 (R 0) 0 (mText R).2.2.2).1 ≤ 80 := by
      have hle : ∀ (O : Nat → Int32) (m : Nat) (s : kS) (k : Nat), (mRun O s k m).1 ≤ k + m := by
        intro O m
        induction m with
        | zero => intro s k; exact Nat.le_refl _
        | succ m ih =>
          intro s k
          unfold mRun
          split
          · have := ih (mAct s (O (5 * k)) (O (5 * k + 1)) (O (5 * k + 2)) (O (5 * k + 3)) (O (5 * k + 4))) (k + 1)
            omega
          · exact Nat.le_add_right _ _
      have := hle (mText R).2.2.1 (mText R).2.2.2 (R 0) 0
      omega
    have hO : kOut M (R 0) (r, (cRun P n 80 M (0, (cFa P n 80 (0, kd, V, vc)).2.2) 0).2.1) (nI (mRun (mText R).2.2.1 (R 0) 0 (mText R).2.2.2).1, (mRun (mText R).2.2.1 (R 0) 0 (mText R).2.2.2).2) := kOut_ok er r2 (kI_ge _ (by omega))
    have h1 : kRel M F o z P n vc (pWr R (mText R).2.1 (mText R).2.2.1 (mText R).2.2.2) := kRel_same h a4 rfl rfl rfl rfl rfl rfl rfl
    have hr := kRel_rec h1 hO hst
    unfold kRecR at hr
    rw [if_neg (i_nn (kI_ge _ (by omega)))] at hr
    obtain ⟨hr1, hr2⟩ := hr
    refine ⟨hr1, ?_⟩
    obtain ⟨M1, q1, n1⟩ := u
    dsimp only at eq' en hr2 ⊢
    subst en
    obtain ⟨b1, ⟨b2, b3, b4, b5, b6⟩, b7, b8, b9⟩ := hr2
    refine ⟨b1, ⟨rfl, by omega, b4, by rw [eq']; exact r3, b6⟩, b7, b8, b9⟩
  · rw [if_neg (fun q => c (hiff.mp q))] at hu
    rw [if_neg c]
    obtain ⟨rfl, rfl⟩ := hu
    exact ⟨rfl, kRel_same h hfv rfl rfl rfl rfl rfl rfl rfl⟩
theorem kRel_fault {M : kN} {F : kFm} {o z : Nat} {P : Nat → Int32} {n vc : Nat} {R : kN} {kd : Int32} {V : Nat → Int32} (h : kRel M F o z P n vc R) : (cFa P n 80 (0, kd, V, vc)).1 = mFault R ∧ kRel M F o z P n (cFa P n 80 (0, kd, V, vc)).2.2.2.2 (pWr R (mText R).2.1 (mText R).2.2.1 (mText R).2.2.2) := by
  obtain ⟨k1, ⟨a1, a2, a3, a4, a5⟩, k3, k6, k7⟩ := id h
  have kpn := (kRel_kp h).2
  have hfv := cFa_v (P := P) (n := n) 80 ((0, kd, V, vc) : kQ) (Nat.zero_le _) a4
  refine ⟨?_, kRel_same h hfv rfl rfl rfl rfl rfl rfl rfl⟩
  rw [← kpn, a3]
  exact cFault_m (by omega)
