/-! each call, on both sides -/
section OPS
variable {M : kN} {F : kFm} {o z : Nat} {P : Nat → Int32} {n vc : Nat} {R : kN} {r : Int32} {u : kN × kFm × Nat × Nat}
theorem kC_set {k v : Int32} (h : kRel M F o z P n vc R) (hw : r = (cSet M k v).1 ∧ kSt M F o z r (cSet M k v).2 u) : r = (mSet R k v).1 ∧ kRel u.1 u.2.1 u.2.2.1 u.2.2.2 P n vc (mSet R k v).2 := by
  obtain ⟨rfl, h2⟩ := hw
  rw [mSet_r h.1]
  exact kRel_rec h (aSet_sim h.1 k v) h2
theorem kC_quota {g q : Int32} (h : kRel M F o z P n vc R) (hw : r = (cQuota M g q).1 ∧ kSt M F o z r (cQuota M g q).2 u) : r = (mQuota R g q).1 ∧ kRel u.1 u.2.1 u.2.2.1 u.2.2.2 P n vc (mQuota R g q).2 := by
  obtain ⟨rfl, h2⟩ := hw
  rw [mQuota_r h.1]
  exact kRel_rec h (aQuota_sim h.1 g q) h2
theorem kC_lend {g j q : Int32} (h : kRel M F o z P n vc R) (hw : r = (cLend M g j q).1 ∧ kSt M F o z r (cLend M g j q).2 u) : r = (mLend R g j q).1 ∧ kRel u.1 u.2.1 u.2.2.1 u.2.2.2 P n vc (mLend R g j q).2 := by
  obtain ⟨rfl, h2⟩ := hw
  rw [mLend_r h.1]
  exact kRel_rec h (aLend_sim h.1 g j q) h2
theorem kC_field {g q p0 b0 : Int32} (h : kRel M F o z P n vc R) (hw : r = (cField M g q p0 b0).1 ∧ kSt M F o z r (cField M g q p0 b0).2 u) : r = (mField R g q p0 b0).1 ∧ kRel u.1 u.2.1 u.2.2.1 u.2.2.2 P n vc (mField R g q p0 b0).2 := by
  obtain ⟨rfl, h2⟩ := hw
  rw [mField_r h.1]
  exact kRel_rec h (aField_sim h.1 g q p0 b0) h2
theorem kC_stop {f q : Int32} (h : kRel M F o z P n vc R) (hw : r = (cStop M f q).1 ∧ kSt M F o z r (cStop M f q).2 u) : r = (mStop R f q).1 ∧ kRel u.1 u.2.1 u.2.2.1 u.2.2.2 P n vc (mStop R f q).2 := by
  obtain ⟨rfl, h2⟩ := hw
  rw [mStop_r h.1]
  exact kRel_rec h (aStop_sim h.1 f q) h2
theorem kC_dropStop {q : Int32} (h : kRel M F o z P n vc R) (hw : r = (cDropStop M q).1 ∧ kSt M F o z r (cDropStop M q).2 u) : r = (mDropStop R q).1 ∧ kRel u.1 u.2.1 u.2.2.1 u.2.2.2 P n vc (mDropStop R q).2 := by
  obtain ⟨rfl, h2⟩ := hw
  rw [mDropStop_r h.1]
  exact kRel_rec h (aDrop_sim h.1 q) h2
theorem kC_pass {q : Int32} (h : kRel M F o z P n vc R) (hw : r = (cPass M q).1 ∧ kSt M F o z r (cPass M q).2 u) : r = (mPass R q).1 ∧ kRel u.1 u.2.1 u.2.2.1 u.2.2.2 P n vc (mPass R q).2 := by
  obtain ⟨rfl, h2⟩ := hw
  rw [mPass_r h.1]
  exact kRel_rec h (aPass_sim h.1 q) h2
theorem kC_ofField (h : kRel M F o z P n vc R) (f q : Int32) : cOfField M f q = mOfField (R 0) f q := aOfField_m h.1.1 h.1.2.1 f q
theorem kC_ofGrower (h : kRel M F o z P n vc R) (g q : Int32) : cOfGrower M g q = mOfGrower (R 0) g q := aOfGrower_m h.1.1 g q
theorem kC_load (h : kRel M F o z P n vc R) (f q : Int32) : cLoad M f q = mLoad (R 0) f q := aLoad_m h.1.1 h.1.2.1 f q
theorem kC_count (h : kRel M F o z P n vc R) (q : Int32) : cCt M n z q = mCount R q := aCount_m h.1.1 h.2.1.1 h.2.2.1.1 q
theorem kC_fields (h : kRel M F o z P n vc R) (q : Int32) : cFields M q = mFields (R 0) q := aFields_m h.1.1 q
theorem kC_next (h : kRel M F o z P n vc R) : oI (cNextO M) = oI (mNextO (R 0)) := congrArg oI (mNextO_m h.1.1 h.1.2.1 h.1.2.2.1 h.1.2.2.2.1).1
theorem kC_then {T : Nat → Int32} (h : kRel M F o z P n vc R) : kRel M F o z P n vc (sR R 1 T) := kRel_same h h.2.1.2.2.2.1 rfl rfl rfl rfl rfl rfl rfl
theorem kC_hU (h : kRel M F o z P n vc R) : 0 < z → ∃ (α : Nat → Nat) (X : kN), F ((o + (z - 1)) % 7) = some (α, X) ∧ cI X := fun hz => by
  obtain ⟨α, X, h1, h2⟩ := h.2.2.2.1 (z - 1) (by omega)
  exact ⟨α, X, h1, kSim_I h2.1 h2.2.1⟩
theorem kC_hFI (h : kRel M F o z P n vc R) : ∀ k, k < 2 → ∀ (α : Nat → Nat) (X : kN), F (7 + k) = some (α, X) → cI X := fun k hk α X hF => by
  rcases h.2.2.2.2 k hk with ⟨-, b⟩ | ⟨-, β, Z, b1, b2⟩
  · rw [b] at hF; cases hF
  · rw [b1] at hF
    have : Z = X := congrArg Prod.snd (Option.some.inj hF)
    subst this
    exact kSim_I b2.1 b2.2.1
end OPS
/-! the start -/
theorem rQ_at : ∀ g j, rQ g j = if 10 ≤ j ∧ j < 10 + g then 100 else rQ 0 j
  | 0, j => by rw [if_neg (by omega)]
  | g + 1, j => by
    show upd (rQ g) (10 + g) 100 j = _
    by_cases c : j = 10 + g
    · rw [c, upd_s, if_pos (by omega)]
    · rw [upd_o c, rQ_at g j]
      by_cases c2 : 10 ≤ j ∧ j < 10 + g
      · rw [if_pos c2, if_pos (by omega)]
      · rw [if_neg c2, if_neg (by omega)]
theorem rQ_0 (j : Nat) : rQ 0 j = if j = 9 then 30 else (if j = 8 then 5 else (if j = 7 then 8 else (if j = 6 then 100 else (if j = 5 then 60 else (if j = 4 then 10 else (if j = 3 then 4 else 0)))))) := rfl
theorem kRel_start : kRel cNew (fun _ => none) 0 0 (fun _ => 0) 0 0 rNew := by
  have r0 : ∀ j, rNew 0 j = if 10 ≤ j ∧ j < 16 then 100 else rQ 0 j := fun j => rQ_at 6 j
  have rz : ∀ j, (j < 3 ∨ 16 ≤ j) → rNew 0 j = 0 := fun j hj => by
    rw [r0, if_neg (by omega), rQ_0, if_neg (by omega), if_neg (by omega), if_neg (by omega), if_neg (by omega), if_neg (by omega), if_neg (by omega), if_neg (by omega)]
  have eF : mF (rNew 0) = 0 := by unfold mF; rw [rz 1 (by omega)]; rfl
  have eS : mS (rNew 0) = 0 := by unfold mS; rw [rz 2 (by omega)]; rfl
  have eY : mY (rNew 0) = 0 := by unfold mY; rw [rz 296 (by omega)]; rfl
  have eT : mT (rNew 0) = 4 := by
    unfold mT
    rw [r0, if_neg (by omega), rQ_0]
    rfl
  have e3 : rNew 0 3 = nI 4 := by rw [r0, if_neg (by omega), rQ_0]; rfl
  have e4 : rNew 0 4 = 10 := by rw [r0, if_neg (by omega), rQ_0]; rfl
  have e6 : rNew 0 6 = 100 := by rw [r0, if_neg (by omega), rQ_0]; rfl
  have e8 : rNew 0 8 = 5 := by rw [r0, if_neg (by omega), rQ_0]; rfl
  have hse : ∀ k, k < 7 → cNew 0 k = rNew 0 (3 + k) := fun k hk => by
    rw [r0, if_neg (by omega), rQ_0]
    rcases (show k = 0 ∨ k = 1 ∨ k = 2 ∨ k = 3 ∨ k = 4 ∨ k = 5 ∨ k = 6 by omega) with rfl | rfl | rfl | rfl | rfl | rfl | rfl <;> rfl
  have hqu : ∀ g, g < 6 → cNew 1 g = rNew 0 (10 + g) := fun g hg => by
    rw [r0, if_pos (by omega)]
    rcases (show g = 0 ∨ g = 1 ∨ g = 2 ∨ g = 3 ∨ g = 4 ∨ g = 5 by omega) with rfl | rfl | rfl | rfl | rfl | rfl <;> rfl
  have cz : ∀ q k, 2 ≤ q → cNew q k = 0 := fun q k hq => by
    unfold cNew
    rw [if_neg (by omega), if_neg (by omega)]
  have sz : ∀ n, sTo (fun _ => 0) n = 0 := fun n => by
    induction n with
    | zero => rfl
    | succ n ih => show sTo (fun _ => 0) n + 0 = 0; rw [ih]; rfl
  have cq : ∀ q, 2 ≤ q → cNew q = fun _ => 0 := fun q hq => funext (fun k => cz q k hq)
  refine ⟨⟨⟨?_, ?_, ?_, ?_, ?_⟩, ⟨?_, ?_, ?_, ?_, ?_, ?_⟩, ⟨⟨?_, ?_⟩, ?_, ?_⟩, ⟨⟨?_, ?_⟩, ?_, ?_, ?_⟩, ⟨?_, ?_⟩, ?_⟩, ⟨rfl, by omega, rfl, by omega, fun k _ => kChr_all ⟨0, by decide⟩ |>.1⟩, ⟨rfl, by omega, by omega⟩, fun j hj => absurd hj (Nat.not_lt_zero _), fun q hq => Or.inl ⟨rfl, rfl⟩⟩
  · rw [eF, eS, eY]
    intro q k j hj
    rcases hj with hj | hj | hj | hj | hj | hj | hj
    · obtain ⟨rfl, h1, rfl⟩ := hj; exact hse k h1
    · obtain ⟨rfl, h1, rfl⟩ := hj; exact hqu k h1
    · rw [cz q k hj.1, rz j (by omega)]
    · omega
    · omega
    · omega
    · rw [cz q k (by omega), rz j (by omega)]
  · rw [eY]; exact cz 19 7 (by omega)
  · rw [cq 3 (by omega), sz, rz 26 (by omega)]
  · rw [cq 4 (by omega), sz, rz 28 (by omega)]
  · rw [cq 5 (by omega), sz, rz 29 (by omega)]
  · rw [eF, rz 1 (by omega)]; exact ⟨rfl, by omega⟩
  · rw [eS, rz 2 (by omega)]; exact ⟨rfl, by omega⟩
  · rw [eY, rz 296 (by omega)]; exact ⟨rfl, by omega⟩
  · rw [eT, e3]; exact ⟨rfl, by omega⟩
  · intro f hf; rw [eF] at hf; omega
  · intro k hk; rw [eY] at hk; omega
  · rw [e4]; decide
  · rw [e6]; decide
  · intro k hk; rw [eY] at hk; omega
  · rw [eY]; decide
  · rw [e6]; decide
  · rw [e8]; decide
  · intro f hf; rw [eF] at hf; omega
  · rw [rz 28 (by omega)]; decide
  · rw [eF, rz 28 (by omega)]; decide
  · intro k hk
    rw [← hse k hk]
    rcases (show k = 0 ∨ k = 1 ∨ k = 2 ∨ k = 3 ∨ k = 4 ∨ k = 5 ∨ k = 6 by omega) with rfl | rfl | rfl | rfl | rfl | rfl | rfl <;> decide
  · intro g hg
    rw [r0, if_pos (by omega)]
    decide
  · unfold mNw
    rw [rz 0 (by omega)]
    decide
