theorem rQ_at : ∀ g j, rQ g j = if 10 ≤ j ∧ j < 10 + g then 100 else rQ 0 j
  | 0, j => by rw [if_neg (by omega)]
  | g + 1, j => by
    show upd (rQ g) (10 + g) 100 j = _
    by_cases c : j = 10 + g
    · rw [c, upd_s, if_pos (by omega)]
    · rw [upd_o c, rQ_at g j]
      by_cases c2 : 10 ≤ j ∧ j < 10 + g
      · rw [if_pos c2, if_pos (by omega)]
      · rw [if_neg c2, if_neg (by omega)]
theorem rQ_0 (j : Nat) : rQ 0 j = if j = 9 then 30 else (if j = 8 then 5 else (if j = 7 then 8 else (if j = 6 then 100 else (if j = 5 then 60 else (if j = 4 then 10 else (if j = 3 then 4 else 0)))))) := rfl
theorem kRel_start : kRel cNew (fun _ => none) 0 0 (fun _ => 0) 0 0 rNew := by
  have r0 : ∀ j, rNew 0 j = if 10 ≤ j ∧ j < 16 then 100 else rQ 0 j := fun j => rQ_at 6 j
  have rz : ∀ j, (j < 3 ∨ 16 ≤ j) → rNew 0 j = 0 := fun j hj => by
    rw [r0, if_neg (by omega), rQ_0, if_neg (by omega), if_neg (by omega), if_neg (by omega), if_neg (by omega), if_neg (by omega), if_neg (by omega), if_neg (by omega)]
  have eF : mF (rNew 0) = 0 := by unfold mF; rw [rz 1 (by omega)]; rfl
  have eS : mS (rNew 0) = 0 := by unfold mS; rw [rz 2 (by omega)]; rfl
  have eY : mY (rNew 0) = 0 := by unfold mY; rw [rz 296 (by omega)]; rfl
  have eT : mT (rNew 0) = 4 := by
    unfold mT
    rw [r0, if_neg (by omega), rQ_0]
    rfl
  have e3 : rNew 0 3 = nI 4 := by rw [r0, if_neg (by omega), rQ_0]; rfl
  have e4 : rNew 0 4 = 10 := by rw [r0, if_neg (by omega), rQ_0]; rfl
  have e6 : rNew 0 6 = 100 := by rw [r0, if_neg (by omega), rQ_0]; rfl
  have e8 : rNew 0 8 = 5 := by rw [r0, if_neg (by omega), rQ_0]; rfl
  have hse : ∀ k, k < 7 → cNew 0 k = rNew 0 (3 + k) := fun k hk => by
    rw [r0, if_neg (by omega), rQ_0]
    rcases (show k = 0 ∨ k = 1 ∨ k = 2 ∨ k = 3 ∨ k = 4 ∨ k = 5 ∨ k = 6 by omega) with rfl | rfl | rfl | rfl | rfl | rfl | rfl <;> rfl
  have hqu : ∀ g, g < 6 → cNew 1 g = rNew 0 (10 + g) := fun g hg => by
    rw [r0, if_pos (by omega)]
    rcases (show g = 0 ∨ g = 1 ∨ g = 2 ∨ g = 3 ∨ g = 4 ∨ g = 5 by omega) with rfl | rfl | rfl | rfl | rfl | rfl <;> rfl
  have cz : ∀ q k, 2 ≤ q → cNew q k = 0 := fun q k hq => by
    unfold cNew
    rw [if_neg (by omega), if_neg (by omega)]
  have sz : ∀ n, sTo (fun _ => 0) n = 0 := fun n => by
    induction n with
    | zero => rfl
    | succ n ih => show sTo (fun _ => 0) n + 0 = 0; rw [ih]; rfl
  have cq : ∀ q, 2 ≤ q → cNew q = fun _ => 0 := fun q hq => funext (fun k => cz q k hq)
  refine ⟨⟨⟨?_, ?_, ?_, ?_, ?_⟩, ⟨?_, ?_, ?_, ?_, ?_, ?_⟩, ⟨⟨?_, ?_⟩, ?_, ?_⟩, ⟨⟨?_, ?_⟩, ?_, ?_, ?_⟩, ⟨?_, ?_⟩, ?_⟩, ⟨rfl, by omega, rfl, by omega, fun k _ => kChr_all ⟨0, by decide⟩ |>.1⟩, ⟨rfl, by omega, by omega⟩, fun j hj => absurd hj (Nat.not_lt_zero _), fun q hq => Or.inl ⟨rfl, rfl⟩⟩
  · rw [eF, eS, eY]
    intro q k j hj
    rcases hj with hj | hj | hj | hj | hj | hj | hj
    · obtain ⟨rfl, h1, rfl⟩ := hj; exact hse k h1
    · obtain ⟨rfl, h1, rfl⟩ := hj; exact hqu k h1
    · rw [cz q k hj.1, rz j (by omega)]
    · omega
    · omega
    · omega
    · rw [cz q k (by omega), rz j (by omega)]
  · rw [eY]; exact cz 19 7 (by omega)
  · rw [cq 3 (by omega), sz, rz 26 (by omega)]
  · rw [cq 4 (by omega), sz, rz 28 (by omega)]
  · rw [cq 5 (by omega), sz, rz 29 (by omega)]
  · rw [eF, rz 1 (by omega)]; exact ⟨rfl, by omega⟩
  · rw [eS, rz 2 (by omega)]; exact ⟨rfl, by omega⟩
  · rw [eY, rz 296 (by omega)]; exact ⟨rfl, by omega⟩
  · rw [eT, e3]; exact ⟨rfl, by omega⟩
  · intro f hf; rw [eF] at hf; omega
  · intro k hk; rw [eY] at hk; omega
  · rw [e4]; decide
  · rw [e6]; decide
  · intro k hk; rw [eY] at hk; omega
  · rw [eY]; decide
  · rw [e6]; decide
  · rw [e8]; decide
  · intro f hf; rw [eF] at hf; omega
  · rw [rz 28 (by omega)]; decide
  · rw [eF, rz 28 (by omega)]; decide
  · intro k hk
    rw [← hse k hk]
    rcases (show k = 0 ∨ k = 1 ∨ k = 2 ∨ k = 3 ∨ k = 4 ∨ k = 5 ∨ k = 6 by omega) with rfl | rfl | rfl | rfl | rfl | rfl | rfl <;> decide
  · intro g hg
    rw [r0, if_pos (by omega)]
    decide
  · unfold mNw
    rw [rz 0 (by omega)]
    decide
