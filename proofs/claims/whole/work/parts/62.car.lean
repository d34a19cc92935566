/-! orders carried out: what the walk needs -/
theorem cRun_0 {P : Nat → Int32} {n : Nat} {M : kN} {q : kQ} {z : Nat} : cRun P n 0 M q z = (z, M, q) := rfl
theorem cRun_no {P : Nat → Int32} {n f : Nat} {M : kN} {q : kQ} {z : Nat} (h : ¬ (cOrd P n q).1 = true) : cRun P n (f + 1) M q z = (z, M, (cOrd P n q).2) := if_neg h
theorem cRun_er {P : Nat → Int32} {n f : Nat} {M : kN} {q : kQ} {z : Nat} (h : (cOrd P n q).1 = true) (h2 : (cDo M (cOrd P n q).2.2.1 (cOrd P n q).2.2.2.1).1 < 0) : cRun P n (f + 1) M q z = (z, (cDo M (cOrd P n q).2.2.1 (cOrd P n q).2.2.2.1).2, (cOrd P n q).2) := (if_pos h).trans (if_pos h2)
theorem cRun_go {P : Nat → Int32} {n f : Nat} {M : kN} {q : kQ} {z : Nat} (h : (cOrd P n q).1 = true) (h2 : ¬ (cDo M (cOrd P n q).2.2.1 (cOrd P n q).2.2.2.1).1 < 0) : cRun P n (f + 1) M q z = cRun P n f (cDo M (cOrd P n q).2.2.1 (cOrd P n q).2.2.2.1).2 (pSg P n (cOrd P n q).2.1 59 59, (cOrd P n q).2.2) (z + 1) := (if_pos h).trans (if_neg h2)
theorem cFa_v {P : Nat → Int32} {n : Nat} : ∀ (f : Nat) (q : kQ), q.1 ≤ n → q.2.2.2 ≤ 4 → (cFa P n f q).2.2.2.2 ≤ 4
  | 0, q, h, hv => hv
  | f + 1, q, h, hv => by
    obtain ⟨h1, h2⟩ := cOrd_le (P := P) h hv
    by_cases c : (cOrd P n q).1 = true
    · by_cases c2 : (cOrd P n q).2.1 = n
      · rw [cFa_ok c c2]; exact h2
      · by_cases c3 : pAt P n (cOrd P n q).2.1 59 59
        · rw [cFa_go c c2 c3]
          have := c3.1
          exact cFa_v f _ (by show (cOrd P n q).2.1 + 1 ≤ n; omega) h2
        · rw [cFa_st c c2 c3]; exact h2
    · rw [cFa_no c]; exact h2
theorem cField_I {M : kN} (h : cI M) (g t p b : Int32) : cI (cField M g t p b).2 := by
  unfold cField
  by_cases c1 : pIn g 0 5
  · rw [if_pos c1]
    split
    · split
      · split
        · unfold cAddF
          split
          · rename_i c5
            have h30 := h.f30
            rw [h.f] at c5
            have hlt : nF M < 30 := (nI_ltI (a := nF M) (b := 30) (by omega) (by omega)).mp c5
            obtain ⟨j, rfl, j0, j5⟩ := pIn_nat c1 (show (0 : Int32) = nI 0 from rfl) (show (5 : Int32) = nI 5 from rfl) (by omega) (by omega)
            dsimp only
            generalize hK : sM (sM (sM (sM (sM (sM (sM (sM (sM M 6 (nF M) (nI j)) 7 (nF M) t) 8 (nF M) p) 9 (nF M) b) 10 (nF M) t) 11 (nF M) 0) 12 (nF M) 0) 13 (nF M) 0) 19 4 (M 19 4 + 1) = K
            have e19 : ∀ k, k ≠ 4 → K 19 k = M 19 k := fun k hk => by rw [← hK]; simp only [sM_at]; simp [hk]
            have e4 : K 19 4 = nI (nF M + 1) := by rw [← hK, sM_at, if_pos ⟨rfl, rfl⟩, h.f, nI_1]
            have e0 : ∀ k, K 0 k = M 0 k := fun k => by rw [← hK]; simp only [sM_at]; simp
            have e16 : ∀ k, K 16 k = M 16 k := fun k => by rw [← hK]; simp only [sM_at]; simp
            have e6 : ∀ k, K 6 k = if k = nF M then nI j else M 6 k := fun k => by rw [← hK]; simp only [sM_at]; simp
            have eF : nF K = nF M + 1 := by unfold nF; rw [e4]; exact nI_clamp (by unfold nF at hlt; omega)
            have eS : nS K = nS M := by unfold nS; rw [e19 5 (by omega)]
            have eY : nY K = nY M := by unfold nY; rw [e19 6 (by omega)]
            have eT : nT K = nT M := by unfold nT; rw [e0]
            refine ⟨?_, ?_, ?_, ?_, ?_, ?_⟩
            · rw [eF, e4]; exact ⟨rfl, by omega⟩
            · rw [eS, e19 5 (by omega)]; exact h.2.1
            · rw [eY, e19 6 (by omega)]; exact h.2.2.1
            · rw [eT, e0]; exact h.2.2.2.1
            · intro f hf
              rw [eF] at hf
              unfold gr
              rw [e6]
              by_cases cf : f = nF M
              · rw [if_pos cf, nI_clamp (by omega)]; exact ⟨rfl, by omega⟩
              · rw [if_neg cf]; exact h.g (by omega)
            · intro k hk
              rw [eY] at hk
              unfold fi
              rw [e16, eF]
              have := h.fk hk
              exact ⟨this.1, by have := this.2; unfold fi at this; omega⟩
          · exact h
        · exact h
      · exact h
    · exact h
  · rw [if_neg c1]; exact h
theorem cStop_I {M : kN} (h : cI M) (f l : Int32) : cI (cStop M f l).2 := by
  unfold cStop
  split
  · split
    · split
      · rename_i c5
        have h5 := h.s5
        rw [h.s] at c5
        have hlt : nS M < 5 := (nI_ltI (a := nS M) (b := 5) (by omega) (by omega)).mp c5
        dsimp only
        generalize hK : sM (sM (sM M 14 (nS M) f) 15 (nS M) l) 19 5 (M 19 5 + 1) = K
        have e19 : ∀ k, k ≠ 5 → K 19 k = M 19 k := fun k hk => by rw [← hK]; simp only [sM_at]; simp [hk]
        have e5 : K 19 5 = nI (nS M + 1) := by rw [← hK, sM_at, if_pos ⟨rfl, rfl⟩, h.s, nI_1]
        have e0 : ∀ k, K 0 k = M 0 k := fun k => by rw [← hK]; simp only [sM_at]; simp
        have e16 : ∀ k, K 16 k = M 16 k := fun k => by rw [← hK]; simp only [sM_at]; simp
        have e6 : ∀ k, K 6 k = M 6 k := fun k => by rw [← hK]; simp only [sM_at]; simp
        have eF : nF K = nF M := by unfold nF; rw [e19 4 (by omega)]
        have eS : nS K = nS M + 1 := by unfold nS; rw [e5]; exact nI_clamp (by unfold nS at hlt; omega)
        have eY : nY K = nY M := by unfold nY; rw [e19 6 (by omega)]
        have eT : nT K = nT M := by unfold nT; rw [e0]
        refine ⟨?_, ?_, ?_, ?_, ?_, ?_⟩
        · rw [eF, e19 4 (by omega)]; exact h.1
        · rw [eS, e5]; exact ⟨rfl, by omega⟩
        · rw [eY, e19 6 (by omega)]; exact h.2.2.1
        · rw [eT, e0]; exact h.2.2.2.1
        · intro f hf
          rw [eF] at hf
          unfold gr
          rw [e6]
          exact h.g hf
        · intro k hk
          rw [eY] at hk
          unfold fi
          rw [e16, eF]
          exact h.fk hk
      · exact h
    · exact h
  · exact h
theorem cQuota_I {M : kN} (h : cI M) (g t : Int32) : cI (cQuota M g t).2 := by
  unfold cQuota
  split
  · split
    · exact h.of rfl rfl rfl rfl (fun _ => rfl) (fun _ => rfl)
    · exact h
  · exact h
theorem cLend_I {M : kN} (h : cI M) (g o t : Int32) : cI (cLend M g o t).2 := by
  unfold cLend
  repeat' split
  all_goals first | exact h | exact h.of rfl rfl rfl rfl (fun _ => rfl) (fun _ => rfl)
theorem cPass_I {M : kN} (h : cI M) (d : Int32) : cI (cPass M d).2 := by
  unfold cPass
  split
  · split
    · exact cDays_I h _ _
    · exact h
  · exact h
theorem cDo_I {M : kN} (h : cI M) (k : Int32) (V : Nat → Int32) : cI (cDo M k V).2 := by
  unfold cDo
  split
  · exact cField_I h _ _ _ _
  · split
    · exact cLend_I h _ _ _
    · split
      · exact cQuota_I h _ _
      · split
        · exact cStop_I h _ _
        · exact cPass_I h _
def cCarP (M : kN) (F : kFm) (o z : Nat) (P : Nat → Int32) (n : Nat) (kd : Int32) (V : Nat → Int32) (vc : Nat) (r : Int32) (u : (kN × kFm × Nat × Nat) × kQ × Nat) : Prop :=
  if (cFa P n 80 (0, kd, V, vc)).1 = -6 then (r = nI (cRun P n 80 M (0, (cFa P n 80 (0, kd, V, vc)).2.2) 0).1 ∧ kSt M F o z r (cRun P n 80 M (0, (cFa P n 80 (0, kd, V, vc)).2.2) 0).2.1 u.1 ∧ u.2.1 = (cRun P n 80 M (0, (cFa P n 80 (0, kd, V, vc)).2.2) 0).2.2 ∧ u.2.2 = 0)
  else (r = -3 ∧ u = ((M, F, o, z), (cFa P n 80 (0, kd, V, vc)).2, n))
