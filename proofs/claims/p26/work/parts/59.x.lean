theorem cTrk_I {M : kN} (h : cI M) {v : Nat} (hv : v ≤ 20) : cI (sM M 0 0 (nI v)) := by
  have e : sM M 0 0 (nI v) 0 0 = nI v := by rw [sM_at, if_pos ⟨rfl, rfl⟩]
  refine ⟨h.1, h.2.1, h.2.2.1, ?_, h.2.2.2.2.1, h.2.2.2.2.2⟩
  have eT : nT (sM M 0 0 (nI v)) = v := by
    unfold nT
    rw [e, nI_clamp (by omega)]
  rw [eT, e]
  exact ⟨rfl, hv⟩
